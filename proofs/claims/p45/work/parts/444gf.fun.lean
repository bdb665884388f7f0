section
/-! FUNCTIONAL CONTRACTS, by fgen.py -/
theorem oc_171_46 : (Int32.ofInt (-1)).toInt = (-1) ∧ (Int32.ofInt 0).toInt = 0 ∧ (Int32.ofInt 1).toInt = 1 ∧ (Int32.ofInt 3).toInt = 3 ∧ (Int32.ofInt 4).toInt = 4 ∧ (Int32.ofInt 32).toInt = 32 ∧ (Int32.ofInt 45).toInt = 45 ∧ (Int32.ofInt 48).toInt = 48 ∧ (Int32.ofInt 57).toInt = 57 ∧ (Int32.ofInt 59).toInt = 59 ∧ (Int32.ofInt 97).toInt = 97 ∧ (Int32.ofInt 122).toInt = 122 := ⟨rfl, rfl, rfl, rfl, rfl, rfl, rfl, rfl, rfl, rfl, rfl, rfl⟩
/-- GraphHouse$Script.next -/
theorem f_171_46 {Z : AmZ} {A : Nat → Nat} {s : GS} {ex : va_W} {d : Nat} {X : AmX} {x1 : Int32} {x2 : Int32} {u_46_2 : Int32} {u_46_1 : Int32} (hd : 4 ≤ d) (hI : Inv s) (h1 : In x1 7 7) (h2 : In x2 1 1) (e_46_2 : u_46_2 = s.2.2.1 46 2) (e_46_1 : u_46_1 = s.2.2.1 46 1) (p_0 : (u_46_2).toInt ≤ (u_46_1).toInt) : GC Z d 171 [.ref (A 46), .int x1, .int x2] (WW Z A s ++ ex) 0 0 (fun v u => ∃ t : GS, Inv t ∧ Fr fm_171_46 s t ∧ ((t.2.2.1 46 2).toInt ≤ (t.2.2.1 46 1).toInt) ∧ ((t.2.2.1 46 4).toInt ≤ (t.2.2.1 46 2).toInt) ∧ ((s.2.2.1 46 2).toInt ≤ (t.2.2.1 46 4).toInt) ∧ v = none ∧ u = WW Z A t ++ ex ∧ ((x1).toInt = 6 → TK t) ∧ ((t.2.2.1 46 3).toInt = 1 → In (t.2.2.1 46 5) 0 25) ∧ (TKN (s.1 47) (s.2.2.1 46 1).toInt.toNat (s.2.2.1 46 2).toInt.toNat (t.2.2.1 46 4).toInt.toNat (t.2.2.1 46 2).toInt.toNat (t.2.2.1 46 3).toInt (t.2.2.1 46 5).toInt)) X := by
  intro post xp hP hX
  have ro_46_1 := inv_F hI 0 1000 rfl e_46_1
  have ct0 : ∀ (k0 : Nat) (sc0 : GS) (w0_46_2 : Int32), Inv sc0 → Fr fm_171_46 s sc0 → ((x2).toInt ≠ 0) → (w0_46_2 = sc0.2.2.1 46 2) → ((w0_46_2).toInt ≤ (u_46_1).toInt) → ((u_46_2).toInt ≤ (w0_46_2).toInt) → (∀ i : Nat, (s.2.2.1 46 2).toInt.toNat ≤ i → (i : Int) < (w0_46_2).toInt → (s.1 47 i).toInt = 32) → (u_46_1).toInt - (w0_46_2).toInt < (k0 : Int) → GG Z (d - 1) 171 post (gx xp) (1 + k0 * 900) 0 (fun j => xlook j [(0, .ref (A 46)), (1, .int x1), (2, .int x2)]) [] (WW Z A sc0 ++ ex) 0 0 := by
    intro k0
    induction k0 with
    | zero => intro sc0 w0_46_2 hIc0 hFc0 nz0_2 v0_46_2 n0_0 n0_1 g0_0 mm0; exfalso; have a0 := oa4 h2 h1 ro_46_1 ((inv_F hIc0 0 1000 rfl v0_46_2)); have oc := oc_171_46; omega
    | succ k0 ih0 =>
      intro sc0 w0_46_2 hIc0 hFc0 nz0_2 v0_46_2 n0_0 n0_1 g0_0 mm0
      refine gg_w (M := 1 + k0 * 900 + 900) gws ?_
      refine g_aload_n 1 (gd rfl) rfl rfl ?_
      refine g_getI 4 (gd rfl) rfl rfl rfl (fun z1 e1 => ?_)
      have q1 : w0_46_2 = z1 := (v0_46_2).trans e1.symm
      subst q1
      refine g_aload_n 5 (gd rfl) rfl rfl ?_
      refine g_getI 8 (gd rfl) rfl rfl rfl (fun z5 e5 => ?_)
      have q5 : u_46_1 = z5 := (fr_F e_46_1 hFc0 rfl).trans e5.symm
      subst q5
      refine g_cmp_ge 11 38 (gd rfl) rfl rfl (fun c8 => ?_) (fun c8 => ?_)
      · skip
        refine g_aload_n 39 (gd rfl) rfl rfl ?_
        refine g_aload_n 40 (gd rfl) rfl rfl ?_
        refine g_getI 43 (gd rfl) rfl rfl rfl (fun z40 e40 => ?_)
        have q40 : w0_46_2 = z40 := (v0_46_2).trans e40.symm
        subst q40
        refine g_putI 46 (gd rfl) rfl rfl rfl rfl ?_
        have hI43 := inv_sF (q := 46) (j := 4) hIc0 rfl (in_w 0 1000 (inv_F hIc0 0 1000 rfl v0_46_2) rfl)
        refine g_aload_n 47 (gd rfl) rfl rfl ?_
        refine g_iconst 0 48 (gd rfl) rfl rfl ?_
        refine g_putI 51 (gd rfl) rfl rfl rfl rfl ?_
        have hI48 := inv_sF (q := 46) (j := 3) hI43 rfl (in_w 0 5 (in_c 0 rfl) rfl)
        refine g_aload_n 52 (gd rfl) rfl rfl ?_
        refine g_getI 55 (gd rfl) rfl rfl rfl (fun z52 e52 => ?_)
        have q52 : w0_46_2 = z52 := (sF_ne rfl (sF_ne rfl (v0_46_2))).trans e52.symm
        subst q52
        refine g_aload_n 56 (gd rfl) rfl rfl ?_
        refine g_getI 59 (gd rfl) rfl rfl rfl (fun z56 e56 => ?_)
        have q56 : u_46_1 = z56 := (sF_ne rfl (sF_ne rfl (fr_F e_46_1 hFc0 rfl))).trans e56.symm
        subst q56
        refine g_cmp_lt 62 63 (gd rfl) rfl rfl (fun c59 => ?_) (fun c59 => ?_)
        · skip
          have i59 := r_lt1 0 999 c59 (inv_F hIc0 0 1000 rfl v0_46_2) ro_46_1 rfl
          have i59a := r_lt2 1 1000 c59 (inv_F hIc0 0 1000 rfl v0_46_2) ro_46_1 rfl
          refine g_aload_n 64 (gd rfl) rfl rfl ?_
          refine g_getA (q2 := 47) 67 (gd rfl) rfl rfl rfl rfl ?_
          refine g_aload_n 68 (gd rfl) rfl rfl ?_
          refine g_getI 71 (gd rfl) rfl rfl rfl (fun z68 e68 => ?_)
          have q68 : w0_46_2 = z68 := (sF_ne rfl (sF_ne rfl (v0_46_2))).trans e68.symm
          subst q68
          refine g_caload 72 (gd rfl) rfl (n := 1000) rfl (in_ix i59 rfl) (fun z71 e71 => ?_)
          have i71 := inv_I hI48 (n := 1000) (t := 2) 0 65535 rfl (in_ix i59 rfl) rfl e71
          refine g_istore_n 73 (gd rfl) rfl (Nat.le_of_ble_eq_true rfl) ?_
          refine g_iload_n 74 (gd rfl) rfl rfl ?_
          refine g_if_eq 77 87 (gd rfl) rfl rfl (fun c74 => ?_) (fun c74 => ?_)
          · skip
            exact zn_eq c74 h2 rfl
          · skip
            refine g_iload_n 78 (gd rfl) rfl rfl ?_
            refine g_bipush 45 80 (gd rfl) rfl rfl ?_
            refine g_cmp_ne 83 87 (gd rfl) rfl rfl (fun c80 => ?_) (fun c80 => ?_)
            · skip
              refine g_iconst 0 88 (gd rfl) rfl rfl ?_
              refine g_istore 90 (gd rfl) rfl (Nat.le_of_ble_eq_true rfl) ?_
              refine g_aload_n 91 (gd rfl) rfl rfl ?_
              refine g_iload 93 (gd rfl) rfl rfl ?_
              refine g_if_eq 96 105 (gd rfl) rfl rfl (fun c93 => ?_) (fun c93 => ?_)
              · skip
                refine g_aload_n 106 (gd rfl) rfl rfl ?_
                refine g_getI 109 (gd rfl) rfl rfl rfl (fun z106 e106 => ?_)
                have q106 : w0_46_2 = z106 := (sF_ne rfl (sF_ne rfl (v0_46_2))).trans e106.symm
                subst q106
                refine g_callv (X := _) (As := [.int w0_46_2]) (r := []) (b := A 46) (q := 46) 112 (gd rfl) rfl rfl rfl rfl rfl (ww_o rfl) (Nat.le_of_ble_eq_true rfl) (mc := 0) (ms := 0) (Nat.zero_le _) (Nat.zero_le _) (P := fun v u => _) ?_ (fun e u h => h) (fun v u h => h)
                intro po109 xx109 hp109 hx109
                refine g_enter2 (k := 172) (N := 300) (by first | exact dq1 hd rfl | exact dq0 hd rfl | exact dq2 hd rfl | exact dq3 hd rfl | omega) rfl (Nat.le_of_ble_eq_true rfl) ?_
                refine g_iload_n 1 (gd rfl) rfl rfl ?_
                refine g_aload_n 2 (gd rfl) rfl rfl ?_
                refine g_getI 5 (gd rfl) rfl rfl rfl (fun z109x2 e109x2 => ?_)
                have q109x2 : u_46_1 = z109x2 := (sF_ne rfl (sF_ne rfl (fr_F e_46_1 hFc0 rfl))).trans e109x2.symm
                subst q109x2
                refine g_cmp_ge 8 34 (gd rfl) rfl rfl (fun c109x5 => ?_) (fun c109x5 => ?_)
                · skip
                  have i109x5 := r_le1 1 999 c109x5 i59a i59 rfl
                  have i109x5a := r_le2 1 999 c109x5 i59a i59 rfl
                  refine g_iconst 0 35 (gd rfl) rfl rfl ?_
                  refine g_ireturn (gd rfl) rfl (nb01 (in_w 0 1 (in_c 0 rfl) rfl)) (hp109 _ _ ?_)
                  show GG _ _ _ _ _ _ _ _ [.int (Int32.ofInt 0)] _ _ _
                  refine g_if_eq 115 123 (gd rfl) rfl rfl (fun c112 => ?_) (fun c112 => ?_)
                  · skip
                    refine g_aload_n 124 (gd rfl) rfl rfl ?_
                    refine g_dup 125 (gd rfl) rfl rfl ?_
                    refine g_getI 128 (gd rfl) rfl rfl rfl (fun z125 e125 => ?_)
                    have q125 : w0_46_2 = z125 := (sF_ne rfl (sF_ne rfl (v0_46_2))).trans e125.symm
                    subst q125
                    refine g_iconst 1 129 (gd rfl) rfl rfl ?_
                    refine g_iadd 130 (gd rfl) rfl (fun z129 e129 => ?_)
                    have i129 := in_add 2 1000 e129 i109x5a (in_c 1 rfl) rfl rfl
                    refine g_putI 133 (gd rfl) rfl rfl rfl rfl ?_
                    have hI130 := inv_sF (q := 46) (j := 2) hI48 rfl (in_w 0 1000 i129 rfl)
                    refine g_iload_n 134 (gd rfl) rfl rfl ?_
                    refine g_bipush 97 136 (gd rfl) rfl rfl ?_
                    refine g_cmp_lt 139 159 (gd rfl) rfl rfl (fun c136 => ?_) (fun c136 => ?_)
                    · skip
                      have i136 := r_lt1 0 96 c136 i71 (in_c 97 rfl) rfl
                      refine g_aload_n 160 (gd rfl) rfl rfl ?_
                      refine g_iload_n 161 (gd rfl) rfl rfl ?_
                      refine g_iload_n 162 (gd rfl) rfl rfl ?_
                      refine g_calls (As := [.int z71, .int x2]) (r := [.ref (A 46)]) 165 (gd rfl) rfl rfl rfl rfl rfl (Nat.le_of_ble_eq_true rfl) (mc := 0) (ms := 0) (Nat.zero_le _) (Nat.zero_le _) (P := fun v u => _) ?_ (fun v u h => h)
                      intro po162 xx162 hp162 hx162
                      refine g_enter2 (k := 174) (N := 300) (by first | exact dq1 hd rfl | exact dq0 hd rfl | exact dq2 hd rfl | exact dq3 hd rfl | omega) rfl (Nat.le_of_ble_eq_true rfl) ?_
                      refine g_iload_n 1 (gd rfl) rfl rfl ?_
                      refine g_bipush 59 3 (gd rfl) rfl rfl ?_
                      refine g_cmp_eq 6 19 (gd rfl) rfl rfl (fun c162x3 => ?_) (fun c162x3 => ?_)
                      · skip
                        have i162x3 := r_eq1 59 59 c162x3 i136 (in_c 59 rfl) rfl
                        refine g_iconst 1 20 (gd rfl) rfl rfl ?_
                        refine g_goto 24 (gd rfl) rfl ?_
                        refine g_ireturn (gd rfl) rfl (nb01 (in_w 0 1 (in_c 1 rfl) rfl)) (hp162 _ _ ?_)
                        show GG _ _ _ _ _ _ _ _ [.int (Int32.ofInt 1), .ref (A 46)] _ _ _
                        refine g_if_eq 168 172 (gd rfl) rfl rfl (fun c165 => ?_) (fun c165 => ?_)
                        · skip
                          exact zn_eq c165 (in_c 1 rfl) rfl
                        · skip
                          refine g_iconst 3 169 (gd rfl) rfl rfl ?_
                          refine g_goto 173 (gd rfl) rfl ?_
                          refine g_putI 176 (gd rfl) rfl rfl rfl rfl ?_
                          have hI173 := inv_sF (q := 46) (j := 3) hI130 rfl (in_w 0 5 (in_c 3 rfl) rfl)
                          refine g_aload_n 177 (gd rfl) rfl rfl ?_
                          refine g_iload_n 178 (gd rfl) rfl rfl ?_
                          refine g_putI 181 (gd rfl) rfl rfl rfl rfl ?_
                          have hI178 := inv_sF (q := 46) (j := 5) hI173 rfl (in_w (-2147483648) 2147483647 i162x3 rfl)
                          have n181 : (x1).toInt = 6 → TK (sF (sF (sF (sF (sF sc0 46 4 w0_46_2) 46 3 (Int32.ofInt 0)) 46 2 z129) 46 3 (Int32.ofInt 3)) 46 5 z71) := by intro h6; exfalso; have a0 := oa8 h2 h1 i109x5 i109x5a ((in_c 0 rfl)) i162x3 ((in_c 3 rfl)) i129; have a8 := t_add e129 i109x5a (in_c 1 rfl) rfl; have a9 := in_u ((in_c 1 rfl)); have oc := oc_171_46; omega
                          have n181a : ((sF (sF (sF (sF (sF sc0 46 4 w0_46_2) 46 3 (Int32.ofInt 0)) 46 2 z129) 46 3 (Int32.ofInt 3)) 46 5 z71).2.2.1 46 3).toInt = 1 → In ((sF (sF (sF (sF (sF sc0 46 4 w0_46_2) 46 3 (Int32.ofInt 0)) 46 2 z129) 46 3 (Int32.ofInt 3)) 46 5 z71).2.2.1 46 5) 0 25 := by intro h1; rw [← (show (Int32.ofInt 3) = (sF (sF (sF (sF (sF sc0 46 4 w0_46_2) 46 3 (Int32.ofInt 0)) 46 2 z129) 46 3 (Int32.ofInt 3)) 46 5 z71).2.2.1 46 3 from sF_ne rfl (sF_get))] at h1; exact absurd h1 (by decide)
                          have n181b : TKN (s.1 47) (s.2.2.1 46 1).toInt.toNat (s.2.2.1 46 2).toInt.toNat ((sF (sF (sF (sF (sF sc0 46 4 w0_46_2) 46 3 (Int32.ofInt 0)) 46 2 z129) 46 3 (Int32.ofInt 3)) 46 5 z71).2.2.1 46 4).toInt.toNat ((sF (sF (sF (sF (sF sc0 46 4 w0_46_2) 46 3 (Int32.ofInt 0)) 46 2 z129) 46 3 (Int32.ofInt 3)) 46 5 z71).2.2.1 46 2).toInt.toNat ((sF (sF (sF (sF (sF sc0 46 4 w0_46_2) 46 3 (Int32.ofInt 0)) 46 2 z129) 46 3 (Int32.ofInt 3)) 46 5 z71).2.2.1 46 3).toInt ((sF (sF (sF (sF (sF sc0 46 4 w0_46_2) 46 3 (Int32.ofInt 0)) 46 2 z129) 46 3 (Int32.ofInt 3)) 46 5 z71).2.2.1 46 5).toInt := by exfalso; have a0 := oa8 h2 h1 i109x5 i109x5a ((in_c 0 rfl)) i162x3 ((in_c 3 rfl)) i129; have a8 := t_add e129 i109x5a (in_c 1 rfl) rfl; have a9 := in_u ((in_c 1 rfl)); have oc := oc_171_46; omega
                          have n181c : (z129).toInt ≤ (u_46_1).toInt := by have a0 := oa8 h2 h1 i109x5 i109x5a ((in_c 0 rfl)) i162x3 ((in_c 3 rfl)) i129; have a8 := t_add e129 i109x5a (in_c 1 rfl) rfl; have a9 := in_u ((in_c 1 rfl)); have oc := oc_171_46; omega
                          have n181d : ((sF (sF (sF (sF (sF sc0 46 4 w0_46_2) 46 3 (Int32.ofInt 0)) 46 2 z129) 46 3 (Int32.ofInt 3)) 46 5 z71).2.2.1 46 2).toInt ≤ ((sF (sF (sF (sF (sF sc0 46 4 w0_46_2) 46 3 (Int32.ofInt 0)) 46 2 z129) 46 3 (Int32.ofInt 3)) 46 5 z71).2.2.1 46 1).toInt := by have b0 : z129 = (sF (sF (sF (sF (sF sc0 46 4 w0_46_2) 46 3 (Int32.ofInt 0)) 46 2 z129) 46 3 (Int32.ofInt 3)) 46 5 z71).2.2.1 46 2 := sF_ne rfl (sF_ne rfl (sF_get)); have b1 : u_46_1 = (sF (sF (sF (sF (sF sc0 46 4 w0_46_2) 46 3 (Int32.ofInt 0)) 46 2 z129) 46 3 (Int32.ofInt 3)) 46 5 z71).2.2.1 46 1 := sF_ne rfl (sF_ne rfl (sF_ne rfl (sF_ne rfl (sF_ne rfl (fr_F e_46_1 hFc0 rfl))))); rw [← b0, ← b1]; exact n181c
                          have n181e : (w0_46_2).toInt ≤ (z129).toInt := by have a0 := oa8 h2 h1 i109x5 i109x5a ((in_c 0 rfl)) i162x3 ((in_c 3 rfl)) i129; have a8 := t_add e129 i109x5a (in_c 1 rfl) rfl; have a9 := in_u ((in_c 1 rfl)); have oc := oc_171_46; omega
                          have n181f : ((sF (sF (sF (sF (sF sc0 46 4 w0_46_2) 46 3 (Int32.ofInt 0)) 46 2 z129) 46 3 (Int32.ofInt 3)) 46 5 z71).2.2.1 46 4).toInt ≤ ((sF (sF (sF (sF (sF sc0 46 4 w0_46_2) 46 3 (Int32.ofInt 0)) 46 2 z129) 46 3 (Int32.ofInt 3)) 46 5 z71).2.2.1 46 2).toInt := by have b0 : w0_46_2 = (sF (sF (sF (sF (sF sc0 46 4 w0_46_2) 46 3 (Int32.ofInt 0)) 46 2 z129) 46 3 (Int32.ofInt 3)) 46 5 z71).2.2.1 46 4 := sF_ne rfl (sF_ne rfl (sF_ne rfl (sF_ne rfl (sF_get)))); have b1 : z129 = (sF (sF (sF (sF (sF sc0 46 4 w0_46_2) 46 3 (Int32.ofInt 0)) 46 2 z129) 46 3 (Int32.ofInt 3)) 46 5 z71).2.2.1 46 2 := sF_ne rfl (sF_ne rfl (sF_get)); rw [← b0, ← b1]; exact n181e
                          have n181g : (u_46_2).toInt ≤ (w0_46_2).toInt := by first | exact n0_1 | (have a0 := oa8 h2 h1 i109x5 i109x5a ((in_c 0 rfl)) i162x3 ((in_c 3 rfl)) i129; have a8 := t_add e129 i109x5a (in_c 1 rfl) rfl; have a9 := in_u ((in_c 1 rfl)); have oc := oc_171_46; omega)
                          have n181h : (s.2.2.1 46 2).toInt ≤ ((sF (sF (sF (sF (sF sc0 46 4 w0_46_2) 46 3 (Int32.ofInt 0)) 46 2 z129) 46 3 (Int32.ofInt 3)) 46 5 z71).2.2.1 46 4).toInt := by have b0 : w0_46_2 = (sF (sF (sF (sF (sF sc0 46 4 w0_46_2) 46 3 (Int32.ofInt 0)) 46 2 z129) 46 3 (Int32.ofInt 3)) 46 5 z71).2.2.1 46 4 := sF_ne rfl (sF_ne rfl (sF_ne rfl (sF_ne rfl (sF_get)))); rw [← b0, ← e_46_2]; exact n181g
                          exact g_return (gd rfl) rfl (hP _ _ ⟨(sF (sF (sF (sF (sF sc0 46 4 w0_46_2) 46 3 (Int32.ofInt 0)) 46 2 z129) 46 3 (Int32.ofInt 3)) 46 5 z71), hI178, (fr_sF rfl (fr_sF rfl (fr_sF rfl (fr_sF rfl (fr_sF rfl hFc0))))), n181d, n181f, n181h, rfl, rfl, n181, n181a, n181b⟩)
                      · skip
                        refine g_iload_n 7 (gd rfl) rfl rfl ?_
                        refine g_if_ne 10 23 (gd rfl) rfl rfl (fun c162x7 => ?_) (fun c162x7 => ?_)
                        · skip
                          refine g_iconst 0 24 (gd rfl) rfl rfl ?_
                          refine g_ireturn (gd rfl) rfl (nb01 (in_w 0 1 (in_c 0 rfl) rfl)) (hp162 _ _ ?_)
                          show GG _ _ _ _ _ _ _ _ [.int (Int32.ofInt 0), .ref (A 46)] _ _ _
                          refine g_if_eq 168 172 (gd rfl) rfl rfl (fun c165 => ?_) (fun c165 => ?_)
                          · skip
                            refine g_iconst 4 173 (gd rfl) rfl rfl ?_
                            refine g_putI 176 (gd rfl) rfl rfl rfl rfl ?_
                            have hI173 := inv_sF (q := 46) (j := 3) hI130 rfl (in_w 0 5 (in_c 4 rfl) rfl)
                            refine g_aload_n 177 (gd rfl) rfl rfl ?_
                            refine g_iload_n 178 (gd rfl) rfl rfl ?_
                            refine g_putI 181 (gd rfl) rfl rfl rfl rfl ?_
                            have hI178 := inv_sF (q := 46) (j := 5) hI173 rfl (in_w (-2147483648) 2147483647 i136 rfl)
                            have n181 : (x1).toInt = 6 → TK (sF (sF (sF (sF (sF sc0 46 4 w0_46_2) 46 3 (Int32.ofInt 0)) 46 2 z129) 46 3 (Int32.ofInt 4)) 46 5 z71) := by intro h6; exfalso; have a0 := oa8 h2 h1 i109x5 i109x5a ((in_c 0 rfl)) i136 ((in_c 4 rfl)) i129; have a8 := t_add e129 i109x5a (in_c 1 rfl) rfl; have a9 := in_u ((in_c 1 rfl)); have oc := oc_171_46; omega
                            have n181a : ((sF (sF (sF (sF (sF sc0 46 4 w0_46_2) 46 3 (Int32.ofInt 0)) 46 2 z129) 46 3 (Int32.ofInt 4)) 46 5 z71).2.2.1 46 3).toInt = 1 → In ((sF (sF (sF (sF (sF sc0 46 4 w0_46_2) 46 3 (Int32.ofInt 0)) 46 2 z129) 46 3 (Int32.ofInt 4)) 46 5 z71).2.2.1 46 5) 0 25 := by intro h1; rw [← (show (Int32.ofInt 4) = (sF (sF (sF (sF (sF sc0 46 4 w0_46_2) 46 3 (Int32.ofInt 0)) 46 2 z129) 46 3 (Int32.ofInt 4)) 46 5 z71).2.2.1 46 3 from sF_ne rfl (sF_get))] at h1; exact absurd h1 (by decide)
                            have n181b : TKN (s.1 47) (s.2.2.1 46 1).toInt.toNat (s.2.2.1 46 2).toInt.toNat ((sF (sF (sF (sF (sF sc0 46 4 w0_46_2) 46 3 (Int32.ofInt 0)) 46 2 z129) 46 3 (Int32.ofInt 4)) 46 5 z71).2.2.1 46 4).toInt.toNat ((sF (sF (sF (sF (sF sc0 46 4 w0_46_2) 46 3 (Int32.ofInt 0)) 46 2 z129) 46 3 (Int32.ofInt 4)) 46 5 z71).2.2.1 46 2).toInt.toNat ((sF (sF (sF (sF (sF sc0 46 4 w0_46_2) 46 3 (Int32.ofInt 0)) 46 2 z129) 46 3 (Int32.ofInt 4)) 46 5 z71).2.2.1 46 3).toInt ((sF (sF (sF (sF (sF sc0 46 4 w0_46_2) 46 3 (Int32.ofInt 0)) 46 2 z129) 46 3 (Int32.ofInt 4)) 46 5 z71).2.2.1 46 5).toInt := by exfalso; have a0 := oa8 h2 h1 i109x5 i109x5a ((in_c 0 rfl)) i136 ((in_c 4 rfl)) i129; have a8 := t_add e129 i109x5a (in_c 1 rfl) rfl; have a9 := in_u ((in_c 1 rfl)); have oc := oc_171_46; omega
                            have n181c : (z129).toInt ≤ (u_46_1).toInt := by have a0 := oa8 h2 h1 i109x5 i109x5a ((in_c 0 rfl)) i136 ((in_c 4 rfl)) i129; have a8 := t_add e129 i109x5a (in_c 1 rfl) rfl; have a9 := in_u ((in_c 1 rfl)); have oc := oc_171_46; omega
                            have n181d : ((sF (sF (sF (sF (sF sc0 46 4 w0_46_2) 46 3 (Int32.ofInt 0)) 46 2 z129) 46 3 (Int32.ofInt 4)) 46 5 z71).2.2.1 46 2).toInt ≤ ((sF (sF (sF (sF (sF sc0 46 4 w0_46_2) 46 3 (Int32.ofInt 0)) 46 2 z129) 46 3 (Int32.ofInt 4)) 46 5 z71).2.2.1 46 1).toInt := by have b0 : z129 = (sF (sF (sF (sF (sF sc0 46 4 w0_46_2) 46 3 (Int32.ofInt 0)) 46 2 z129) 46 3 (Int32.ofInt 4)) 46 5 z71).2.2.1 46 2 := sF_ne rfl (sF_ne rfl (sF_get)); have b1 : u_46_1 = (sF (sF (sF (sF (sF sc0 46 4 w0_46_2) 46 3 (Int32.ofInt 0)) 46 2 z129) 46 3 (Int32.ofInt 4)) 46 5 z71).2.2.1 46 1 := sF_ne rfl (sF_ne rfl (sF_ne rfl (sF_ne rfl (sF_ne rfl (fr_F e_46_1 hFc0 rfl))))); rw [← b0, ← b1]; exact n181c
                            have n181e : (w0_46_2).toInt ≤ (z129).toInt := by have a0 := oa8 h2 h1 i109x5 i109x5a ((in_c 0 rfl)) i136 ((in_c 4 rfl)) i129; have a8 := t_add e129 i109x5a (in_c 1 rfl) rfl; have a9 := in_u ((in_c 1 rfl)); have oc := oc_171_46; omega
                            have n181f : ((sF (sF (sF (sF (sF sc0 46 4 w0_46_2) 46 3 (Int32.ofInt 0)) 46 2 z129) 46 3 (Int32.ofInt 4)) 46 5 z71).2.2.1 46 4).toInt ≤ ((sF (sF (sF (sF (sF sc0 46 4 w0_46_2) 46 3 (Int32.ofInt 0)) 46 2 z129) 46 3 (Int32.ofInt 4)) 46 5 z71).2.2.1 46 2).toInt := by have b0 : w0_46_2 = (sF (sF (sF (sF (sF sc0 46 4 w0_46_2) 46 3 (Int32.ofInt 0)) 46 2 z129) 46 3 (Int32.ofInt 4)) 46 5 z71).2.2.1 46 4 := sF_ne rfl (sF_ne rfl (sF_ne rfl (sF_ne rfl (sF_get)))); have b1 : z129 = (sF (sF (sF (sF (sF sc0 46 4 w0_46_2) 46 3 (Int32.ofInt 0)) 46 2 z129) 46 3 (Int32.ofInt 4)) 46 5 z71).2.2.1 46 2 := sF_ne rfl (sF_ne rfl (sF_get)); rw [← b0, ← b1]; exact n181e
                            have n181g : (u_46_2).toInt ≤ (w0_46_2).toInt := by first | exact n0_1 | (have a0 := oa8 h2 h1 i109x5 i109x5a ((in_c 0 rfl)) i136 ((in_c 4 rfl)) i129; have a8 := t_add e129 i109x5a (in_c 1 rfl) rfl; have a9 := in_u ((in_c 1 rfl)); have oc := oc_171_46; omega)
                            have n181h : (s.2.2.1 46 2).toInt ≤ ((sF (sF (sF (sF (sF sc0 46 4 w0_46_2) 46 3 (Int32.ofInt 0)) 46 2 z129) 46 3 (Int32.ofInt 4)) 46 5 z71).2.2.1 46 4).toInt := by have b0 : w0_46_2 = (sF (sF (sF (sF (sF sc0 46 4 w0_46_2) 46 3 (Int32.ofInt 0)) 46 2 z129) 46 3 (Int32.ofInt 4)) 46 5 z71).2.2.1 46 4 := sF_ne rfl (sF_ne rfl (sF_ne rfl (sF_ne rfl (sF_get)))); rw [← b0, ← e_46_2]; exact n181g
                            exact g_return (gd rfl) rfl (hP _ _ ⟨(sF (sF (sF (sF (sF sc0 46 4 w0_46_2) 46 3 (Int32.ofInt 0)) 46 2 z129) 46 3 (Int32.ofInt 4)) 46 5 z71), hI178, (fr_sF rfl (fr_sF rfl (fr_sF rfl (fr_sF rfl (fr_sF rfl hFc0))))), n181d, n181f, n181h, rfl, rfl, n181, n181a, n181b⟩)
                          · skip
                            exact zn_ne c165 (in_c 0 rfl) rfl
                        · skip
                          exact zn_eq c162x7 h2 rfl
                    · skip
                      have i136 := r_le2 97 65535 c136 (in_c 97 rfl) i71 rfl
                      refine g_iload_n 140 (gd rfl) rfl rfl ?_
                      refine g_bipush 122 142 (gd rfl) rfl rfl ?_
                      refine g_cmp_gt 145 159 (gd rfl) rfl rfl (fun c142 => ?_) (fun c142 => ?_)
                      · skip
                        have i142 := r_lt2 123 65535 c142 (in_c 122 rfl) i136 rfl
                        refine g_aload_n 160 (gd rfl) rfl rfl ?_
                        refine g_iload_n 161 (gd rfl) rfl rfl ?_
                        refine g_iload_n 162 (gd rfl) rfl rfl ?_
                        refine g_calls (As := [.int z71, .int x2]) (r := [.ref (A 46)]) 165 (gd rfl) rfl rfl rfl rfl rfl (Nat.le_of_ble_eq_true rfl) (mc := 0) (ms := 0) (Nat.zero_le _) (Nat.zero_le _) (P := fun v u => _) ?_ (fun v u h => h)
                        intro po162 xx162 hp162 hx162
                        refine g_enter2 (k := 174) (N := 300) (by first | exact dq1 hd rfl | exact dq0 hd rfl | exact dq2 hd rfl | exact dq3 hd rfl | omega) rfl (Nat.le_of_ble_eq_true rfl) ?_
                        refine g_iload_n 1 (gd rfl) rfl rfl ?_
                        refine g_bipush 59 3 (gd rfl) rfl rfl ?_
                        refine g_cmp_eq 6 19 (gd rfl) rfl rfl (fun c162x3 => ?_) (fun c162x3 => ?_)
                        · skip
                          exact n_eq c162x3 i142 (in_c 59 rfl) rfl
                        · skip
                          refine g_iload_n 7 (gd rfl) rfl rfl ?_
                          refine g_if_ne 10 23 (gd rfl) rfl rfl (fun c162x7 => ?_) (fun c162x7 => ?_)
                          · skip
                            refine g_iconst 0 24 (gd rfl) rfl rfl ?_
                            refine g_ireturn (gd rfl) rfl (nb01 (in_w 0 1 (in_c 0 rfl) rfl)) (hp162 _ _ ?_)
                            show GG _ _ _ _ _ _ _ _ [.int (Int32.ofInt 0), .ref (A 46)] _ _ _
                            refine g_if_eq 168 172 (gd rfl) rfl rfl (fun c165 => ?_) (fun c165 => ?_)
                            · skip
                              refine g_iconst 4 173 (gd rfl) rfl rfl ?_
                              refine g_putI 176 (gd rfl) rfl rfl rfl rfl ?_
                              have hI173 := inv_sF (q := 46) (j := 3) hI130 rfl (in_w 0 5 (in_c 4 rfl) rfl)
                              refine g_aload_n 177 (gd rfl) rfl rfl ?_
                              refine g_iload_n 178 (gd rfl) rfl rfl ?_
                              refine g_putI 181 (gd rfl) rfl rfl rfl rfl ?_
                              have hI178 := inv_sF (q := 46) (j := 5) hI173 rfl (in_w (-2147483648) 2147483647 i142 rfl)
                              have n181 : (x1).toInt = 6 → TK (sF (sF (sF (sF (sF sc0 46 4 w0_46_2) 46 3 (Int32.ofInt 0)) 46 2 z129) 46 3 (Int32.ofInt 4)) 46 5 z71) := by intro h6; exfalso; have a0 := oa8 h2 h1 i109x5 i109x5a ((in_c 0 rfl)) i142 ((in_c 4 rfl)) i129; have a8 := t_add e129 i109x5a (in_c 1 rfl) rfl; have a9 := in_u ((in_c 1 rfl)); have oc := oc_171_46; omega
                              have n181a : ((sF (sF (sF (sF (sF sc0 46 4 w0_46_2) 46 3 (Int32.ofInt 0)) 46 2 z129) 46 3 (Int32.ofInt 4)) 46 5 z71).2.2.1 46 3).toInt = 1 → In ((sF (sF (sF (sF (sF sc0 46 4 w0_46_2) 46 3 (Int32.ofInt 0)) 46 2 z129) 46 3 (Int32.ofInt 4)) 46 5 z71).2.2.1 46 5) 0 25 := by intro h1; rw [← (show (Int32.ofInt 4) = (sF (sF (sF (sF (sF sc0 46 4 w0_46_2) 46 3 (Int32.ofInt 0)) 46 2 z129) 46 3 (Int32.ofInt 4)) 46 5 z71).2.2.1 46 3 from sF_ne rfl (sF_get))] at h1; exact absurd h1 (by decide)
                              have n181b : TKN (s.1 47) (s.2.2.1 46 1).toInt.toNat (s.2.2.1 46 2).toInt.toNat ((sF (sF (sF (sF (sF sc0 46 4 w0_46_2) 46 3 (Int32.ofInt 0)) 46 2 z129) 46 3 (Int32.ofInt 4)) 46 5 z71).2.2.1 46 4).toInt.toNat ((sF (sF (sF (sF (sF sc0 46 4 w0_46_2) 46 3 (Int32.ofInt 0)) 46 2 z129) 46 3 (Int32.ofInt 4)) 46 5 z71).2.2.1 46 2).toInt.toNat ((sF (sF (sF (sF (sF sc0 46 4 w0_46_2) 46 3 (Int32.ofInt 0)) 46 2 z129) 46 3 (Int32.ofInt 4)) 46 5 z71).2.2.1 46 3).toInt ((sF (sF (sF (sF (sF sc0 46 4 w0_46_2) 46 3 (Int32.ofInt 0)) 46 2 z129) 46 3 (Int32.ofInt 4)) 46 5 z71).2.2.1 46 5).toInt := by exfalso; have a0 := oa8 h2 h1 i109x5 i109x5a ((in_c 0 rfl)) i142 ((in_c 4 rfl)) i129; have a8 := t_add e129 i109x5a (in_c 1 rfl) rfl; have a9 := in_u ((in_c 1 rfl)); have oc := oc_171_46; omega
                              have n181c : (z129).toInt ≤ (u_46_1).toInt := by have a0 := oa8 h2 h1 i109x5 i109x5a ((in_c 0 rfl)) i142 ((in_c 4 rfl)) i129; have a8 := t_add e129 i109x5a (in_c 1 rfl) rfl; have a9 := in_u ((in_c 1 rfl)); have oc := oc_171_46; omega
                              have n181d : ((sF (sF (sF (sF (sF sc0 46 4 w0_46_2) 46 3 (Int32.ofInt 0)) 46 2 z129) 46 3 (Int32.ofInt 4)) 46 5 z71).2.2.1 46 2).toInt ≤ ((sF (sF (sF (sF (sF sc0 46 4 w0_46_2) 46 3 (Int32.ofInt 0)) 46 2 z129) 46 3 (Int32.ofInt 4)) 46 5 z71).2.2.1 46 1).toInt := by have b0 : z129 = (sF (sF (sF (sF (sF sc0 46 4 w0_46_2) 46 3 (Int32.ofInt 0)) 46 2 z129) 46 3 (Int32.ofInt 4)) 46 5 z71).2.2.1 46 2 := sF_ne rfl (sF_ne rfl (sF_get)); have b1 : u_46_1 = (sF (sF (sF (sF (sF sc0 46 4 w0_46_2) 46 3 (Int32.ofInt 0)) 46 2 z129) 46 3 (Int32.ofInt 4)) 46 5 z71).2.2.1 46 1 := sF_ne rfl (sF_ne rfl (sF_ne rfl (sF_ne rfl (sF_ne rfl (fr_F e_46_1 hFc0 rfl))))); rw [← b0, ← b1]; exact n181c
                              have n181e : (w0_46_2).toInt ≤ (z129).toInt := by have a0 := oa8 h2 h1 i109x5 i109x5a ((in_c 0 rfl)) i142 ((in_c 4 rfl)) i129; have a8 := t_add e129 i109x5a (in_c 1 rfl) rfl; have a9 := in_u ((in_c 1 rfl)); have oc := oc_171_46; omega
                              have n181f : ((sF (sF (sF (sF (sF sc0 46 4 w0_46_2) 46 3 (Int32.ofInt 0)) 46 2 z129) 46 3 (Int32.ofInt 4)) 46 5 z71).2.2.1 46 4).toInt ≤ ((sF (sF (sF (sF (sF sc0 46 4 w0_46_2) 46 3 (Int32.ofInt 0)) 46 2 z129) 46 3 (Int32.ofInt 4)) 46 5 z71).2.2.1 46 2).toInt := by have b0 : w0_46_2 = (sF (sF (sF (sF (sF sc0 46 4 w0_46_2) 46 3 (Int32.ofInt 0)) 46 2 z129) 46 3 (Int32.ofInt 4)) 46 5 z71).2.2.1 46 4 := sF_ne rfl (sF_ne rfl (sF_ne rfl (sF_ne rfl (sF_get)))); have b1 : z129 = (sF (sF (sF (sF (sF sc0 46 4 w0_46_2) 46 3 (Int32.ofInt 0)) 46 2 z129) 46 3 (Int32.ofInt 4)) 46 5 z71).2.2.1 46 2 := sF_ne rfl (sF_ne rfl (sF_get)); rw [← b0, ← b1]; exact n181e
                              have n181g : (u_46_2).toInt ≤ (w0_46_2).toInt := by first | exact n0_1 | (have a0 := oa8 h2 h1 i109x5 i109x5a ((in_c 0 rfl)) i142 ((in_c 4 rfl)) i129; have a8 := t_add e129 i109x5a (in_c 1 rfl) rfl; have a9 := in_u ((in_c 1 rfl)); have oc := oc_171_46; omega)
                              have n181h : (s.2.2.1 46 2).toInt ≤ ((sF (sF (sF (sF (sF sc0 46 4 w0_46_2) 46 3 (Int32.ofInt 0)) 46 2 z129) 46 3 (Int32.ofInt 4)) 46 5 z71).2.2.1 46 4).toInt := by have b0 : w0_46_2 = (sF (sF (sF (sF (sF sc0 46 4 w0_46_2) 46 3 (Int32.ofInt 0)) 46 2 z129) 46 3 (Int32.ofInt 4)) 46 5 z71).2.2.1 46 4 := sF_ne rfl (sF_ne rfl (sF_ne rfl (sF_ne rfl (sF_get)))); rw [← b0, ← e_46_2]; exact n181g
                              exact g_return (gd rfl) rfl (hP _ _ ⟨(sF (sF (sF (sF (sF sc0 46 4 w0_46_2) 46 3 (Int32.ofInt 0)) 46 2 z129) 46 3 (Int32.ofInt 4)) 46 5 z71), hI178, (fr_sF rfl (fr_sF rfl (fr_sF rfl (fr_sF rfl (fr_sF rfl hFc0))))), n181d, n181f, n181h, rfl, rfl, n181, n181a, n181b⟩)
                            · skip
                              exact zn_ne c165 (in_c 0 rfl) rfl
                          · skip
                            exact zn_eq c162x7 h2 rfl
                      · skip
                        have i142 := r_le1 97 122 c142 i136 (in_c 122 rfl) rfl
                        refine g_aload_n 146 (gd rfl) rfl rfl ?_
                        refine g_iconst 1 147 (gd rfl) rfl rfl ?_
                        refine g_putI 150 (gd rfl) rfl rfl rfl rfl ?_
                        have hI147 := inv_sF (q := 46) (j := 3) hI130 rfl (in_w 0 5 (in_c 1 rfl) rfl)
                        refine g_aload_n 151 (gd rfl) rfl rfl ?_
                        refine g_iload_n 152 (gd rfl) rfl rfl ?_
                        refine g_bipush 97 154 (gd rfl) rfl rfl ?_
                        refine g_isub 155 (gd rfl) rfl (fun z154 e154 => ?_)
                        have i154 := in_sub 0 25 e154 i142 (in_c 97 rfl) rfl rfl
                        refine g_putI 158 (gd rfl) rfl rfl rfl rfl ?_
                        have hI155 := inv_sF (q := 46) (j := 5) hI147 rfl (in_w (-2147483648) 2147483647 i154 rfl)
                        have n158 : (x1).toInt = 6 → TK (sF (sF (sF (sF (sF sc0 46 4 w0_46_2) 46 3 (Int32.ofInt 0)) 46 2 z129) 46 3 (Int32.ofInt 1)) 46 5 z154) := by intro h6; exfalso; have a0 := oa7 h2 h1 i109x5 i109x5a ((in_c 0 rfl)) i142 i154; have a7 := t_sub e154 i142 (in_c 97 rfl) rfl; have a8 := oa3 ((in_c 97 rfl)) ((in_c 1 rfl)) i129; have a11 := t_add e129 i109x5a (in_c 1 rfl) rfl; have oc := oc_171_46; omega
                        have n158a : ((sF (sF (sF (sF (sF sc0 46 4 w0_46_2) 46 3 (Int32.ofInt 0)) 46 2 z129) 46 3 (Int32.ofInt 1)) 46 5 z154).2.2.1 46 3).toInt = 1 → In ((sF (sF (sF (sF (sF sc0 46 4 w0_46_2) 46 3 (Int32.ofInt 0)) 46 2 z129) 46 3 (Int32.ofInt 1)) 46 5 z154).2.2.1 46 5) 0 25 := by intro _; rw [← (show z154 = (sF (sF (sF (sF (sF sc0 46 4 w0_46_2) 46 3 (Int32.ofInt 0)) 46 2 z129) 46 3 (Int32.ofInt 1)) 46 5 z154).2.2.1 46 5 from sF_get)]; exact ⟨by have a0 := oa7 h2 h1 i109x5 i109x5a ((in_c 0 rfl)) i142 i154; have a7 := t_sub e154 i142 (in_c 97 rfl) rfl; have a8 := oa3 ((in_c 97 rfl)) ((in_c 1 rfl)) i129; have a11 := t_add e129 i109x5a (in_c 1 rfl) rfl; have oc := oc_171_46; omega, by have a0 := oa7 h2 h1 i109x5 i109x5a ((in_c 0 rfl)) i142 i154; have a7 := t_sub e154 i142 (in_c 97 rfl) rfl; have a8 := oa3 ((in_c 97 rfl)) ((in_c 1 rfl)) i129; have a11 := t_add e129 i109x5a (in_c 1 rfl) rfl; have oc := oc_171_46; omega⟩
                        have n158b : TKN (s.1 47) (s.2.2.1 46 1).toInt.toNat (s.2.2.1 46 2).toInt.toNat ((sF (sF (sF (sF (sF sc0 46 4 w0_46_2) 46 3 (Int32.ofInt 0)) 46 2 z129) 46 3 (Int32.ofInt 1)) 46 5 z154).2.2.1 46 4).toInt.toNat ((sF (sF (sF (sF (sF sc0 46 4 w0_46_2) 46 3 (Int32.ofInt 0)) 46 2 z129) 46 3 (Int32.ofInt 1)) 46 5 z154).2.2.1 46 2).toInt.toNat ((sF (sF (sF (sF (sF sc0 46 4 w0_46_2) 46 3 (Int32.ofInt 0)) 46 2 z129) 46 3 (Int32.ofInt 1)) 46 5 z154).2.2.1 46 3).toInt ((sF (sF (sF (sF (sF sc0 46 4 w0_46_2) 46 3 (Int32.ofInt 0)) 46 2 z129) 46 3 (Int32.ofInt 1)) 46 5 z154).2.2.1 46 5).toInt := by exfalso; have a0 := oa7 h2 h1 i109x5 i109x5a ((in_c 0 rfl)) i142 i154; have a7 := t_sub e154 i142 (in_c 97 rfl) rfl; have a8 := oa3 ((in_c 97 rfl)) ((in_c 1 rfl)) i129; have a11 := t_add e129 i109x5a (in_c 1 rfl) rfl; have oc := oc_171_46; omega
                        have n158c : (z129).toInt ≤ (u_46_1).toInt := by have a0 := oa7 h2 h1 i109x5 i109x5a ((in_c 0 rfl)) i142 i154; have a7 := t_sub e154 i142 (in_c 97 rfl) rfl; have a8 := oa3 ((in_c 97 rfl)) ((in_c 1 rfl)) i129; have a11 := t_add e129 i109x5a (in_c 1 rfl) rfl; have oc := oc_171_46; omega
                        have n158d : ((sF (sF (sF (sF (sF sc0 46 4 w0_46_2) 46 3 (Int32.ofInt 0)) 46 2 z129) 46 3 (Int32.ofInt 1)) 46 5 z154).2.2.1 46 2).toInt ≤ ((sF (sF (sF (sF (sF sc0 46 4 w0_46_2) 46 3 (Int32.ofInt 0)) 46 2 z129) 46 3 (Int32.ofInt 1)) 46 5 z154).2.2.1 46 1).toInt := by have b0 : z129 = (sF (sF (sF (sF (sF sc0 46 4 w0_46_2) 46 3 (Int32.ofInt 0)) 46 2 z129) 46 3 (Int32.ofInt 1)) 46 5 z154).2.2.1 46 2 := sF_ne rfl (sF_ne rfl (sF_get)); have b1 : u_46_1 = (sF (sF (sF (sF (sF sc0 46 4 w0_46_2) 46 3 (Int32.ofInt 0)) 46 2 z129) 46 3 (Int32.ofInt 1)) 46 5 z154).2.2.1 46 1 := sF_ne rfl (sF_ne rfl (sF_ne rfl (sF_ne rfl (sF_ne rfl (fr_F e_46_1 hFc0 rfl))))); rw [← b0, ← b1]; exact n158c
                        have n158e : (w0_46_2).toInt ≤ (z129).toInt := by have a0 := oa7 h2 h1 i109x5 i109x5a ((in_c 0 rfl)) i142 i154; have a7 := t_sub e154 i142 (in_c 97 rfl) rfl; have a8 := oa3 ((in_c 97 rfl)) ((in_c 1 rfl)) i129; have a11 := t_add e129 i109x5a (in_c 1 rfl) rfl; have oc := oc_171_46; omega
                        have n158f : ((sF (sF (sF (sF (sF sc0 46 4 w0_46_2) 46 3 (Int32.ofInt 0)) 46 2 z129) 46 3 (Int32.ofInt 1)) 46 5 z154).2.2.1 46 4).toInt ≤ ((sF (sF (sF (sF (sF sc0 46 4 w0_46_2) 46 3 (Int32.ofInt 0)) 46 2 z129) 46 3 (Int32.ofInt 1)) 46 5 z154).2.2.1 46 2).toInt := by have b0 : w0_46_2 = (sF (sF (sF (sF (sF sc0 46 4 w0_46_2) 46 3 (Int32.ofInt 0)) 46 2 z129) 46 3 (Int32.ofInt 1)) 46 5 z154).2.2.1 46 4 := sF_ne rfl (sF_ne rfl (sF_ne rfl (sF_ne rfl (sF_get)))); have b1 : z129 = (sF (sF (sF (sF (sF sc0 46 4 w0_46_2) 46 3 (Int32.ofInt 0)) 46 2 z129) 46 3 (Int32.ofInt 1)) 46 5 z154).2.2.1 46 2 := sF_ne rfl (sF_ne rfl (sF_get)); rw [← b0, ← b1]; exact n158e
                        have n158g : (u_46_2).toInt ≤ (w0_46_2).toInt := by first | exact n0_1 | (have a0 := oa7 h2 h1 i109x5 i109x5a ((in_c 0 rfl)) i142 i154; have a7 := t_sub e154 i142 (in_c 97 rfl) rfl; have a8 := oa3 ((in_c 97 rfl)) ((in_c 1 rfl)) i129; have a11 := t_add e129 i109x5a (in_c 1 rfl) rfl; have oc := oc_171_46; omega)
                        have n158h : (s.2.2.1 46 2).toInt ≤ ((sF (sF (sF (sF (sF sc0 46 4 w0_46_2) 46 3 (Int32.ofInt 0)) 46 2 z129) 46 3 (Int32.ofInt 1)) 46 5 z154).2.2.1 46 4).toInt := by have b0 : w0_46_2 = (sF (sF (sF (sF (sF sc0 46 4 w0_46_2) 46 3 (Int32.ofInt 0)) 46 2 z129) 46 3 (Int32.ofInt 1)) 46 5 z154).2.2.1 46 4 := sF_ne rfl (sF_ne rfl (sF_ne rfl (sF_ne rfl (sF_get)))); rw [← b0, ← e_46_2]; exact n158g
                        exact g_return (gd rfl) rfl (hP _ _ ⟨(sF (sF (sF (sF (sF sc0 46 4 w0_46_2) 46 3 (Int32.ofInt 0)) 46 2 z129) 46 3 (Int32.ofInt 1)) 46 5 z154), hI155, (fr_sF rfl (fr_sF rfl (fr_sF rfl (fr_sF rfl (fr_sF rfl hFc0))))), n158d, n158f, n158h, rfl, rfl, n158, n158a, n158b⟩)
                  · skip
                    exact zn_ne c112 (in_c 0 rfl) rfl
                · skip
                  refine g_aload_n 9 (gd rfl) rfl rfl ?_
                  refine g_getA (q2 := 47) 12 (gd rfl) rfl rfl rfl rfl ?_
                  refine g_iload_n 13 (gd rfl) rfl rfl ?_
                  refine g_caload 14 (gd rfl) rfl (n := 1000) rfl (in_ix i59 rfl) (fun z109x13 e109x13 => ?_)
                  have q109x13 : z71 = z109x13 := (e71).trans e109x13.symm
                  subst q109x13
                  refine g_bipush 48 16 (gd rfl) rfl rfl ?_
                  refine g_cmp_lt 19 34 (gd rfl) rfl rfl (fun c109x16 => ?_) (fun c109x16 => ?_)
                  · skip
                    have i109x16 := r_lt1 0 47 c109x16 i71 (in_c 48 rfl) rfl
                    refine g_iconst 0 35 (gd rfl) rfl rfl ?_
                    refine g_ireturn (gd rfl) rfl (nb01 (in_w 0 1 (in_c 0 rfl) rfl)) (hp109 _ _ ?_)
                    show GG _ _ _ _ _ _ _ _ [.int (Int32.ofInt 0)] _ _ _
                    refine g_if_eq 115 123 (gd rfl) rfl rfl (fun c112 => ?_) (fun c112 => ?_)
                    · skip
                      refine g_aload_n 124 (gd rfl) rfl rfl ?_
                      refine g_dup 125 (gd rfl) rfl rfl ?_
                      refine g_getI 128 (gd rfl) rfl rfl rfl (fun z125 e125 => ?_)
                      have q125 : w0_46_2 = z125 := (sF_ne rfl (sF_ne rfl (v0_46_2))).trans e125.symm
                      subst q125
                      refine g_iconst 1 129 (gd rfl) rfl rfl ?_
                      refine g_iadd 130 (gd rfl) rfl (fun z129 e129 => ?_)
                      have i129 := in_add 1 1000 e129 i59 (in_c 1 rfl) rfl rfl
                      refine g_putI 133 (gd rfl) rfl rfl rfl rfl ?_
                      have hI130 := inv_sF (q := 46) (j := 2) hI48 rfl (in_w 0 1000 i129 rfl)
                      refine g_iload_n 134 (gd rfl) rfl rfl ?_
                      refine g_bipush 97 136 (gd rfl) rfl rfl ?_
                      refine g_cmp_lt 139 159 (gd rfl) rfl rfl (fun c136 => ?_) (fun c136 => ?_)
                      · skip
                        refine g_aload_n 160 (gd rfl) rfl rfl ?_
                        refine g_iload_n 161 (gd rfl) rfl rfl ?_
                        refine g_iload_n 162 (gd rfl) rfl rfl ?_
                        refine g_calls (As := [.int z71, .int x2]) (r := [.ref (A 46)]) 165 (gd rfl) rfl rfl rfl rfl rfl (Nat.le_of_ble_eq_true rfl) (mc := 0) (ms := 0) (Nat.zero_le _) (Nat.zero_le _) (P := fun v u => _) ?_ (fun v u h => h)
                        intro po162 xx162 hp162 hx162
                        refine g_enter2 (k := 174) (N := 300) (by first | exact dq1 hd rfl | exact dq0 hd rfl | exact dq2 hd rfl | exact dq3 hd rfl | omega) rfl (Nat.le_of_ble_eq_true rfl) ?_
                        refine g_iload_n 1 (gd rfl) rfl rfl ?_
                        refine g_bipush 59 3 (gd rfl) rfl rfl ?_
                        refine g_cmp_eq 6 19 (gd rfl) rfl rfl (fun c162x3 => ?_) (fun c162x3 => ?_)
                        · skip
                          exact n_eq c162x3 i109x16 (in_c 59 rfl) rfl
                        · skip
                          refine g_iload_n 7 (gd rfl) rfl rfl ?_
                          refine g_if_ne 10 23 (gd rfl) rfl rfl (fun c162x7 => ?_) (fun c162x7 => ?_)
                          · skip
                            refine g_iconst 0 24 (gd rfl) rfl rfl ?_
                            refine g_ireturn (gd rfl) rfl (nb01 (in_w 0 1 (in_c 0 rfl) rfl)) (hp162 _ _ ?_)
                            show GG _ _ _ _ _ _ _ _ [.int (Int32.ofInt 0), .ref (A 46)] _ _ _
                            refine g_if_eq 168 172 (gd rfl) rfl rfl (fun c165 => ?_) (fun c165 => ?_)
                            · skip
                              refine g_iconst 4 173 (gd rfl) rfl rfl ?_
                              refine g_putI 176 (gd rfl) rfl rfl rfl rfl ?_
                              have hI173 := inv_sF (q := 46) (j := 3) hI130 rfl (in_w 0 5 (in_c 4 rfl) rfl)
                              refine g_aload_n 177 (gd rfl) rfl rfl ?_
                              refine g_iload_n 178 (gd rfl) rfl rfl ?_
                              refine g_putI 181 (gd rfl) rfl rfl rfl rfl ?_
                              have hI178 := inv_sF (q := 46) (j := 5) hI173 rfl (in_w (-2147483648) 2147483647 i109x16 rfl)
                              have n181 : (x1).toInt = 6 → TK (sF (sF (sF (sF (sF sc0 46 4 w0_46_2) 46 3 (Int32.ofInt 0)) 46 2 z129) 46 3 (Int32.ofInt 4)) 46 5 z71) := by intro h6; exfalso; have a0 := oa8 h2 h1 i59a i59 ((in_c 0 rfl)) i109x16 ((in_c 4 rfl)) i129; have a8 := t_add e129 i59 (in_c 1 rfl) rfl; have a9 := in_u ((in_c 1 rfl)); have oc := oc_171_46; omega
                              have n181a : ((sF (sF (sF (sF (sF sc0 46 4 w0_46_2) 46 3 (Int32.ofInt 0)) 46 2 z129) 46 3 (Int32.ofInt 4)) 46 5 z71).2.2.1 46 3).toInt = 1 → In ((sF (sF (sF (sF (sF sc0 46 4 w0_46_2) 46 3 (Int32.ofInt 0)) 46 2 z129) 46 3 (Int32.ofInt 4)) 46 5 z71).2.2.1 46 5) 0 25 := by intro h1; rw [← (show (Int32.ofInt 4) = (sF (sF (sF (sF (sF sc0 46 4 w0_46_2) 46 3 (Int32.ofInt 0)) 46 2 z129) 46 3 (Int32.ofInt 4)) 46 5 z71).2.2.1 46 3 from sF_ne rfl (sF_get))] at h1; exact absurd h1 (by decide)
                              have n181b : TKN (s.1 47) (s.2.2.1 46 1).toInt.toNat (s.2.2.1 46 2).toInt.toNat ((sF (sF (sF (sF (sF sc0 46 4 w0_46_2) 46 3 (Int32.ofInt 0)) 46 2 z129) 46 3 (Int32.ofInt 4)) 46 5 z71).2.2.1 46 4).toInt.toNat ((sF (sF (sF (sF (sF sc0 46 4 w0_46_2) 46 3 (Int32.ofInt 0)) 46 2 z129) 46 3 (Int32.ofInt 4)) 46 5 z71).2.2.1 46 2).toInt.toNat ((sF (sF (sF (sF (sF sc0 46 4 w0_46_2) 46 3 (Int32.ofInt 0)) 46 2 z129) 46 3 (Int32.ofInt 4)) 46 5 z71).2.2.1 46 3).toInt ((sF (sF (sF (sF (sF sc0 46 4 w0_46_2) 46 3 (Int32.ofInt 0)) 46 2 z129) 46 3 (Int32.ofInt 4)) 46 5 z71).2.2.1 46 5).toInt := by exfalso; have a0 := oa8 h2 h1 i59a i59 ((in_c 0 rfl)) i109x16 ((in_c 4 rfl)) i129; have a8 := t_add e129 i59 (in_c 1 rfl) rfl; have a9 := in_u ((in_c 1 rfl)); have oc := oc_171_46; omega
                              have n181c : (z129).toInt ≤ (u_46_1).toInt := by have a0 := oa8 h2 h1 i59a i59 ((in_c 0 rfl)) i109x16 ((in_c 4 rfl)) i129; have a8 := t_add e129 i59 (in_c 1 rfl) rfl; have a9 := in_u ((in_c 1 rfl)); have oc := oc_171_46; omega
                              have n181d : ((sF (sF (sF (sF (sF sc0 46 4 w0_46_2) 46 3 (Int32.ofInt 0)) 46 2 z129) 46 3 (Int32.ofInt 4)) 46 5 z71).2.2.1 46 2).toInt ≤ ((sF (sF (sF (sF (sF sc0 46 4 w0_46_2) 46 3 (Int32.ofInt 0)) 46 2 z129) 46 3 (Int32.ofInt 4)) 46 5 z71).2.2.1 46 1).toInt := by have b0 : z129 = (sF (sF (sF (sF (sF sc0 46 4 w0_46_2) 46 3 (Int32.ofInt 0)) 46 2 z129) 46 3 (Int32.ofInt 4)) 46 5 z71).2.2.1 46 2 := sF_ne rfl (sF_ne rfl (sF_get)); have b1 : u_46_1 = (sF (sF (sF (sF (sF sc0 46 4 w0_46_2) 46 3 (Int32.ofInt 0)) 46 2 z129) 46 3 (Int32.ofInt 4)) 46 5 z71).2.2.1 46 1 := sF_ne rfl (sF_ne rfl (sF_ne rfl (sF_ne rfl (sF_ne rfl (fr_F e_46_1 hFc0 rfl))))); rw [← b0, ← b1]; exact n181c
                              have n181e : (w0_46_2).toInt ≤ (z129).toInt := by have a0 := oa8 h2 h1 i59a i59 ((in_c 0 rfl)) i109x16 ((in_c 4 rfl)) i129; have a8 := t_add e129 i59 (in_c 1 rfl) rfl; have a9 := in_u ((in_c 1 rfl)); have oc := oc_171_46; omega
                              have n181f : ((sF (sF (sF (sF (sF sc0 46 4 w0_46_2) 46 3 (Int32.ofInt 0)) 46 2 z129) 46 3 (Int32.ofInt 4)) 46 5 z71).2.2.1 46 4).toInt ≤ ((sF (sF (sF (sF (sF sc0 46 4 w0_46_2) 46 3 (Int32.ofInt 0)) 46 2 z129) 46 3 (Int32.ofInt 4)) 46 5 z71).2.2.1 46 2).toInt := by have b0 : w0_46_2 = (sF (sF (sF (sF (sF sc0 46 4 w0_46_2) 46 3 (Int32.ofInt 0)) 46 2 z129) 46 3 (Int32.ofInt 4)) 46 5 z71).2.2.1 46 4 := sF_ne rfl (sF_ne rfl (sF_ne rfl (sF_ne rfl (sF_get)))); have b1 : z129 = (sF (sF (sF (sF (sF sc0 46 4 w0_46_2) 46 3 (Int32.ofInt 0)) 46 2 z129) 46 3 (Int32.ofInt 4)) 46 5 z71).2.2.1 46 2 := sF_ne rfl (sF_ne rfl (sF_get)); rw [← b0, ← b1]; exact n181e
                              have n181g : (u_46_2).toInt ≤ (w0_46_2).toInt := by first | exact n0_1 | (have a0 := oa8 h2 h1 i59a i59 ((in_c 0 rfl)) i109x16 ((in_c 4 rfl)) i129; have a8 := t_add e129 i59 (in_c 1 rfl) rfl; have a9 := in_u ((in_c 1 rfl)); have oc := oc_171_46; omega)
                              have n181h : (s.2.2.1 46 2).toInt ≤ ((sF (sF (sF (sF (sF sc0 46 4 w0_46_2) 46 3 (Int32.ofInt 0)) 46 2 z129) 46 3 (Int32.ofInt 4)) 46 5 z71).2.2.1 46 4).toInt := by have b0 : w0_46_2 = (sF (sF (sF (sF (sF sc0 46 4 w0_46_2) 46 3 (Int32.ofInt 0)) 46 2 z129) 46 3 (Int32.ofInt 4)) 46 5 z71).2.2.1 46 4 := sF_ne rfl (sF_ne rfl (sF_ne rfl (sF_ne rfl (sF_get)))); rw [← b0, ← e_46_2]; exact n181g
                              exact g_return (gd rfl) rfl (hP _ _ ⟨(sF (sF (sF (sF (sF sc0 46 4 w0_46_2) 46 3 (Int32.ofInt 0)) 46 2 z129) 46 3 (Int32.ofInt 4)) 46 5 z71), hI178, (fr_sF rfl (fr_sF rfl (fr_sF rfl (fr_sF rfl (fr_sF rfl hFc0))))), n181d, n181f, n181h, rfl, rfl, n181, n181a, n181b⟩)
                            · skip
                              exact zn_ne c165 (in_c 0 rfl) rfl
                          · skip
                            exact zn_eq c162x7 h2 rfl
                      · skip
                        exact n_le c136 (in_c 97 rfl) i109x16 rfl
                    · skip
                      exact zn_ne c112 (in_c 0 rfl) rfl
                  · skip
                    have i109x16 := r_le2 48 65535 c109x16 (in_c 48 rfl) i71 rfl
                    refine g_aload_n 20 (gd rfl) rfl rfl ?_
                    refine g_getA (q2 := 47) 23 (gd rfl) rfl rfl rfl rfl ?_
                    refine g_iload_n 24 (gd rfl) rfl rfl ?_
                    refine g_caload 25 (gd rfl) rfl (n := 1000) rfl (in_ix i59 rfl) (fun z109x24 e109x24 => ?_)
                    have q109x24 : z71 = z109x24 := (e71).trans e109x24.symm
                    subst q109x24
                    refine g_bipush 57 27 (gd rfl) rfl rfl ?_
                    refine g_cmp_gt 30 34 (gd rfl) rfl rfl (fun c109x27 => ?_) (fun c109x27 => ?_)
                    · skip
                      have i109x27 := r_lt2 58 65535 c109x27 (in_c 57 rfl) i109x16 rfl
                      refine g_iconst 0 35 (gd rfl) rfl rfl ?_
                      refine g_ireturn (gd rfl) rfl (nb01 (in_w 0 1 (in_c 0 rfl) rfl)) (hp109 _ _ ?_)
                      show GG _ _ _ _ _ _ _ _ [.int (Int32.ofInt 0)] _ _ _
                      refine g_if_eq 115 123 (gd rfl) rfl rfl (fun c112 => ?_) (fun c112 => ?_)
                      · skip
                        refine g_aload_n 124 (gd rfl) rfl rfl ?_
                        refine g_dup 125 (gd rfl) rfl rfl ?_
                        refine g_getI 128 (gd rfl) rfl rfl rfl (fun z125 e125 => ?_)
                        have q125 : w0_46_2 = z125 := (sF_ne rfl (sF_ne rfl (v0_46_2))).trans e125.symm
                        subst q125
                        refine g_iconst 1 129 (gd rfl) rfl rfl ?_
                        refine g_iadd 130 (gd rfl) rfl (fun z129 e129 => ?_)
                        have i129 := in_add 1 1000 e129 i59 (in_c 1 rfl) rfl rfl
                        refine g_putI 133 (gd rfl) rfl rfl rfl rfl ?_
                        have hI130 := inv_sF (q := 46) (j := 2) hI48 rfl (in_w 0 1000 i129 rfl)
                        refine g_iload_n 134 (gd rfl) rfl rfl ?_
                        refine g_bipush 97 136 (gd rfl) rfl rfl ?_
                        refine g_cmp_lt 139 159 (gd rfl) rfl rfl (fun c136 => ?_) (fun c136 => ?_)
                        · skip
                          have i136 := r_lt1 58 96 c136 i109x27 (in_c 97 rfl) rfl
                          refine g_aload_n 160 (gd rfl) rfl rfl ?_
                          refine g_iload_n 161 (gd rfl) rfl rfl ?_
                          refine g_iload_n 162 (gd rfl) rfl rfl ?_
                          refine g_calls (As := [.int z71, .int x2]) (r := [.ref (A 46)]) 165 (gd rfl) rfl rfl rfl rfl rfl (Nat.le_of_ble_eq_true rfl) (mc := 0) (ms := 0) (Nat.zero_le _) (Nat.zero_le _) (P := fun v u => _) ?_ (fun v u h => h)
                          intro po162 xx162 hp162 hx162
                          refine g_enter2 (k := 174) (N := 300) (by first | exact dq1 hd rfl | exact dq0 hd rfl | exact dq2 hd rfl | exact dq3 hd rfl | omega) rfl (Nat.le_of_ble_eq_true rfl) ?_
                          refine g_iload_n 1 (gd rfl) rfl rfl ?_
                          refine g_bipush 59 3 (gd rfl) rfl rfl ?_
                          refine g_cmp_eq 6 19 (gd rfl) rfl rfl (fun c162x3 => ?_) (fun c162x3 => ?_)
                          · skip
                            have i162x3 := r_eq1 59 59 c162x3 i136 (in_c 59 rfl) rfl
                            refine g_iconst 1 20 (gd rfl) rfl rfl ?_
                            refine g_goto 24 (gd rfl) rfl ?_
                            refine g_ireturn (gd rfl) rfl (nb01 (in_w 0 1 (in_c 1 rfl) rfl)) (hp162 _ _ ?_)
                            show GG _ _ _ _ _ _ _ _ [.int (Int32.ofInt 1), .ref (A 46)] _ _ _
                            refine g_if_eq 168 172 (gd rfl) rfl rfl (fun c165 => ?_) (fun c165 => ?_)
                            · skip
                              exact zn_eq c165 (in_c 1 rfl) rfl
                            · skip
                              refine g_iconst 3 169 (gd rfl) rfl rfl ?_
                              refine g_goto 173 (gd rfl) rfl ?_
                              refine g_putI 176 (gd rfl) rfl rfl rfl rfl ?_
                              have hI173 := inv_sF (q := 46) (j := 3) hI130 rfl (in_w 0 5 (in_c 3 rfl) rfl)
                              refine g_aload_n 177 (gd rfl) rfl rfl ?_
                              refine g_iload_n 178 (gd rfl) rfl rfl ?_
                              refine g_putI 181 (gd rfl) rfl rfl rfl rfl ?_
                              have hI178 := inv_sF (q := 46) (j := 5) hI173 rfl (in_w (-2147483648) 2147483647 i162x3 rfl)
                              have n181 : (x1).toInt = 6 → TK (sF (sF (sF (sF (sF sc0 46 4 w0_46_2) 46 3 (Int32.ofInt 0)) 46 2 z129) 46 3 (Int32.ofInt 3)) 46 5 z71) := by intro h6; exfalso; have a0 := oa8 h2 h1 i59a i59 ((in_c 0 rfl)) i162x3 ((in_c 3 rfl)) i129; have a8 := t_add e129 i59 (in_c 1 rfl) rfl; have a9 := in_u ((in_c 1 rfl)); have oc := oc_171_46; omega
                              have n181a : ((sF (sF (sF (sF (sF sc0 46 4 w0_46_2) 46 3 (Int32.ofInt 0)) 46 2 z129) 46 3 (Int32.ofInt 3)) 46 5 z71).2.2.1 46 3).toInt = 1 → In ((sF (sF (sF (sF (sF sc0 46 4 w0_46_2) 46 3 (Int32.ofInt 0)) 46 2 z129) 46 3 (Int32.ofInt 3)) 46 5 z71).2.2.1 46 5) 0 25 := by intro h1; rw [← (show (Int32.ofInt 3) = (sF (sF (sF (sF (sF sc0 46 4 w0_46_2) 46 3 (Int32.ofInt 0)) 46 2 z129) 46 3 (Int32.ofInt 3)) 46 5 z71).2.2.1 46 3 from sF_ne rfl (sF_get))] at h1; exact absurd h1 (by decide)
                              have n181b : TKN (s.1 47) (s.2.2.1 46 1).toInt.toNat (s.2.2.1 46 2).toInt.toNat ((sF (sF (sF (sF (sF sc0 46 4 w0_46_2) 46 3 (Int32.ofInt 0)) 46 2 z129) 46 3 (Int32.ofInt 3)) 46 5 z71).2.2.1 46 4).toInt.toNat ((sF (sF (sF (sF (sF sc0 46 4 w0_46_2) 46 3 (Int32.ofInt 0)) 46 2 z129) 46 3 (Int32.ofInt 3)) 46 5 z71).2.2.1 46 2).toInt.toNat ((sF (sF (sF (sF (sF sc0 46 4 w0_46_2) 46 3 (Int32.ofInt 0)) 46 2 z129) 46 3 (Int32.ofInt 3)) 46 5 z71).2.2.1 46 3).toInt ((sF (sF (sF (sF (sF sc0 46 4 w0_46_2) 46 3 (Int32.ofInt 0)) 46 2 z129) 46 3 (Int32.ofInt 3)) 46 5 z71).2.2.1 46 5).toInt := by exfalso; have a0 := oa8 h2 h1 i59a i59 ((in_c 0 rfl)) i162x3 ((in_c 3 rfl)) i129; have a8 := t_add e129 i59 (in_c 1 rfl) rfl; have a9 := in_u ((in_c 1 rfl)); have oc := oc_171_46; omega
                              have n181c : (z129).toInt ≤ (u_46_1).toInt := by have a0 := oa8 h2 h1 i59a i59 ((in_c 0 rfl)) i162x3 ((in_c 3 rfl)) i129; have a8 := t_add e129 i59 (in_c 1 rfl) rfl; have a9 := in_u ((in_c 1 rfl)); have oc := oc_171_46; omega
                              have n181d : ((sF (sF (sF (sF (sF sc0 46 4 w0_46_2) 46 3 (Int32.ofInt 0)) 46 2 z129) 46 3 (Int32.ofInt 3)) 46 5 z71).2.2.1 46 2).toInt ≤ ((sF (sF (sF (sF (sF sc0 46 4 w0_46_2) 46 3 (Int32.ofInt 0)) 46 2 z129) 46 3 (Int32.ofInt 3)) 46 5 z71).2.2.1 46 1).toInt := by have b0 : z129 = (sF (sF (sF (sF (sF sc0 46 4 w0_46_2) 46 3 (Int32.ofInt 0)) 46 2 z129) 46 3 (Int32.ofInt 3)) 46 5 z71).2.2.1 46 2 := sF_ne rfl (sF_ne rfl (sF_get)); have b1 : u_46_1 = (sF (sF (sF (sF (sF sc0 46 4 w0_46_2) 46 3 (Int32.ofInt 0)) 46 2 z129) 46 3 (Int32.ofInt 3)) 46 5 z71).2.2.1 46 1 := sF_ne rfl (sF_ne rfl (sF_ne rfl (sF_ne rfl (sF_ne rfl (fr_F e_46_1 hFc0 rfl))))); rw [← b0, ← b1]; exact n181c
                              have n181e : (w0_46_2).toInt ≤ (z129).toInt := by have a0 := oa8 h2 h1 i59a i59 ((in_c 0 rfl)) i162x3 ((in_c 3 rfl)) i129; have a8 := t_add e129 i59 (in_c 1 rfl) rfl; have a9 := in_u ((in_c 1 rfl)); have oc := oc_171_46; omega
                              have n181f : ((sF (sF (sF (sF (sF sc0 46 4 w0_46_2) 46 3 (Int32.ofInt 0)) 46 2 z129) 46 3 (Int32.ofInt 3)) 46 5 z71).2.2.1 46 4).toInt ≤ ((sF (sF (sF (sF (sF sc0 46 4 w0_46_2) 46 3 (Int32.ofInt 0)) 46 2 z129) 46 3 (Int32.ofInt 3)) 46 5 z71).2.2.1 46 2).toInt := by have b0 : w0_46_2 = (sF (sF (sF (sF (sF sc0 46 4 w0_46_2) 46 3 (Int32.ofInt 0)) 46 2 z129) 46 3 (Int32.ofInt 3)) 46 5 z71).2.2.1 46 4 := sF_ne rfl (sF_ne rfl (sF_ne rfl (sF_ne rfl (sF_get)))); have b1 : z129 = (sF (sF (sF (sF (sF sc0 46 4 w0_46_2) 46 3 (Int32.ofInt 0)) 46 2 z129) 46 3 (Int32.ofInt 3)) 46 5 z71).2.2.1 46 2 := sF_ne rfl (sF_ne rfl (sF_get)); rw [← b0, ← b1]; exact n181e
                              have n181g : (u_46_2).toInt ≤ (w0_46_2).toInt := by first | exact n0_1 | (have a0 := oa8 h2 h1 i59a i59 ((in_c 0 rfl)) i162x3 ((in_c 3 rfl)) i129; have a8 := t_add e129 i59 (in_c 1 rfl) rfl; have a9 := in_u ((in_c 1 rfl)); have oc := oc_171_46; omega)
                              have n181h : (s.2.2.1 46 2).toInt ≤ ((sF (sF (sF (sF (sF sc0 46 4 w0_46_2) 46 3 (Int32.ofInt 0)) 46 2 z129) 46 3 (Int32.ofInt 3)) 46 5 z71).2.2.1 46 4).toInt := by have b0 : w0_46_2 = (sF (sF (sF (sF (sF sc0 46 4 w0_46_2) 46 3 (Int32.ofInt 0)) 46 2 z129) 46 3 (Int32.ofInt 3)) 46 5 z71).2.2.1 46 4 := sF_ne rfl (sF_ne rfl (sF_ne rfl (sF_ne rfl (sF_get)))); rw [← b0, ← e_46_2]; exact n181g
                              exact g_return (gd rfl) rfl (hP _ _ ⟨(sF (sF (sF (sF (sF sc0 46 4 w0_46_2) 46 3 (Int32.ofInt 0)) 46 2 z129) 46 3 (Int32.ofInt 3)) 46 5 z71), hI178, (fr_sF rfl (fr_sF rfl (fr_sF rfl (fr_sF rfl (fr_sF rfl hFc0))))), n181d, n181f, n181h, rfl, rfl, n181, n181a, n181b⟩)
                          · skip
                            refine g_iload_n 7 (gd rfl) rfl rfl ?_
                            refine g_if_ne 10 23 (gd rfl) rfl rfl (fun c162x7 => ?_) (fun c162x7 => ?_)
                            · skip
                              refine g_iconst 0 24 (gd rfl) rfl rfl ?_
                              refine g_ireturn (gd rfl) rfl (nb01 (in_w 0 1 (in_c 0 rfl) rfl)) (hp162 _ _ ?_)
                              show GG _ _ _ _ _ _ _ _ [.int (Int32.ofInt 0), .ref (A 46)] _ _ _
                              refine g_if_eq 168 172 (gd rfl) rfl rfl (fun c165 => ?_) (fun c165 => ?_)
                              · skip
                                refine g_iconst 4 173 (gd rfl) rfl rfl ?_
                                refine g_putI 176 (gd rfl) rfl rfl rfl rfl ?_
                                have hI173 := inv_sF (q := 46) (j := 3) hI130 rfl (in_w 0 5 (in_c 4 rfl) rfl)
                                refine g_aload_n 177 (gd rfl) rfl rfl ?_
                                refine g_iload_n 178 (gd rfl) rfl rfl ?_
                                refine g_putI 181 (gd rfl) rfl rfl rfl rfl ?_
                                have hI178 := inv_sF (q := 46) (j := 5) hI173 rfl (in_w (-2147483648) 2147483647 i136 rfl)
                                have n181 : (x1).toInt = 6 → TK (sF (sF (sF (sF (sF sc0 46 4 w0_46_2) 46 3 (Int32.ofInt 0)) 46 2 z129) 46 3 (Int32.ofInt 4)) 46 5 z71) := by intro h6; exfalso; have a0 := oa8 h2 h1 i59a i59 ((in_c 0 rfl)) i136 ((in_c 4 rfl)) i129; have a8 := t_add e129 i59 (in_c 1 rfl) rfl; have a9 := in_u ((in_c 1 rfl)); have oc := oc_171_46; omega
                                have n181a : ((sF (sF (sF (sF (sF sc0 46 4 w0_46_2) 46 3 (Int32.ofInt 0)) 46 2 z129) 46 3 (Int32.ofInt 4)) 46 5 z71).2.2.1 46 3).toInt = 1 → In ((sF (sF (sF (sF (sF sc0 46 4 w0_46_2) 46 3 (Int32.ofInt 0)) 46 2 z129) 46 3 (Int32.ofInt 4)) 46 5 z71).2.2.1 46 5) 0 25 := by intro h1; rw [← (show (Int32.ofInt 4) = (sF (sF (sF (sF (sF sc0 46 4 w0_46_2) 46 3 (Int32.ofInt 0)) 46 2 z129) 46 3 (Int32.ofInt 4)) 46 5 z71).2.2.1 46 3 from sF_ne rfl (sF_get))] at h1; exact absurd h1 (by decide)
                                have n181b : TKN (s.1 47) (s.2.2.1 46 1).toInt.toNat (s.2.2.1 46 2).toInt.toNat ((sF (sF (sF (sF (sF sc0 46 4 w0_46_2) 46 3 (Int32.ofInt 0)) 46 2 z129) 46 3 (Int32.ofInt 4)) 46 5 z71).2.2.1 46 4).toInt.toNat ((sF (sF (sF (sF (sF sc0 46 4 w0_46_2) 46 3 (Int32.ofInt 0)) 46 2 z129) 46 3 (Int32.ofInt 4)) 46 5 z71).2.2.1 46 2).toInt.toNat ((sF (sF (sF (sF (sF sc0 46 4 w0_46_2) 46 3 (Int32.ofInt 0)) 46 2 z129) 46 3 (Int32.ofInt 4)) 46 5 z71).2.2.1 46 3).toInt ((sF (sF (sF (sF (sF sc0 46 4 w0_46_2) 46 3 (Int32.ofInt 0)) 46 2 z129) 46 3 (Int32.ofInt 4)) 46 5 z71).2.2.1 46 5).toInt := by exfalso; have a0 := oa8 h2 h1 i59a i59 ((in_c 0 rfl)) i136 ((in_c 4 rfl)) i129; have a8 := t_add e129 i59 (in_c 1 rfl) rfl; have a9 := in_u ((in_c 1 rfl)); have oc := oc_171_46; omega
                                have n181c : (z129).toInt ≤ (u_46_1).toInt := by have a0 := oa8 h2 h1 i59a i59 ((in_c 0 rfl)) i136 ((in_c 4 rfl)) i129; have a8 := t_add e129 i59 (in_c 1 rfl) rfl; have a9 := in_u ((in_c 1 rfl)); have oc := oc_171_46; omega
                                have n181d : ((sF (sF (sF (sF (sF sc0 46 4 w0_46_2) 46 3 (Int32.ofInt 0)) 46 2 z129) 46 3 (Int32.ofInt 4)) 46 5 z71).2.2.1 46 2).toInt ≤ ((sF (sF (sF (sF (sF sc0 46 4 w0_46_2) 46 3 (Int32.ofInt 0)) 46 2 z129) 46 3 (Int32.ofInt 4)) 46 5 z71).2.2.1 46 1).toInt := by have b0 : z129 = (sF (sF (sF (sF (sF sc0 46 4 w0_46_2) 46 3 (Int32.ofInt 0)) 46 2 z129) 46 3 (Int32.ofInt 4)) 46 5 z71).2.2.1 46 2 := sF_ne rfl (sF_ne rfl (sF_get)); have b1 : u_46_1 = (sF (sF (sF (sF (sF sc0 46 4 w0_46_2) 46 3 (Int32.ofInt 0)) 46 2 z129) 46 3 (Int32.ofInt 4)) 46 5 z71).2.2.1 46 1 := sF_ne rfl (sF_ne rfl (sF_ne rfl (sF_ne rfl (sF_ne rfl (fr_F e_46_1 hFc0 rfl))))); rw [← b0, ← b1]; exact n181c
                                have n181e : (w0_46_2).toInt ≤ (z129).toInt := by have a0 := oa8 h2 h1 i59a i59 ((in_c 0 rfl)) i136 ((in_c 4 rfl)) i129; have a8 := t_add e129 i59 (in_c 1 rfl) rfl; have a9 := in_u ((in_c 1 rfl)); have oc := oc_171_46; omega
                                have n181f : ((sF (sF (sF (sF (sF sc0 46 4 w0_46_2) 46 3 (Int32.ofInt 0)) 46 2 z129) 46 3 (Int32.ofInt 4)) 46 5 z71).2.2.1 46 4).toInt ≤ ((sF (sF (sF (sF (sF sc0 46 4 w0_46_2) 46 3 (Int32.ofInt 0)) 46 2 z129) 46 3 (Int32.ofInt 4)) 46 5 z71).2.2.1 46 2).toInt := by have b0 : w0_46_2 = (sF (sF (sF (sF (sF sc0 46 4 w0_46_2) 46 3 (Int32.ofInt 0)) 46 2 z129) 46 3 (Int32.ofInt 4)) 46 5 z71).2.2.1 46 4 := sF_ne rfl (sF_ne rfl (sF_ne rfl (sF_ne rfl (sF_get)))); have b1 : z129 = (sF (sF (sF (sF (sF sc0 46 4 w0_46_2) 46 3 (Int32.ofInt 0)) 46 2 z129) 46 3 (Int32.ofInt 4)) 46 5 z71).2.2.1 46 2 := sF_ne rfl (sF_ne rfl (sF_get)); rw [← b0, ← b1]; exact n181e
                                have n181g : (u_46_2).toInt ≤ (w0_46_2).toInt := by first | exact n0_1 | (have a0 := oa8 h2 h1 i59a i59 ((in_c 0 rfl)) i136 ((in_c 4 rfl)) i129; have a8 := t_add e129 i59 (in_c 1 rfl) rfl; have a9 := in_u ((in_c 1 rfl)); have oc := oc_171_46; omega)
                                have n181h : (s.2.2.1 46 2).toInt ≤ ((sF (sF (sF (sF (sF sc0 46 4 w0_46_2) 46 3 (Int32.ofInt 0)) 46 2 z129) 46 3 (Int32.ofInt 4)) 46 5 z71).2.2.1 46 4).toInt := by have b0 : w0_46_2 = (sF (sF (sF (sF (sF sc0 46 4 w0_46_2) 46 3 (Int32.ofInt 0)) 46 2 z129) 46 3 (Int32.ofInt 4)) 46 5 z71).2.2.1 46 4 := sF_ne rfl (sF_ne rfl (sF_ne rfl (sF_ne rfl (sF_get)))); rw [← b0, ← e_46_2]; exact n181g
                                exact g_return (gd rfl) rfl (hP _ _ ⟨(sF (sF (sF (sF (sF sc0 46 4 w0_46_2) 46 3 (Int32.ofInt 0)) 46 2 z129) 46 3 (Int32.ofInt 4)) 46 5 z71), hI178, (fr_sF rfl (fr_sF rfl (fr_sF rfl (fr_sF rfl (fr_sF rfl hFc0))))), n181d, n181f, n181h, rfl, rfl, n181, n181a, n181b⟩)
                              · skip
                                exact zn_ne c165 (in_c 0 rfl) rfl
                            · skip
                              exact zn_eq c162x7 h2 rfl
                        · skip
                          have i136 := r_le2 97 65535 c136 (in_c 97 rfl) i109x27 rfl
                          refine g_iload_n 140 (gd rfl) rfl rfl ?_
                          refine g_bipush 122 142 (gd rfl) rfl rfl ?_
                          refine g_cmp_gt 145 159 (gd rfl) rfl rfl (fun c142 => ?_) (fun c142 => ?_)
                          · skip
                            have i142 := r_lt2 123 65535 c142 (in_c 122 rfl) i136 rfl
                            refine g_aload_n 160 (gd rfl) rfl rfl ?_
                            refine g_iload_n 161 (gd rfl) rfl rfl ?_
                            refine g_iload_n 162 (gd rfl) rfl rfl ?_
                            refine g_calls (As := [.int z71, .int x2]) (r := [.ref (A 46)]) 165 (gd rfl) rfl rfl rfl rfl rfl (Nat.le_of_ble_eq_true rfl) (mc := 0) (ms := 0) (Nat.zero_le _) (Nat.zero_le _) (P := fun v u => _) ?_ (fun v u h => h)
                            intro po162 xx162 hp162 hx162
                            refine g_enter2 (k := 174) (N := 300) (by first | exact dq1 hd rfl | exact dq0 hd rfl | exact dq2 hd rfl | exact dq3 hd rfl | omega) rfl (Nat.le_of_ble_eq_true rfl) ?_
                            refine g_iload_n 1 (gd rfl) rfl rfl ?_
                            refine g_bipush 59 3 (gd rfl) rfl rfl ?_
                            refine g_cmp_eq 6 19 (gd rfl) rfl rfl (fun c162x3 => ?_) (fun c162x3 => ?_)
                            · skip
                              exact n_eq c162x3 i142 (in_c 59 rfl) rfl
                            · skip
                              refine g_iload_n 7 (gd rfl) rfl rfl ?_
                              refine g_if_ne 10 23 (gd rfl) rfl rfl (fun c162x7 => ?_) (fun c162x7 => ?_)
                              · skip
                                refine g_iconst 0 24 (gd rfl) rfl rfl ?_
                                refine g_ireturn (gd rfl) rfl (nb01 (in_w 0 1 (in_c 0 rfl) rfl)) (hp162 _ _ ?_)
                                show GG _ _ _ _ _ _ _ _ [.int (Int32.ofInt 0), .ref (A 46)] _ _ _
                                refine g_if_eq 168 172 (gd rfl) rfl rfl (fun c165 => ?_) (fun c165 => ?_)
                                · skip
                                  refine g_iconst 4 173 (gd rfl) rfl rfl ?_
                                  refine g_putI 176 (gd rfl) rfl rfl rfl rfl ?_
                                  have hI173 := inv_sF (q := 46) (j := 3) hI130 rfl (in_w 0 5 (in_c 4 rfl) rfl)
                                  refine g_aload_n 177 (gd rfl) rfl rfl ?_
                                  refine g_iload_n 178 (gd rfl) rfl rfl ?_
                                  refine g_putI 181 (gd rfl) rfl rfl rfl rfl ?_
                                  have hI178 := inv_sF (q := 46) (j := 5) hI173 rfl (in_w (-2147483648) 2147483647 i142 rfl)
                                  have n181 : (x1).toInt = 6 → TK (sF (sF (sF (sF (sF sc0 46 4 w0_46_2) 46 3 (Int32.ofInt 0)) 46 2 z129) 46 3 (Int32.ofInt 4)) 46 5 z71) := by intro h6; exfalso; have a0 := oa8 h2 h1 i59a i59 ((in_c 0 rfl)) i142 ((in_c 4 rfl)) i129; have a8 := t_add e129 i59 (in_c 1 rfl) rfl; have a9 := in_u ((in_c 1 rfl)); have oc := oc_171_46; omega
                                  have n181a : ((sF (sF (sF (sF (sF sc0 46 4 w0_46_2) 46 3 (Int32.ofInt 0)) 46 2 z129) 46 3 (Int32.ofInt 4)) 46 5 z71).2.2.1 46 3).toInt = 1 → In ((sF (sF (sF (sF (sF sc0 46 4 w0_46_2) 46 3 (Int32.ofInt 0)) 46 2 z129) 46 3 (Int32.ofInt 4)) 46 5 z71).2.2.1 46 5) 0 25 := by intro h1; rw [← (show (Int32.ofInt 4) = (sF (sF (sF (sF (sF sc0 46 4 w0_46_2) 46 3 (Int32.ofInt 0)) 46 2 z129) 46 3 (Int32.ofInt 4)) 46 5 z71).2.2.1 46 3 from sF_ne rfl (sF_get))] at h1; exact absurd h1 (by decide)
                                  have n181b : TKN (s.1 47) (s.2.2.1 46 1).toInt.toNat (s.2.2.1 46 2).toInt.toNat ((sF (sF (sF (sF (sF sc0 46 4 w0_46_2) 46 3 (Int32.ofInt 0)) 46 2 z129) 46 3 (Int32.ofInt 4)) 46 5 z71).2.2.1 46 4).toInt.toNat ((sF (sF (sF (sF (sF sc0 46 4 w0_46_2) 46 3 (Int32.ofInt 0)) 46 2 z129) 46 3 (Int32.ofInt 4)) 46 5 z71).2.2.1 46 2).toInt.toNat ((sF (sF (sF (sF (sF sc0 46 4 w0_46_2) 46 3 (Int32.ofInt 0)) 46 2 z129) 46 3 (Int32.ofInt 4)) 46 5 z71).2.2.1 46 3).toInt ((sF (sF (sF (sF (sF sc0 46 4 w0_46_2) 46 3 (Int32.ofInt 0)) 46 2 z129) 46 3 (Int32.ofInt 4)) 46 5 z71).2.2.1 46 5).toInt := by exfalso; have a0 := oa8 h2 h1 i59a i59 ((in_c 0 rfl)) i142 ((in_c 4 rfl)) i129; have a8 := t_add e129 i59 (in_c 1 rfl) rfl; have a9 := in_u ((in_c 1 rfl)); have oc := oc_171_46; omega
                                  have n181c : (z129).toInt ≤ (u_46_1).toInt := by have a0 := oa8 h2 h1 i59a i59 ((in_c 0 rfl)) i142 ((in_c 4 rfl)) i129; have a8 := t_add e129 i59 (in_c 1 rfl) rfl; have a9 := in_u ((in_c 1 rfl)); have oc := oc_171_46; omega
                                  have n181d : ((sF (sF (sF (sF (sF sc0 46 4 w0_46_2) 46 3 (Int32.ofInt 0)) 46 2 z129) 46 3 (Int32.ofInt 4)) 46 5 z71).2.2.1 46 2).toInt ≤ ((sF (sF (sF (sF (sF sc0 46 4 w0_46_2) 46 3 (Int32.ofInt 0)) 46 2 z129) 46 3 (Int32.ofInt 4)) 46 5 z71).2.2.1 46 1).toInt := by have b0 : z129 = (sF (sF (sF (sF (sF sc0 46 4 w0_46_2) 46 3 (Int32.ofInt 0)) 46 2 z129) 46 3 (Int32.ofInt 4)) 46 5 z71).2.2.1 46 2 := sF_ne rfl (sF_ne rfl (sF_get)); have b1 : u_46_1 = (sF (sF (sF (sF (sF sc0 46 4 w0_46_2) 46 3 (Int32.ofInt 0)) 46 2 z129) 46 3 (Int32.ofInt 4)) 46 5 z71).2.2.1 46 1 := sF_ne rfl (sF_ne rfl (sF_ne rfl (sF_ne rfl (sF_ne rfl (fr_F e_46_1 hFc0 rfl))))); rw [← b0, ← b1]; exact n181c
                                  have n181e : (w0_46_2).toInt ≤ (z129).toInt := by have a0 := oa8 h2 h1 i59a i59 ((in_c 0 rfl)) i142 ((in_c 4 rfl)) i129; have a8 := t_add e129 i59 (in_c 1 rfl) rfl; have a9 := in_u ((in_c 1 rfl)); have oc := oc_171_46; omega
                                  have n181f : ((sF (sF (sF (sF (sF sc0 46 4 w0_46_2) 46 3 (Int32.ofInt 0)) 46 2 z129) 46 3 (Int32.ofInt 4)) 46 5 z71).2.2.1 46 4).toInt ≤ ((sF (sF (sF (sF (sF sc0 46 4 w0_46_2) 46 3 (Int32.ofInt 0)) 46 2 z129) 46 3 (Int32.ofInt 4)) 46 5 z71).2.2.1 46 2).toInt := by have b0 : w0_46_2 = (sF (sF (sF (sF (sF sc0 46 4 w0_46_2) 46 3 (Int32.ofInt 0)) 46 2 z129) 46 3 (Int32.ofInt 4)) 46 5 z71).2.2.1 46 4 := sF_ne rfl (sF_ne rfl (sF_ne rfl (sF_ne rfl (sF_get)))); have b1 : z129 = (sF (sF (sF (sF (sF sc0 46 4 w0_46_2) 46 3 (Int32.ofInt 0)) 46 2 z129) 46 3 (Int32.ofInt 4)) 46 5 z71).2.2.1 46 2 := sF_ne rfl (sF_ne rfl (sF_get)); rw [← b0, ← b1]; exact n181e
                                  have n181g : (u_46_2).toInt ≤ (w0_46_2).toInt := by first | exact n0_1 | (have a0 := oa8 h2 h1 i59a i59 ((in_c 0 rfl)) i142 ((in_c 4 rfl)) i129; have a8 := t_add e129 i59 (in_c 1 rfl) rfl; have a9 := in_u ((in_c 1 rfl)); have oc := oc_171_46; omega)
                                  have n181h : (s.2.2.1 46 2).toInt ≤ ((sF (sF (sF (sF (sF sc0 46 4 w0_46_2) 46 3 (Int32.ofInt 0)) 46 2 z129) 46 3 (Int32.ofInt 4)) 46 5 z71).2.2.1 46 4).toInt := by have b0 : w0_46_2 = (sF (sF (sF (sF (sF sc0 46 4 w0_46_2) 46 3 (Int32.ofInt 0)) 46 2 z129) 46 3 (Int32.ofInt 4)) 46 5 z71).2.2.1 46 4 := sF_ne rfl (sF_ne rfl (sF_ne rfl (sF_ne rfl (sF_get)))); rw [← b0, ← e_46_2]; exact n181g
                                  exact g_return (gd rfl) rfl (hP _ _ ⟨(sF (sF (sF (sF (sF sc0 46 4 w0_46_2) 46 3 (Int32.ofInt 0)) 46 2 z129) 46 3 (Int32.ofInt 4)) 46 5 z71), hI178, (fr_sF rfl (fr_sF rfl (fr_sF rfl (fr_sF rfl (fr_sF rfl hFc0))))), n181d, n181f, n181h, rfl, rfl, n181, n181a, n181b⟩)
                                · skip
                                  exact zn_ne c165 (in_c 0 rfl) rfl
                              · skip
                                exact zn_eq c162x7 h2 rfl
                          · skip
                            have i142 := r_le1 97 122 c142 i136 (in_c 122 rfl) rfl
                            refine g_aload_n 146 (gd rfl) rfl rfl ?_
                            refine g_iconst 1 147 (gd rfl) rfl rfl ?_
                            refine g_putI 150 (gd rfl) rfl rfl rfl rfl ?_
                            have hI147 := inv_sF (q := 46) (j := 3) hI130 rfl (in_w 0 5 (in_c 1 rfl) rfl)
                            refine g_aload_n 151 (gd rfl) rfl rfl ?_
                            refine g_iload_n 152 (gd rfl) rfl rfl ?_
                            refine g_bipush 97 154 (gd rfl) rfl rfl ?_
                            refine g_isub 155 (gd rfl) rfl (fun z154 e154 => ?_)
                            have i154 := in_sub 0 25 e154 i142 (in_c 97 rfl) rfl rfl
                            refine g_putI 158 (gd rfl) rfl rfl rfl rfl ?_
                            have hI155 := inv_sF (q := 46) (j := 5) hI147 rfl (in_w (-2147483648) 2147483647 i154 rfl)
                            have n158 : (x1).toInt = 6 → TK (sF (sF (sF (sF (sF sc0 46 4 w0_46_2) 46 3 (Int32.ofInt 0)) 46 2 z129) 46 3 (Int32.ofInt 1)) 46 5 z154) := by intro h6; exfalso; have a0 := oa7 h2 h1 i59a i59 ((in_c 0 rfl)) i142 i154; have a7 := t_sub e154 i142 (in_c 97 rfl) rfl; have a8 := oa3 ((in_c 97 rfl)) ((in_c 1 rfl)) i129; have a11 := t_add e129 i59 (in_c 1 rfl) rfl; have oc := oc_171_46; omega
                            have n158a : ((sF (sF (sF (sF (sF sc0 46 4 w0_46_2) 46 3 (Int32.ofInt 0)) 46 2 z129) 46 3 (Int32.ofInt 1)) 46 5 z154).2.2.1 46 3).toInt = 1 → In ((sF (sF (sF (sF (sF sc0 46 4 w0_46_2) 46 3 (Int32.ofInt 0)) 46 2 z129) 46 3 (Int32.ofInt 1)) 46 5 z154).2.2.1 46 5) 0 25 := by intro _; rw [← (show z154 = (sF (sF (sF (sF (sF sc0 46 4 w0_46_2) 46 3 (Int32.ofInt 0)) 46 2 z129) 46 3 (Int32.ofInt 1)) 46 5 z154).2.2.1 46 5 from sF_get)]; exact ⟨by have a0 := oa7 h2 h1 i59a i59 ((in_c 0 rfl)) i142 i154; have a7 := t_sub e154 i142 (in_c 97 rfl) rfl; have a8 := oa3 ((in_c 97 rfl)) ((in_c 1 rfl)) i129; have a11 := t_add e129 i59 (in_c 1 rfl) rfl; have oc := oc_171_46; omega, by have a0 := oa7 h2 h1 i59a i59 ((in_c 0 rfl)) i142 i154; have a7 := t_sub e154 i142 (in_c 97 rfl) rfl; have a8 := oa3 ((in_c 97 rfl)) ((in_c 1 rfl)) i129; have a11 := t_add e129 i59 (in_c 1 rfl) rfl; have oc := oc_171_46; omega⟩
                            have n158b : TKN (s.1 47) (s.2.2.1 46 1).toInt.toNat (s.2.2.1 46 2).toInt.toNat ((sF (sF (sF (sF (sF sc0 46 4 w0_46_2) 46 3 (Int32.ofInt 0)) 46 2 z129) 46 3 (Int32.ofInt 1)) 46 5 z154).2.2.1 46 4).toInt.toNat ((sF (sF (sF (sF (sF sc0 46 4 w0_46_2) 46 3 (Int32.ofInt 0)) 46 2 z129) 46 3 (Int32.ofInt 1)) 46 5 z154).2.2.1 46 2).toInt.toNat ((sF (sF (sF (sF (sF sc0 46 4 w0_46_2) 46 3 (Int32.ofInt 0)) 46 2 z129) 46 3 (Int32.ofInt 1)) 46 5 z154).2.2.1 46 3).toInt ((sF (sF (sF (sF (sF sc0 46 4 w0_46_2) 46 3 (Int32.ofInt 0)) 46 2 z129) 46 3 (Int32.ofInt 1)) 46 5 z154).2.2.1 46 5).toInt := by exfalso; have a0 := oa7 h2 h1 i59a i59 ((in_c 0 rfl)) i142 i154; have a7 := t_sub e154 i142 (in_c 97 rfl) rfl; have a8 := oa3 ((in_c 97 rfl)) ((in_c 1 rfl)) i129; have a11 := t_add e129 i59 (in_c 1 rfl) rfl; have oc := oc_171_46; omega
                            have n158c : (z129).toInt ≤ (u_46_1).toInt := by have a0 := oa7 h2 h1 i59a i59 ((in_c 0 rfl)) i142 i154; have a7 := t_sub e154 i142 (in_c 97 rfl) rfl; have a8 := oa3 ((in_c 97 rfl)) ((in_c 1 rfl)) i129; have a11 := t_add e129 i59 (in_c 1 rfl) rfl; have oc := oc_171_46; omega
                            have n158d : ((sF (sF (sF (sF (sF sc0 46 4 w0_46_2) 46 3 (Int32.ofInt 0)) 46 2 z129) 46 3 (Int32.ofInt 1)) 46 5 z154).2.2.1 46 2).toInt ≤ ((sF (sF (sF (sF (sF sc0 46 4 w0_46_2) 46 3 (Int32.ofInt 0)) 46 2 z129) 46 3 (Int32.ofInt 1)) 46 5 z154).2.2.1 46 1).toInt := by have b0 : z129 = (sF (sF (sF (sF (sF sc0 46 4 w0_46_2) 46 3 (Int32.ofInt 0)) 46 2 z129) 46 3 (Int32.ofInt 1)) 46 5 z154).2.2.1 46 2 := sF_ne rfl (sF_ne rfl (sF_get)); have b1 : u_46_1 = (sF (sF (sF (sF (sF sc0 46 4 w0_46_2) 46 3 (Int32.ofInt 0)) 46 2 z129) 46 3 (Int32.ofInt 1)) 46 5 z154).2.2.1 46 1 := sF_ne rfl (sF_ne rfl (sF_ne rfl (sF_ne rfl (sF_ne rfl (fr_F e_46_1 hFc0 rfl))))); rw [← b0, ← b1]; exact n158c
                            have n158e : (w0_46_2).toInt ≤ (z129).toInt := by have a0 := oa7 h2 h1 i59a i59 ((in_c 0 rfl)) i142 i154; have a7 := t_sub e154 i142 (in_c 97 rfl) rfl; have a8 := oa3 ((in_c 97 rfl)) ((in_c 1 rfl)) i129; have a11 := t_add e129 i59 (in_c 1 rfl) rfl; have oc := oc_171_46; omega
                            have n158f : ((sF (sF (sF (sF (sF sc0 46 4 w0_46_2) 46 3 (Int32.ofInt 0)) 46 2 z129) 46 3 (Int32.ofInt 1)) 46 5 z154).2.2.1 46 4).toInt ≤ ((sF (sF (sF (sF (sF sc0 46 4 w0_46_2) 46 3 (Int32.ofInt 0)) 46 2 z129) 46 3 (Int32.ofInt 1)) 46 5 z154).2.2.1 46 2).toInt := by have b0 : w0_46_2 = (sF (sF (sF (sF (sF sc0 46 4 w0_46_2) 46 3 (Int32.ofInt 0)) 46 2 z129) 46 3 (Int32.ofInt 1)) 46 5 z154).2.2.1 46 4 := sF_ne rfl (sF_ne rfl (sF_ne rfl (sF_ne rfl (sF_get)))); have b1 : z129 = (sF (sF (sF (sF (sF sc0 46 4 w0_46_2) 46 3 (Int32.ofInt 0)) 46 2 z129) 46 3 (Int32.ofInt 1)) 46 5 z154).2.2.1 46 2 := sF_ne rfl (sF_ne rfl (sF_get)); rw [← b0, ← b1]; exact n158e
                            have n158g : (u_46_2).toInt ≤ (w0_46_2).toInt := by first | exact n0_1 | (have a0 := oa7 h2 h1 i59a i59 ((in_c 0 rfl)) i142 i154; have a7 := t_sub e154 i142 (in_c 97 rfl) rfl; have a8 := oa3 ((in_c 97 rfl)) ((in_c 1 rfl)) i129; have a11 := t_add e129 i59 (in_c 1 rfl) rfl; have oc := oc_171_46; omega)
                            have n158h : (s.2.2.1 46 2).toInt ≤ ((sF (sF (sF (sF (sF sc0 46 4 w0_46_2) 46 3 (Int32.ofInt 0)) 46 2 z129) 46 3 (Int32.ofInt 1)) 46 5 z154).2.2.1 46 4).toInt := by have b0 : w0_46_2 = (sF (sF (sF (sF (sF sc0 46 4 w0_46_2) 46 3 (Int32.ofInt 0)) 46 2 z129) 46 3 (Int32.ofInt 1)) 46 5 z154).2.2.1 46 4 := sF_ne rfl (sF_ne rfl (sF_ne rfl (sF_ne rfl (sF_get)))); rw [← b0, ← e_46_2]; exact n158g
                            exact g_return (gd rfl) rfl (hP _ _ ⟨(sF (sF (sF (sF (sF sc0 46 4 w0_46_2) 46 3 (Int32.ofInt 0)) 46 2 z129) 46 3 (Int32.ofInt 1)) 46 5 z154), hI155, (fr_sF rfl (fr_sF rfl (fr_sF rfl (fr_sF rfl (fr_sF rfl hFc0))))), n158d, n158f, n158h, rfl, rfl, n158, n158a, n158b⟩)
                      · skip
                        exact zn_ne c112 (in_c 0 rfl) rfl
                    · skip
                      have i109x27 := r_le1 48 57 c109x27 i109x16 (in_c 57 rfl) rfl
                      refine g_iconst 1 31 (gd rfl) rfl rfl ?_
                      refine g_goto 35 (gd rfl) rfl ?_
                      refine g_ireturn (gd rfl) rfl (nb01 (in_w 0 1 (in_c 1 rfl) rfl)) (hp109 _ _ ?_)
                      show GG _ _ _ _ _ _ _ _ [.int (Int32.ofInt 1)] _ _ _
                      refine g_if_eq 115 123 (gd rfl) rfl rfl (fun c112 => ?_) (fun c112 => ?_)
                      · skip
                        exact zn_eq c112 (in_c 1 rfl) rfl
                      · skip
                        refine g_aload_n 116 (gd rfl) rfl rfl ?_
                        refine g_iload 118 (gd rfl) rfl rfl ?_
                        refine g_iload_n 119 (gd rfl) rfl rfl ?_
                        have hA9 : w0_46_2 = (sF (sF sc0 46 4 w0_46_2) 46 3 (Int32.ofInt 0)).2.2.1 46 2 := (show w0_46_2 = (sF (sF sc0 46 4 w0_46_2) 46 3 (Int32.ofInt 0)).2.2.1 46 2 from sF_ne rfl (sF_ne rfl (v0_46_2)))
                        have hL9 : u_46_1 = (sF (sF sc0 46 4 w0_46_2) 46 3 (Int32.ofInt 0)).2.2.1 46 1 := (show u_46_1 = (sF (sF sc0 46 4 w0_46_2) 46 3 (Int32.ofInt 0)).2.2.1 46 1 from sF_ne rfl (sF_ne rfl (fr_F e_46_1 hFc0 rfl)))
                        have hX9 : (sF (sF sc0 46 4 w0_46_2) 46 3 (Int32.ofInt 0)).1 47 = s.1 47 := hFc0.1 47 rfl
                        have v119 : w0_46_2 = (sF (sF sc0 46 4 w0_46_2) 46 3 (Int32.ofInt 0)).2.2.1 46 2 := sF_ne rfl (sF_ne rfl (v0_46_2))
                        have v119a : u_46_1 = (sF (sF sc0 46 4 w0_46_2) 46 3 (Int32.ofInt 0)).2.2.1 46 1 := sF_ne rfl (sF_ne rfl (fr_F e_46_1 hFc0 rfl))
                        have n119 : (w0_46_2).toInt + ((Int32.ofInt 0)).toInt + 1 ≤ (u_46_1).toInt := by have a0 := oa6 h2 h1 i59a i59 ((in_c 0 rfl)) i109x27; have oc := oc_171_46; omega
                        have p119 : 48 ≤ ((sF (sF sc0 46 4 w0_46_2) 46 3 (Int32.ofInt 0)).1 47 (((sF (sF sc0 46 4 w0_46_2) 46 3 (Int32.ofInt 0)).2.2.1 46 2).toInt + ((Int32.ofInt 0)).toInt).toNat).toInt ∧ ((sF (sF sc0 46 4 w0_46_2) 46 3 (Int32.ofInt 0)).1 47 (((sF (sF sc0 46 4 w0_46_2) 46 3 (Int32.ofInt 0)).2.2.1 46 2).toInt + ((Int32.ofInt 0)).toInt).toNat).toInt ≤ 57 := by exfalso; have a0 := oa6 h2 h1 i59a i59 ((in_c 0 rfl)) i109x27; have oc := oc_171_46; omega
                        refine g_callv (X := _) (As := [.int (Int32.ofInt 0), .int x1]) (r := []) (b := A 46) (q := 46) 122 (gd rfl) rfl rfl rfl rfl rfl (ww_o rfl) (Nat.le_of_ble_eq_true rfl) (Nat.zero_le _) (Nat.zero_le _) (f_173_46 (by first | exact dq1 hd rfl | exact dq0 hd rfl | exact dq2 hd rfl | exact dq3 hd rfl | omega) hI48 (in_w 0 1 (in_c 0 rfl) rfl) (in_w 6 7 h1 rfl) v119 v119a n119 p119) (fun e u h => h) (fun v u h => ?_)
                        obtain ⟨s119, hI119, hF119, n119a, n119b, rfl, rfl, p119a, p119b, p119c⟩ := h
                        obtain ⟨z119a, e119⟩ : ∃ w, w = s119.2.2.1 46 2 := ⟨_, rfl⟩
                        have i119a := inv_F hI119 0 1000 rfl e119
                        rw [← (show z119a = s119.2.2.1 46 2 from e119)] at n119a
                        rw [← (show u_46_1 = s119.2.2.1 46 1 from fr_F (s := (sF (sF sc0 46 4 w0_46_2) 46 3 (Int32.ofInt 0))) (sF_ne rfl (sF_ne rfl (fr_F e_46_1 hFc0 rfl))) hF119 rfl)] at n119a
                        rw [← (show w0_46_2 = (sF (sF sc0 46 4 w0_46_2) 46 3 (Int32.ofInt 0)).2.2.1 46 2 from sF_ne rfl (sF_ne rfl (v0_46_2)))] at n119b
                        rw [← (show z119a = s119.2.2.1 46 2 from e119)] at n119b
                        show GG _ _ _ _ _ _ _ _ [] _ _ _
                        have n122 : (x1).toInt = 6 → TK s119 := by intro h6; exfalso; have a0 := oa7 h2 h1 i59a i59 ((in_c 0 rfl)) i109x27 i119a; have oc := oc_171_46; omega
                        have n122a : (s119.2.2.1 46 3).toInt = 1 → In (s119.2.2.1 46 5) 0 25 := by intro h1; exact absurd h1 p119a
                        have n122b : TKN (s.1 47) (s.2.2.1 46 1).toInt.toNat (s.2.2.1 46 2).toInt.toNat (s119.2.2.1 46 4).toInt.toNat (s119.2.2.1 46 2).toInt.toNat (s119.2.2.1 46 3).toInt (s119.2.2.1 46 5).toInt := by exfalso; have a0 := oa7 h2 h1 i59a i59 ((in_c 0 rfl)) i109x27 i119a; have oc := oc_171_46; omega
                        have n122c : (z119a).toInt ≤ (u_46_1).toInt := by have a0 := oa7 h2 h1 i59a i59 ((in_c 0 rfl)) i109x27 i119a; have oc := oc_171_46; omega
                        have n122d : (s119.2.2.1 46 2).toInt ≤ (s119.2.2.1 46 1).toInt := by have b0 : z119a = s119.2.2.1 46 2 := e119; have b1 : u_46_1 = s119.2.2.1 46 1 := fr_F (s := (sF (sF sc0 46 4 w0_46_2) 46 3 (Int32.ofInt 0))) (sF_ne rfl (sF_ne rfl (fr_F e_46_1 hFc0 rfl))) hF119 rfl; rw [← b0, ← b1]; exact n122c
                        have n122e : (w0_46_2).toInt ≤ (z119a).toInt := by have a0 := oa7 h2 h1 i59a i59 ((in_c 0 rfl)) i109x27 i119a; have oc := oc_171_46; omega
                        have n122f : (s119.2.2.1 46 4).toInt ≤ (s119.2.2.1 46 2).toInt := by have b0 : w0_46_2 = s119.2.2.1 46 4 := fr_F (s := (sF (sF sc0 46 4 w0_46_2) 46 3 (Int32.ofInt 0))) (sF_ne rfl (sF_get)) hF119 rfl; have b1 : z119a = s119.2.2.1 46 2 := e119; rw [← b0, ← b1]; exact n122e
                        have n122g : (u_46_2).toInt ≤ (w0_46_2).toInt := by first | exact n0_1 | (have a0 := oa7 h2 h1 i59a i59 ((in_c 0 rfl)) i109x27 i119a; have oc := oc_171_46; omega)
                        have n122h : (s.2.2.1 46 2).toInt ≤ (s119.2.2.1 46 4).toInt := by have b0 : w0_46_2 = s119.2.2.1 46 4 := fr_F (s := (sF (sF sc0 46 4 w0_46_2) 46 3 (Int32.ofInt 0))) (sF_ne rfl (sF_get)) hF119 rfl; rw [← b0, ← e_46_2]; exact n122g
                        exact g_return (gd rfl) rfl (hP _ _ ⟨s119, hI119, (fr_tr rfl (fr_sF rfl (fr_sF rfl hFc0)) hF119), n122d, n122f, n122h, rfl, rfl, n122, n122a, n122b⟩)
              · skip
                exact zn_ne c93 (in_c 0 rfl) rfl
            · skip
              have i80 := r_eq1 45 45 c80 i71 (in_c 45 rfl) rfl
              refine g_iconst 1 84 (gd rfl) rfl rfl ?_
              refine g_goto 88 (gd rfl) rfl ?_
              refine g_istore 90 (gd rfl) rfl (Nat.le_of_ble_eq_true rfl) ?_
              refine g_aload_n 91 (gd rfl) rfl rfl ?_
              refine g_iload 93 (gd rfl) rfl rfl ?_
              refine g_if_eq 96 105 (gd rfl) rfl rfl (fun c93 => ?_) (fun c93 => ?_)
              · skip
                exact zn_eq c93 (in_c 1 rfl) rfl
              · skip
                refine g_aload_n 97 (gd rfl) rfl rfl ?_
                refine g_getI 100 (gd rfl) rfl rfl rfl (fun z97 e97 => ?_)
                have q97 : w0_46_2 = z97 := (sF_ne rfl (sF_ne rfl (v0_46_2))).trans e97.symm
                subst q97
                refine g_iconst 1 101 (gd rfl) rfl rfl ?_
                refine g_iadd 102 (gd rfl) rfl (fun z101 e101 => ?_)
                have i101 := in_add 1 1000 e101 i59 (in_c 1 rfl) rfl rfl
                refine g_goto 109 (gd rfl) rfl ?_
                refine g_callv (X := _) (As := [.int z101]) (r := []) (b := A 46) (q := 46) 112 (gd rfl) rfl rfl rfl rfl rfl (ww_o rfl) (Nat.le_of_ble_eq_true rfl) (mc := 0) (ms := 0) (Nat.zero_le _) (Nat.zero_le _) (P := fun v u => _) ?_ (fun e u h => h) (fun v u h => h)
                intro po109 xx109 hp109 hx109
                refine g_enter2 (k := 172) (N := 300) (by first | exact dq1 hd rfl | exact dq0 hd rfl | exact dq2 hd rfl | exact dq3 hd rfl | omega) rfl (Nat.le_of_ble_eq_true rfl) ?_
                refine g_iload_n 1 (gd rfl) rfl rfl ?_
                refine g_aload_n 2 (gd rfl) rfl rfl ?_
                refine g_getI 5 (gd rfl) rfl rfl rfl (fun z109x2 e109x2 => ?_)
                have q109x2 : u_46_1 = z109x2 := (sF_ne rfl (sF_ne rfl (fr_F e_46_1 hFc0 rfl))).trans e109x2.symm
                subst q109x2
                refine g_cmp_ge 8 34 (gd rfl) rfl rfl (fun c109x5 => ?_) (fun c109x5 => ?_)
                · skip
                  refine g_iconst 0 35 (gd rfl) rfl rfl ?_
                  refine g_ireturn (gd rfl) rfl (nb01 (in_w 0 1 (in_c 0 rfl) rfl)) (hp109 _ _ ?_)
                  show GG _ _ _ _ _ _ _ _ [.int (Int32.ofInt 0)] _ _ _
                  refine g_if_eq 115 123 (gd rfl) rfl rfl (fun c112 => ?_) (fun c112 => ?_)
                  · skip
                    refine g_aload_n 124 (gd rfl) rfl rfl ?_
                    refine g_dup 125 (gd rfl) rfl rfl ?_
                    refine g_getI 128 (gd rfl) rfl rfl rfl (fun z125 e125 => ?_)
                    have q125 : w0_46_2 = z125 := (sF_ne rfl (sF_ne rfl (v0_46_2))).trans e125.symm
                    subst q125
                    refine g_iconst 1 129 (gd rfl) rfl rfl ?_
                    refine g_iadd 130 (gd rfl) rfl (fun z129 e129 => ?_)
                    have i129 := in_add 1 1000 e129 i59 (in_c 1 rfl) rfl rfl
                    refine g_putI 133 (gd rfl) rfl rfl rfl rfl ?_
                    have hI130 := inv_sF (q := 46) (j := 2) hI48 rfl (in_w 0 1000 i129 rfl)
                    refine g_iload_n 134 (gd rfl) rfl rfl ?_
                    refine g_bipush 97 136 (gd rfl) rfl rfl ?_
                    refine g_cmp_lt 139 159 (gd rfl) rfl rfl (fun c136 => ?_) (fun c136 => ?_)
                    · skip
                      refine g_aload_n 160 (gd rfl) rfl rfl ?_
                      refine g_iload_n 161 (gd rfl) rfl rfl ?_
                      refine g_iload_n 162 (gd rfl) rfl rfl ?_
                      refine g_calls (As := [.int z71, .int x2]) (r := [.ref (A 46)]) 165 (gd rfl) rfl rfl rfl rfl rfl (Nat.le_of_ble_eq_true rfl) (mc := 0) (ms := 0) (Nat.zero_le _) (Nat.zero_le _) (P := fun v u => _) ?_ (fun v u h => h)
                      intro po162 xx162 hp162 hx162
                      refine g_enter2 (k := 174) (N := 300) (by first | exact dq1 hd rfl | exact dq0 hd rfl | exact dq2 hd rfl | exact dq3 hd rfl | omega) rfl (Nat.le_of_ble_eq_true rfl) ?_
                      refine g_iload_n 1 (gd rfl) rfl rfl ?_
                      refine g_bipush 59 3 (gd rfl) rfl rfl ?_
                      refine g_cmp_eq 6 19 (gd rfl) rfl rfl (fun c162x3 => ?_) (fun c162x3 => ?_)
                      · skip
                        exact n_eq c162x3 i80 (in_c 59 rfl) rfl
                      · skip
                        refine g_iload_n 7 (gd rfl) rfl rfl ?_
                        refine g_if_ne 10 23 (gd rfl) rfl rfl (fun c162x7 => ?_) (fun c162x7 => ?_)
                        · skip
                          refine g_iconst 0 24 (gd rfl) rfl rfl ?_
                          refine g_ireturn (gd rfl) rfl (nb01 (in_w 0 1 (in_c 0 rfl) rfl)) (hp162 _ _ ?_)
                          show GG _ _ _ _ _ _ _ _ [.int (Int32.ofInt 0), .ref (A 46)] _ _ _
                          refine g_if_eq 168 172 (gd rfl) rfl rfl (fun c165 => ?_) (fun c165 => ?_)
                          · skip
                            refine g_iconst 4 173 (gd rfl) rfl rfl ?_
                            refine g_putI 176 (gd rfl) rfl rfl rfl rfl ?_
                            have hI173 := inv_sF (q := 46) (j := 3) hI130 rfl (in_w 0 5 (in_c 4 rfl) rfl)
                            refine g_aload_n 177 (gd rfl) rfl rfl ?_
                            refine g_iload_n 178 (gd rfl) rfl rfl ?_
                            refine g_putI 181 (gd rfl) rfl rfl rfl rfl ?_
                            have hI178 := inv_sF (q := 46) (j := 5) hI173 rfl (in_w (-2147483648) 2147483647 i80 rfl)
                            have n181 : (x1).toInt = 6 → TK (sF (sF (sF (sF (sF sc0 46 4 w0_46_2) 46 3 (Int32.ofInt 0)) 46 2 z129) 46 3 (Int32.ofInt 4)) 46 5 z71) := by intro h6; exfalso; have a0 := oa8 h2 h1 i59a i59 ((in_c 1 rfl)) i80 ((in_c 4 rfl)) i129; have a8 := t_add e129 i59 (in_c 1 rfl) rfl; have a9 := in_u i101; have a10 := t_add e101 i59 (in_c 1 rfl) rfl; have oc := oc_171_46; omega
                            have n181a : ((sF (sF (sF (sF (sF sc0 46 4 w0_46_2) 46 3 (Int32.ofInt 0)) 46 2 z129) 46 3 (Int32.ofInt 4)) 46 5 z71).2.2.1 46 3).toInt = 1 → In ((sF (sF (sF (sF (sF sc0 46 4 w0_46_2) 46 3 (Int32.ofInt 0)) 46 2 z129) 46 3 (Int32.ofInt 4)) 46 5 z71).2.2.1 46 5) 0 25 := by intro h1; rw [← (show (Int32.ofInt 4) = (sF (sF (sF (sF (sF sc0 46 4 w0_46_2) 46 3 (Int32.ofInt 0)) 46 2 z129) 46 3 (Int32.ofInt 4)) 46 5 z71).2.2.1 46 3 from sF_ne rfl (sF_get))] at h1; exact absurd h1 (by decide)
                            have n181b : TKN (s.1 47) (s.2.2.1 46 1).toInt.toNat (s.2.2.1 46 2).toInt.toNat ((sF (sF (sF (sF (sF sc0 46 4 w0_46_2) 46 3 (Int32.ofInt 0)) 46 2 z129) 46 3 (Int32.ofInt 4)) 46 5 z71).2.2.1 46 4).toInt.toNat ((sF (sF (sF (sF (sF sc0 46 4 w0_46_2) 46 3 (Int32.ofInt 0)) 46 2 z129) 46 3 (Int32.ofInt 4)) 46 5 z71).2.2.1 46 2).toInt.toNat ((sF (sF (sF (sF (sF sc0 46 4 w0_46_2) 46 3 (Int32.ofInt 0)) 46 2 z129) 46 3 (Int32.ofInt 4)) 46 5 z71).2.2.1 46 3).toInt ((sF (sF (sF (sF (sF sc0 46 4 w0_46_2) 46 3 (Int32.ofInt 0)) 46 2 z129) 46 3 (Int32.ofInt 4)) 46 5 z71).2.2.1 46 5).toInt := by exfalso; have a0 := oa8 h2 h1 i59a i59 ((in_c 1 rfl)) i80 ((in_c 4 rfl)) i129; have a8 := t_add e129 i59 (in_c 1 rfl) rfl; have a9 := in_u i101; have a10 := t_add e101 i59 (in_c 1 rfl) rfl; have oc := oc_171_46; omega
                            have n181c : (z129).toInt ≤ (u_46_1).toInt := by have a0 := oa8 h2 h1 i59a i59 ((in_c 1 rfl)) i80 ((in_c 4 rfl)) i129; have a8 := t_add e129 i59 (in_c 1 rfl) rfl; have a9 := in_u i101; have a10 := t_add e101 i59 (in_c 1 rfl) rfl; have oc := oc_171_46; omega
                            have n181d : ((sF (sF (sF (sF (sF sc0 46 4 w0_46_2) 46 3 (Int32.ofInt 0)) 46 2 z129) 46 3 (Int32.ofInt 4)) 46 5 z71).2.2.1 46 2).toInt ≤ ((sF (sF (sF (sF (sF sc0 46 4 w0_46_2) 46 3 (Int32.ofInt 0)) 46 2 z129) 46 3 (Int32.ofInt 4)) 46 5 z71).2.2.1 46 1).toInt := by have b0 : z129 = (sF (sF (sF (sF (sF sc0 46 4 w0_46_2) 46 3 (Int32.ofInt 0)) 46 2 z129) 46 3 (Int32.ofInt 4)) 46 5 z71).2.2.1 46 2 := sF_ne rfl (sF_ne rfl (sF_get)); have b1 : u_46_1 = (sF (sF (sF (sF (sF sc0 46 4 w0_46_2) 46 3 (Int32.ofInt 0)) 46 2 z129) 46 3 (Int32.ofInt 4)) 46 5 z71).2.2.1 46 1 := sF_ne rfl (sF_ne rfl (sF_ne rfl (sF_ne rfl (sF_ne rfl (fr_F e_46_1 hFc0 rfl))))); rw [← b0, ← b1]; exact n181c
                            have n181e : (w0_46_2).toInt ≤ (z129).toInt := by have a0 := oa8 h2 h1 i59a i59 ((in_c 1 rfl)) i80 ((in_c 4 rfl)) i129; have a8 := t_add e129 i59 (in_c 1 rfl) rfl; have a9 := in_u i101; have a10 := t_add e101 i59 (in_c 1 rfl) rfl; have oc := oc_171_46; omega
                            have n181f : ((sF (sF (sF (sF (sF sc0 46 4 w0_46_2) 46 3 (Int32.ofInt 0)) 46 2 z129) 46 3 (Int32.ofInt 4)) 46 5 z71).2.2.1 46 4).toInt ≤ ((sF (sF (sF (sF (sF sc0 46 4 w0_46_2) 46 3 (Int32.ofInt 0)) 46 2 z129) 46 3 (Int32.ofInt 4)) 46 5 z71).2.2.1 46 2).toInt := by have b0 : w0_46_2 = (sF (sF (sF (sF (sF sc0 46 4 w0_46_2) 46 3 (Int32.ofInt 0)) 46 2 z129) 46 3 (Int32.ofInt 4)) 46 5 z71).2.2.1 46 4 := sF_ne rfl (sF_ne rfl (sF_ne rfl (sF_ne rfl (sF_get)))); have b1 : z129 = (sF (sF (sF (sF (sF sc0 46 4 w0_46_2) 46 3 (Int32.ofInt 0)) 46 2 z129) 46 3 (Int32.ofInt 4)) 46 5 z71).2.2.1 46 2 := sF_ne rfl (sF_ne rfl (sF_get)); rw [← b0, ← b1]; exact n181e
                            have n181g : (u_46_2).toInt ≤ (w0_46_2).toInt := by first | exact n0_1 | (have a0 := oa8 h2 h1 i59a i59 ((in_c 1 rfl)) i80 ((in_c 4 rfl)) i129; have a8 := t_add e129 i59 (in_c 1 rfl) rfl; have a9 := in_u i101; have a10 := t_add e101 i59 (in_c 1 rfl) rfl; have oc := oc_171_46; omega)
                            have n181h : (s.2.2.1 46 2).toInt ≤ ((sF (sF (sF (sF (sF sc0 46 4 w0_46_2) 46 3 (Int32.ofInt 0)) 46 2 z129) 46 3 (Int32.ofInt 4)) 46 5 z71).2.2.1 46 4).toInt := by have b0 : w0_46_2 = (sF (sF (sF (sF (sF sc0 46 4 w0_46_2) 46 3 (Int32.ofInt 0)) 46 2 z129) 46 3 (Int32.ofInt 4)) 46 5 z71).2.2.1 46 4 := sF_ne rfl (sF_ne rfl (sF_ne rfl (sF_ne rfl (sF_get)))); rw [← b0, ← e_46_2]; exact n181g
                            exact g_return (gd rfl) rfl (hP _ _ ⟨(sF (sF (sF (sF (sF sc0 46 4 w0_46_2) 46 3 (Int32.ofInt 0)) 46 2 z129) 46 3 (Int32.ofInt 4)) 46 5 z71), hI178, (fr_sF rfl (fr_sF rfl (fr_sF rfl (fr_sF rfl (fr_sF rfl hFc0))))), n181d, n181f, n181h, rfl, rfl, n181, n181a, n181b⟩)
                          · skip
                            exact zn_ne c165 (in_c 0 rfl) rfl
                        · skip
                          exact zn_eq c162x7 h2 rfl
                    · skip
                      exact n_le c136 (in_c 97 rfl) i80 rfl
                  · skip
                    exact zn_ne c112 (in_c 0 rfl) rfl
                · skip
                  have i109x5 := r_lt1 1 999 c109x5 i101 i59a rfl
                  have i109x5a := r_lt2 2 1000 c109x5 i101 i59a rfl
                  refine g_aload_n 9 (gd rfl) rfl rfl ?_
                  refine g_getA (q2 := 47) 12 (gd rfl) rfl rfl rfl rfl ?_
                  refine g_iload_n 13 (gd rfl) rfl rfl ?_
                  refine g_caload 14 (gd rfl) rfl (n := 1000) rfl (in_ix i109x5 rfl) (fun z109x13 e109x13 => ?_)
                  have i109x13 := inv_I hI48 (n := 1000) (t := 2) 0 65535 rfl (in_ix i109x5 rfl) rfl e109x13
                  refine g_bipush 48 16 (gd rfl) rfl rfl ?_
                  refine g_cmp_lt 19 34 (gd rfl) rfl rfl (fun c109x16 => ?_) (fun c109x16 => ?_)
                  · skip
                    have i109x16 := r_lt1 0 47 c109x16 i109x13 (in_c 48 rfl) rfl
                    refine g_iconst 0 35 (gd rfl) rfl rfl ?_
                    refine g_ireturn (gd rfl) rfl (nb01 (in_w 0 1 (in_c 0 rfl) rfl)) (hp109 _ _ ?_)
                    show GG _ _ _ _ _ _ _ _ [.int (Int32.ofInt 0)] _ _ _
                    refine g_if_eq 115 123 (gd rfl) rfl rfl (fun c112 => ?_) (fun c112 => ?_)
                    · skip
                      refine g_aload_n 124 (gd rfl) rfl rfl ?_
                      refine g_dup 125 (gd rfl) rfl rfl ?_
                      refine g_getI 128 (gd rfl) rfl rfl rfl (fun z125 e125 => ?_)
                      have q125 : w0_46_2 = z125 := (sF_ne rfl (sF_ne rfl (v0_46_2))).trans e125.symm
                      subst q125
                      refine g_iconst 1 129 (gd rfl) rfl rfl ?_
                      refine g_iadd 130 (gd rfl) rfl (fun z129 e129 => ?_)
                      have i129 := in_add 1 1000 e129 i59 (in_c 1 rfl) rfl rfl
                      refine g_putI 133 (gd rfl) rfl rfl rfl rfl ?_
                      have hI130 := inv_sF (q := 46) (j := 2) hI48 rfl (in_w 0 1000 i129 rfl)
                      refine g_iload_n 134 (gd rfl) rfl rfl ?_
                      refine g_bipush 97 136 (gd rfl) rfl rfl ?_
                      refine g_cmp_lt 139 159 (gd rfl) rfl rfl (fun c136 => ?_) (fun c136 => ?_)
                      · skip
                        refine g_aload_n 160 (gd rfl) rfl rfl ?_
                        refine g_iload_n 161 (gd rfl) rfl rfl ?_
                        refine g_iload_n 162 (gd rfl) rfl rfl ?_
                        refine g_calls (As := [.int z71, .int x2]) (r := [.ref (A 46)]) 165 (gd rfl) rfl rfl rfl rfl rfl (Nat.le_of_ble_eq_true rfl) (mc := 0) (ms := 0) (Nat.zero_le _) (Nat.zero_le _) (P := fun v u => _) ?_ (fun v u h => h)
                        intro po162 xx162 hp162 hx162
                        refine g_enter2 (k := 174) (N := 300) (by first | exact dq1 hd rfl | exact dq0 hd rfl | exact dq2 hd rfl | exact dq3 hd rfl | omega) rfl (Nat.le_of_ble_eq_true rfl) ?_
                        refine g_iload_n 1 (gd rfl) rfl rfl ?_
                        refine g_bipush 59 3 (gd rfl) rfl rfl ?_
                        refine g_cmp_eq 6 19 (gd rfl) rfl rfl (fun c162x3 => ?_) (fun c162x3 => ?_)
                        · skip
                          exact n_eq c162x3 i80 (in_c 59 rfl) rfl
                        · skip
                          refine g_iload_n 7 (gd rfl) rfl rfl ?_
                          refine g_if_ne 10 23 (gd rfl) rfl rfl (fun c162x7 => ?_) (fun c162x7 => ?_)
                          · skip
                            refine g_iconst 0 24 (gd rfl) rfl rfl ?_
                            refine g_ireturn (gd rfl) rfl (nb01 (in_w 0 1 (in_c 0 rfl) rfl)) (hp162 _ _ ?_)
                            show GG _ _ _ _ _ _ _ _ [.int (Int32.ofInt 0), .ref (A 46)] _ _ _
                            refine g_if_eq 168 172 (gd rfl) rfl rfl (fun c165 => ?_) (fun c165 => ?_)
                            · skip
                              refine g_iconst 4 173 (gd rfl) rfl rfl ?_
                              refine g_putI 176 (gd rfl) rfl rfl rfl rfl ?_
                              have hI173 := inv_sF (q := 46) (j := 3) hI130 rfl (in_w 0 5 (in_c 4 rfl) rfl)
                              refine g_aload_n 177 (gd rfl) rfl rfl ?_
                              refine g_iload_n 178 (gd rfl) rfl rfl ?_
                              refine g_putI 181 (gd rfl) rfl rfl rfl rfl ?_
                              have hI178 := inv_sF (q := 46) (j := 5) hI173 rfl (in_w (-2147483648) 2147483647 i80 rfl)
                              have n181 : (x1).toInt = 6 → TK (sF (sF (sF (sF (sF sc0 46 4 w0_46_2) 46 3 (Int32.ofInt 0)) 46 2 z129) 46 3 (Int32.ofInt 4)) 46 5 z71) := by intro h6; exfalso; have a0 := oa8 h2 h1 i109x5a i59 ((in_c 1 rfl)) i80 ((in_c 4 rfl)) i129; have a8 := t_add e129 i59 (in_c 1 rfl) rfl; have a9 := in_u i109x5; have a10 := t_add e101 i59 (in_c 1 rfl) rfl; have oc := oc_171_46; omega
                              have n181a : ((sF (sF (sF (sF (sF sc0 46 4 w0_46_2) 46 3 (Int32.ofInt 0)) 46 2 z129) 46 3 (Int32.ofInt 4)) 46 5 z71).2.2.1 46 3).toInt = 1 → In ((sF (sF (sF (sF (sF sc0 46 4 w0_46_2) 46 3 (Int32.ofInt 0)) 46 2 z129) 46 3 (Int32.ofInt 4)) 46 5 z71).2.2.1 46 5) 0 25 := by intro h1; rw [← (show (Int32.ofInt 4) = (sF (sF (sF (sF (sF sc0 46 4 w0_46_2) 46 3 (Int32.ofInt 0)) 46 2 z129) 46 3 (Int32.ofInt 4)) 46 5 z71).2.2.1 46 3 from sF_ne rfl (sF_get))] at h1; exact absurd h1 (by decide)
                              have n181b : TKN (s.1 47) (s.2.2.1 46 1).toInt.toNat (s.2.2.1 46 2).toInt.toNat ((sF (sF (sF (sF (sF sc0 46 4 w0_46_2) 46 3 (Int32.ofInt 0)) 46 2 z129) 46 3 (Int32.ofInt 4)) 46 5 z71).2.2.1 46 4).toInt.toNat ((sF (sF (sF (sF (sF sc0 46 4 w0_46_2) 46 3 (Int32.ofInt 0)) 46 2 z129) 46 3 (Int32.ofInt 4)) 46 5 z71).2.2.1 46 2).toInt.toNat ((sF (sF (sF (sF (sF sc0 46 4 w0_46_2) 46 3 (Int32.ofInt 0)) 46 2 z129) 46 3 (Int32.ofInt 4)) 46 5 z71).2.2.1 46 3).toInt ((sF (sF (sF (sF (sF sc0 46 4 w0_46_2) 46 3 (Int32.ofInt 0)) 46 2 z129) 46 3 (Int32.ofInt 4)) 46 5 z71).2.2.1 46 5).toInt := by exfalso; have a0 := oa8 h2 h1 i109x5a i59 ((in_c 1 rfl)) i80 ((in_c 4 rfl)) i129; have a8 := t_add e129 i59 (in_c 1 rfl) rfl; have a9 := in_u i109x5; have a10 := t_add e101 i59 (in_c 1 rfl) rfl; have oc := oc_171_46; omega
                              have n181c : (z129).toInt ≤ (u_46_1).toInt := by have a0 := oa8 h2 h1 i109x5a i59 ((in_c 1 rfl)) i80 ((in_c 4 rfl)) i129; have a8 := t_add e129 i59 (in_c 1 rfl) rfl; have a9 := in_u i109x5; have a10 := t_add e101 i59 (in_c 1 rfl) rfl; have oc := oc_171_46; omega
                              have n181d : ((sF (sF (sF (sF (sF sc0 46 4 w0_46_2) 46 3 (Int32.ofInt 0)) 46 2 z129) 46 3 (Int32.ofInt 4)) 46 5 z71).2.2.1 46 2).toInt ≤ ((sF (sF (sF (sF (sF sc0 46 4 w0_46_2) 46 3 (Int32.ofInt 0)) 46 2 z129) 46 3 (Int32.ofInt 4)) 46 5 z71).2.2.1 46 1).toInt := by have b0 : z129 = (sF (sF (sF (sF (sF sc0 46 4 w0_46_2) 46 3 (Int32.ofInt 0)) 46 2 z129) 46 3 (Int32.ofInt 4)) 46 5 z71).2.2.1 46 2 := sF_ne rfl (sF_ne rfl (sF_get)); have b1 : u_46_1 = (sF (sF (sF (sF (sF sc0 46 4 w0_46_2) 46 3 (Int32.ofInt 0)) 46 2 z129) 46 3 (Int32.ofInt 4)) 46 5 z71).2.2.1 46 1 := sF_ne rfl (sF_ne rfl (sF_ne rfl (sF_ne rfl (sF_ne rfl (fr_F e_46_1 hFc0 rfl))))); rw [← b0, ← b1]; exact n181c
                              have n181e : (w0_46_2).toInt ≤ (z129).toInt := by have a0 := oa8 h2 h1 i109x5a i59 ((in_c 1 rfl)) i80 ((in_c 4 rfl)) i129; have a8 := t_add e129 i59 (in_c 1 rfl) rfl; have a9 := in_u i109x5; have a10 := t_add e101 i59 (in_c 1 rfl) rfl; have oc := oc_171_46; omega
                              have n181f : ((sF (sF (sF (sF (sF sc0 46 4 w0_46_2) 46 3 (Int32.ofInt 0)) 46 2 z129) 46 3 (Int32.ofInt 4)) 46 5 z71).2.2.1 46 4).toInt ≤ ((sF (sF (sF (sF (sF sc0 46 4 w0_46_2) 46 3 (Int32.ofInt 0)) 46 2 z129) 46 3 (Int32.ofInt 4)) 46 5 z71).2.2.1 46 2).toInt := by have b0 : w0_46_2 = (sF (sF (sF (sF (sF sc0 46 4 w0_46_2) 46 3 (Int32.ofInt 0)) 46 2 z129) 46 3 (Int32.ofInt 4)) 46 5 z71).2.2.1 46 4 := sF_ne rfl (sF_ne rfl (sF_ne rfl (sF_ne rfl (sF_get)))); have b1 : z129 = (sF (sF (sF (sF (sF sc0 46 4 w0_46_2) 46 3 (Int32.ofInt 0)) 46 2 z129) 46 3 (Int32.ofInt 4)) 46 5 z71).2.2.1 46 2 := sF_ne rfl (sF_ne rfl (sF_get)); rw [← b0, ← b1]; exact n181e
                              have n181g : (u_46_2).toInt ≤ (w0_46_2).toInt := by first | exact n0_1 | (have a0 := oa8 h2 h1 i109x5a i59 ((in_c 1 rfl)) i80 ((in_c 4 rfl)) i129; have a8 := t_add e129 i59 (in_c 1 rfl) rfl; have a9 := in_u i109x5; have a10 := t_add e101 i59 (in_c 1 rfl) rfl; have oc := oc_171_46; omega)
                              have n181h : (s.2.2.1 46 2).toInt ≤ ((sF (sF (sF (sF (sF sc0 46 4 w0_46_2) 46 3 (Int32.ofInt 0)) 46 2 z129) 46 3 (Int32.ofInt 4)) 46 5 z71).2.2.1 46 4).toInt := by have b0 : w0_46_2 = (sF (sF (sF (sF (sF sc0 46 4 w0_46_2) 46 3 (Int32.ofInt 0)) 46 2 z129) 46 3 (Int32.ofInt 4)) 46 5 z71).2.2.1 46 4 := sF_ne rfl (sF_ne rfl (sF_ne rfl (sF_ne rfl (sF_get)))); rw [← b0, ← e_46_2]; exact n181g
                              exact g_return (gd rfl) rfl (hP _ _ ⟨(sF (sF (sF (sF (sF sc0 46 4 w0_46_2) 46 3 (Int32.ofInt 0)) 46 2 z129) 46 3 (Int32.ofInt 4)) 46 5 z71), hI178, (fr_sF rfl (fr_sF rfl (fr_sF rfl (fr_sF rfl (fr_sF rfl hFc0))))), n181d, n181f, n181h, rfl, rfl, n181, n181a, n181b⟩)
                            · skip
                              exact zn_ne c165 (in_c 0 rfl) rfl
                          · skip
                            exact zn_eq c162x7 h2 rfl
                      · skip
                        exact n_le c136 (in_c 97 rfl) i80 rfl
                    · skip
                      exact zn_ne c112 (in_c 0 rfl) rfl
                  · skip
                    have i109x16 := r_le2 48 65535 c109x16 (in_c 48 rfl) i109x13 rfl
                    refine g_aload_n 20 (gd rfl) rfl rfl ?_
                    refine g_getA (q2 := 47) 23 (gd rfl) rfl rfl rfl rfl ?_
                    refine g_iload_n 24 (gd rfl) rfl rfl ?_
                    refine g_caload 25 (gd rfl) rfl (n := 1000) rfl (in_ix i109x5 rfl) (fun z109x24 e109x24 => ?_)
                    have q109x24 : z109x13 = z109x24 := (e109x13).trans e109x24.symm
                    subst q109x24
                    refine g_bipush 57 27 (gd rfl) rfl rfl ?_
                    refine g_cmp_gt 30 34 (gd rfl) rfl rfl (fun c109x27 => ?_) (fun c109x27 => ?_)
                    · skip
                      have i109x27 := r_lt2 58 65535 c109x27 (in_c 57 rfl) i109x16 rfl
                      refine g_iconst 0 35 (gd rfl) rfl rfl ?_
                      refine g_ireturn (gd rfl) rfl (nb01 (in_w 0 1 (in_c 0 rfl) rfl)) (hp109 _ _ ?_)
                      show GG _ _ _ _ _ _ _ _ [.int (Int32.ofInt 0)] _ _ _
                      refine g_if_eq 115 123 (gd rfl) rfl rfl (fun c112 => ?_) (fun c112 => ?_)
                      · skip
                        refine g_aload_n 124 (gd rfl) rfl rfl ?_
                        refine g_dup 125 (gd rfl) rfl rfl ?_
                        refine g_getI 128 (gd rfl) rfl rfl rfl (fun z125 e125 => ?_)
                        have q125 : w0_46_2 = z125 := (sF_ne rfl (sF_ne rfl (v0_46_2))).trans e125.symm
                        subst q125
                        refine g_iconst 1 129 (gd rfl) rfl rfl ?_
                        refine g_iadd 130 (gd rfl) rfl (fun z129 e129 => ?_)
                        have i129 := in_add 1 1000 e129 i59 (in_c 1 rfl) rfl rfl
                        refine g_putI 133 (gd rfl) rfl rfl rfl rfl ?_
                        have hI130 := inv_sF (q := 46) (j := 2) hI48 rfl (in_w 0 1000 i129 rfl)
                        refine g_iload_n 134 (gd rfl) rfl rfl ?_
                        refine g_bipush 97 136 (gd rfl) rfl rfl ?_
                        refine g_cmp_lt 139 159 (gd rfl) rfl rfl (fun c136 => ?_) (fun c136 => ?_)
                        · skip
                          refine g_aload_n 160 (gd rfl) rfl rfl ?_
                          refine g_iload_n 161 (gd rfl) rfl rfl ?_
                          refine g_iload_n 162 (gd rfl) rfl rfl ?_
                          refine g_calls (As := [.int z71, .int x2]) (r := [.ref (A 46)]) 165 (gd rfl) rfl rfl rfl rfl rfl (Nat.le_of_ble_eq_true rfl) (mc := 0) (ms := 0) (Nat.zero_le _) (Nat.zero_le _) (P := fun v u => _) ?_ (fun v u h => h)
                          intro po162 xx162 hp162 hx162
                          refine g_enter2 (k := 174) (N := 300) (by first | exact dq1 hd rfl | exact dq0 hd rfl | exact dq2 hd rfl | exact dq3 hd rfl | omega) rfl (Nat.le_of_ble_eq_true rfl) ?_
                          refine g_iload_n 1 (gd rfl) rfl rfl ?_
                          refine g_bipush 59 3 (gd rfl) rfl rfl ?_
                          refine g_cmp_eq 6 19 (gd rfl) rfl rfl (fun c162x3 => ?_) (fun c162x3 => ?_)
                          · skip
                            exact n_eq c162x3 i80 (in_c 59 rfl) rfl
                          · skip
                            refine g_iload_n 7 (gd rfl) rfl rfl ?_
                            refine g_if_ne 10 23 (gd rfl) rfl rfl (fun c162x7 => ?_) (fun c162x7 => ?_)
                            · skip
                              refine g_iconst 0 24 (gd rfl) rfl rfl ?_
                              refine g_ireturn (gd rfl) rfl (nb01 (in_w 0 1 (in_c 0 rfl) rfl)) (hp162 _ _ ?_)
                              show GG _ _ _ _ _ _ _ _ [.int (Int32.ofInt 0), .ref (A 46)] _ _ _
                              refine g_if_eq 168 172 (gd rfl) rfl rfl (fun c165 => ?_) (fun c165 => ?_)
                              · skip
                                refine g_iconst 4 173 (gd rfl) rfl rfl ?_
                                refine g_putI 176 (gd rfl) rfl rfl rfl rfl ?_
                                have hI173 := inv_sF (q := 46) (j := 3) hI130 rfl (in_w 0 5 (in_c 4 rfl) rfl)
                                refine g_aload_n 177 (gd rfl) rfl rfl ?_
                                refine g_iload_n 178 (gd rfl) rfl rfl ?_
                                refine g_putI 181 (gd rfl) rfl rfl rfl rfl ?_
                                have hI178 := inv_sF (q := 46) (j := 5) hI173 rfl (in_w (-2147483648) 2147483647 i80 rfl)
                                have n181 : (x1).toInt = 6 → TK (sF (sF (sF (sF (sF sc0 46 4 w0_46_2) 46 3 (Int32.ofInt 0)) 46 2 z129) 46 3 (Int32.ofInt 4)) 46 5 z71) := by intro h6; exfalso; have a0 := oa8 h2 h1 i109x5a i59 ((in_c 1 rfl)) i80 ((in_c 4 rfl)) i129; have a8 := t_add e129 i59 (in_c 1 rfl) rfl; have a9 := in_u i109x5; have a10 := t_add e101 i59 (in_c 1 rfl) rfl; have oc := oc_171_46; omega
                                have n181a : ((sF (sF (sF (sF (sF sc0 46 4 w0_46_2) 46 3 (Int32.ofInt 0)) 46 2 z129) 46 3 (Int32.ofInt 4)) 46 5 z71).2.2.1 46 3).toInt = 1 → In ((sF (sF (sF (sF (sF sc0 46 4 w0_46_2) 46 3 (Int32.ofInt 0)) 46 2 z129) 46 3 (Int32.ofInt 4)) 46 5 z71).2.2.1 46 5) 0 25 := by intro h1; rw [← (show (Int32.ofInt 4) = (sF (sF (sF (sF (sF sc0 46 4 w0_46_2) 46 3 (Int32.ofInt 0)) 46 2 z129) 46 3 (Int32.ofInt 4)) 46 5 z71).2.2.1 46 3 from sF_ne rfl (sF_get))] at h1; exact absurd h1 (by decide)
                                have n181b : TKN (s.1 47) (s.2.2.1 46 1).toInt.toNat (s.2.2.1 46 2).toInt.toNat ((sF (sF (sF (sF (sF sc0 46 4 w0_46_2) 46 3 (Int32.ofInt 0)) 46 2 z129) 46 3 (Int32.ofInt 4)) 46 5 z71).2.2.1 46 4).toInt.toNat ((sF (sF (sF (sF (sF sc0 46 4 w0_46_2) 46 3 (Int32.ofInt 0)) 46 2 z129) 46 3 (Int32.ofInt 4)) 46 5 z71).2.2.1 46 2).toInt.toNat ((sF (sF (sF (sF (sF sc0 46 4 w0_46_2) 46 3 (Int32.ofInt 0)) 46 2 z129) 46 3 (Int32.ofInt 4)) 46 5 z71).2.2.1 46 3).toInt ((sF (sF (sF (sF (sF sc0 46 4 w0_46_2) 46 3 (Int32.ofInt 0)) 46 2 z129) 46 3 (Int32.ofInt 4)) 46 5 z71).2.2.1 46 5).toInt := by exfalso; have a0 := oa8 h2 h1 i109x5a i59 ((in_c 1 rfl)) i80 ((in_c 4 rfl)) i129; have a8 := t_add e129 i59 (in_c 1 rfl) rfl; have a9 := in_u i109x5; have a10 := t_add e101 i59 (in_c 1 rfl) rfl; have oc := oc_171_46; omega
                                have n181c : (z129).toInt ≤ (u_46_1).toInt := by have a0 := oa8 h2 h1 i109x5a i59 ((in_c 1 rfl)) i80 ((in_c 4 rfl)) i129; have a8 := t_add e129 i59 (in_c 1 rfl) rfl; have a9 := in_u i109x5; have a10 := t_add e101 i59 (in_c 1 rfl) rfl; have oc := oc_171_46; omega
                                have n181d : ((sF (sF (sF (sF (sF sc0 46 4 w0_46_2) 46 3 (Int32.ofInt 0)) 46 2 z129) 46 3 (Int32.ofInt 4)) 46 5 z71).2.2.1 46 2).toInt ≤ ((sF (sF (sF (sF (sF sc0 46 4 w0_46_2) 46 3 (Int32.ofInt 0)) 46 2 z129) 46 3 (Int32.ofInt 4)) 46 5 z71).2.2.1 46 1).toInt := by have b0 : z129 = (sF (sF (sF (sF (sF sc0 46 4 w0_46_2) 46 3 (Int32.ofInt 0)) 46 2 z129) 46 3 (Int32.ofInt 4)) 46 5 z71).2.2.1 46 2 := sF_ne rfl (sF_ne rfl (sF_get)); have b1 : u_46_1 = (sF (sF (sF (sF (sF sc0 46 4 w0_46_2) 46 3 (Int32.ofInt 0)) 46 2 z129) 46 3 (Int32.ofInt 4)) 46 5 z71).2.2.1 46 1 := sF_ne rfl (sF_ne rfl (sF_ne rfl (sF_ne rfl (sF_ne rfl (fr_F e_46_1 hFc0 rfl))))); rw [← b0, ← b1]; exact n181c
                                have n181e : (w0_46_2).toInt ≤ (z129).toInt := by have a0 := oa8 h2 h1 i109x5a i59 ((in_c 1 rfl)) i80 ((in_c 4 rfl)) i129; have a8 := t_add e129 i59 (in_c 1 rfl) rfl; have a9 := in_u i109x5; have a10 := t_add e101 i59 (in_c 1 rfl) rfl; have oc := oc_171_46; omega
                                have n181f : ((sF (sF (sF (sF (sF sc0 46 4 w0_46_2) 46 3 (Int32.ofInt 0)) 46 2 z129) 46 3 (Int32.ofInt 4)) 46 5 z71).2.2.1 46 4).toInt ≤ ((sF (sF (sF (sF (sF sc0 46 4 w0_46_2) 46 3 (Int32.ofInt 0)) 46 2 z129) 46 3 (Int32.ofInt 4)) 46 5 z71).2.2.1 46 2).toInt := by have b0 : w0_46_2 = (sF (sF (sF (sF (sF sc0 46 4 w0_46_2) 46 3 (Int32.ofInt 0)) 46 2 z129) 46 3 (Int32.ofInt 4)) 46 5 z71).2.2.1 46 4 := sF_ne rfl (sF_ne rfl (sF_ne rfl (sF_ne rfl (sF_get)))); have b1 : z129 = (sF (sF (sF (sF (sF sc0 46 4 w0_46_2) 46 3 (Int32.ofInt 0)) 46 2 z129) 46 3 (Int32.ofInt 4)) 46 5 z71).2.2.1 46 2 := sF_ne rfl (sF_ne rfl (sF_get)); rw [← b0, ← b1]; exact n181e
                                have n181g : (u_46_2).toInt ≤ (w0_46_2).toInt := by first | exact n0_1 | (have a0 := oa8 h2 h1 i109x5a i59 ((in_c 1 rfl)) i80 ((in_c 4 rfl)) i129; have a8 := t_add e129 i59 (in_c 1 rfl) rfl; have a9 := in_u i109x5; have a10 := t_add e101 i59 (in_c 1 rfl) rfl; have oc := oc_171_46; omega)
                                have n181h : (s.2.2.1 46 2).toInt ≤ ((sF (sF (sF (sF (sF sc0 46 4 w0_46_2) 46 3 (Int32.ofInt 0)) 46 2 z129) 46 3 (Int32.ofInt 4)) 46 5 z71).2.2.1 46 4).toInt := by have b0 : w0_46_2 = (sF (sF (sF (sF (sF sc0 46 4 w0_46_2) 46 3 (Int32.ofInt 0)) 46 2 z129) 46 3 (Int32.ofInt 4)) 46 5 z71).2.2.1 46 4 := sF_ne rfl (sF_ne rfl (sF_ne rfl (sF_ne rfl (sF_get)))); rw [← b0, ← e_46_2]; exact n181g
                                exact g_return (gd rfl) rfl (hP _ _ ⟨(sF (sF (sF (sF (sF sc0 46 4 w0_46_2) 46 3 (Int32.ofInt 0)) 46 2 z129) 46 3 (Int32.ofInt 4)) 46 5 z71), hI178, (fr_sF rfl (fr_sF rfl (fr_sF rfl (fr_sF rfl (fr_sF rfl hFc0))))), n181d, n181f, n181h, rfl, rfl, n181, n181a, n181b⟩)
                              · skip
                                exact zn_ne c165 (in_c 0 rfl) rfl
                            · skip
                              exact zn_eq c162x7 h2 rfl
                        · skip
                          exact n_le c136 (in_c 97 rfl) i80 rfl
                      · skip
                        exact zn_ne c112 (in_c 0 rfl) rfl
                    · skip
                      have i109x27 := r_le1 48 57 c109x27 i109x16 (in_c 57 rfl) rfl
                      refine g_iconst 1 31 (gd rfl) rfl rfl ?_
                      refine g_goto 35 (gd rfl) rfl ?_
                      refine g_ireturn (gd rfl) rfl (nb01 (in_w 0 1 (in_c 1 rfl) rfl)) (hp109 _ _ ?_)
                      show GG _ _ _ _ _ _ _ _ [.int (Int32.ofInt 1)] _ _ _
                      refine g_if_eq 115 123 (gd rfl) rfl rfl (fun c112 => ?_) (fun c112 => ?_)
                      · skip
                        exact zn_eq c112 (in_c 1 rfl) rfl
                      · skip
                        refine g_aload_n 116 (gd rfl) rfl rfl ?_
                        refine g_iload 118 (gd rfl) rfl rfl ?_
                        refine g_iload_n 119 (gd rfl) rfl rfl ?_
                        have hA9 : w0_46_2 = (sF (sF sc0 46 4 w0_46_2) 46 3 (Int32.ofInt 0)).2.2.1 46 2 := (show w0_46_2 = (sF (sF sc0 46 4 w0_46_2) 46 3 (Int32.ofInt 0)).2.2.1 46 2 from sF_ne rfl (sF_ne rfl (v0_46_2)))
                        have hL9 : u_46_1 = (sF (sF sc0 46 4 w0_46_2) 46 3 (Int32.ofInt 0)).2.2.1 46 1 := (show u_46_1 = (sF (sF sc0 46 4 w0_46_2) 46 3 (Int32.ofInt 0)).2.2.1 46 1 from sF_ne rfl (sF_ne rfl (fr_F e_46_1 hFc0 rfl)))
                        have hX9 : (sF (sF sc0 46 4 w0_46_2) 46 3 (Int32.ofInt 0)).1 47 = s.1 47 := hFc0.1 47 rfl
                        have v119 : w0_46_2 = (sF (sF sc0 46 4 w0_46_2) 46 3 (Int32.ofInt 0)).2.2.1 46 2 := sF_ne rfl (sF_ne rfl (v0_46_2))
                        have v119a : u_46_1 = (sF (sF sc0 46 4 w0_46_2) 46 3 (Int32.ofInt 0)).2.2.1 46 1 := sF_ne rfl (sF_ne rfl (fr_F e_46_1 hFc0 rfl))
                        have n119 : (w0_46_2).toInt + ((Int32.ofInt 1)).toInt + 1 ≤ (u_46_1).toInt := by have a0 := oa8 h2 h1 i109x5a i59 ((in_c 1 rfl)) i80 ((in_c 0 rfl)) i109x5; have a8 := t_add e101 i59 (in_c 1 rfl) rfl; have oc := oc_171_46; omega
                        have p119 : 48 ≤ ((sF (sF sc0 46 4 w0_46_2) 46 3 (Int32.ofInt 0)).1 47 (((sF (sF sc0 46 4 w0_46_2) 46 3 (Int32.ofInt 0)).2.2.1 46 2).toInt + ((Int32.ofInt 1)).toInt).toNat).toInt ∧ ((sF (sF sc0 46 4 w0_46_2) 46 3 (Int32.ofInt 0)).1 47 (((sF (sF sc0 46 4 w0_46_2) 46 3 (Int32.ofInt 0)).2.2.1 46 2).toInt + ((Int32.ofInt 1)).toInt).toNat).toInt ≤ 57 := by exfalso; have a0 := oa8 h2 h1 i109x5a i59 ((in_c 1 rfl)) i80 ((in_c 0 rfl)) i109x5; have a8 := t_add e101 i59 (in_c 1 rfl) rfl; have oc := oc_171_46; omega
                        refine g_callv (X := _) (As := [.int (Int32.ofInt 1), .int x1]) (r := []) (b := A 46) (q := 46) 122 (gd rfl) rfl rfl rfl rfl rfl (ww_o rfl) (Nat.le_of_ble_eq_true rfl) (Nat.zero_le _) (Nat.zero_le _) (f_173_46 (by first | exact dq1 hd rfl | exact dq0 hd rfl | exact dq2 hd rfl | exact dq3 hd rfl | omega) hI48 (in_w 0 1 (in_c 1 rfl) rfl) (in_w 6 7 h1 rfl) v119 v119a n119 p119) (fun e u h => h) (fun v u h => ?_)
                        obtain ⟨s119, hI119, hF119, n119a, n119b, rfl, rfl, p119a, p119b, p119c⟩ := h
                        obtain ⟨z119a, e119⟩ : ∃ w, w = s119.2.2.1 46 2 := ⟨_, rfl⟩
                        have i119a := inv_F hI119 0 1000 rfl e119
                        rw [← (show z119a = s119.2.2.1 46 2 from e119)] at n119a
                        rw [← (show u_46_1 = s119.2.2.1 46 1 from fr_F (s := (sF (sF sc0 46 4 w0_46_2) 46 3 (Int32.ofInt 0))) (sF_ne rfl (sF_ne rfl (fr_F e_46_1 hFc0 rfl))) hF119 rfl)] at n119a
                        rw [← (show w0_46_2 = (sF (sF sc0 46 4 w0_46_2) 46 3 (Int32.ofInt 0)).2.2.1 46 2 from sF_ne rfl (sF_ne rfl (v0_46_2)))] at n119b
                        rw [← (show z119a = s119.2.2.1 46 2 from e119)] at n119b
                        show GG _ _ _ _ _ _ _ _ [] _ _ _
                        have n122 : (x1).toInt = 6 → TK s119 := by intro h6; exfalso; have a0 := oa8 h2 h1 i109x5a i59 ((in_c 1 rfl)) i80 i119a i109x5; have a8 := t_add e101 i59 (in_c 1 rfl) rfl; have oc := oc_171_46; omega
                        have n122a : (s119.2.2.1 46 3).toInt = 1 → In (s119.2.2.1 46 5) 0 25 := by intro h1; exact absurd h1 p119a
                        have n122b : TKN (s.1 47) (s.2.2.1 46 1).toInt.toNat (s.2.2.1 46 2).toInt.toNat (s119.2.2.1 46 4).toInt.toNat (s119.2.2.1 46 2).toInt.toNat (s119.2.2.1 46 3).toInt (s119.2.2.1 46 5).toInt := by exfalso; have a0 := oa8 h2 h1 i109x5a i59 ((in_c 1 rfl)) i80 i119a i109x5; have a8 := t_add e101 i59 (in_c 1 rfl) rfl; have oc := oc_171_46; omega
                        have n122c : (z119a).toInt ≤ (u_46_1).toInt := by have a0 := oa8 h2 h1 i109x5a i59 ((in_c 1 rfl)) i80 i119a i109x5; have a8 := t_add e101 i59 (in_c 1 rfl) rfl; have oc := oc_171_46; omega
                        have n122d : (s119.2.2.1 46 2).toInt ≤ (s119.2.2.1 46 1).toInt := by have b0 : z119a = s119.2.2.1 46 2 := e119; have b1 : u_46_1 = s119.2.2.1 46 1 := fr_F (s := (sF (sF sc0 46 4 w0_46_2) 46 3 (Int32.ofInt 0))) (sF_ne rfl (sF_ne rfl (fr_F e_46_1 hFc0 rfl))) hF119 rfl; rw [← b0, ← b1]; exact n122c
                        have n122e : (w0_46_2).toInt ≤ (z119a).toInt := by have a0 := oa8 h2 h1 i109x5a i59 ((in_c 1 rfl)) i80 i119a i109x5; have a8 := t_add e101 i59 (in_c 1 rfl) rfl; have oc := oc_171_46; omega
                        have n122f : (s119.2.2.1 46 4).toInt ≤ (s119.2.2.1 46 2).toInt := by have b0 : w0_46_2 = s119.2.2.1 46 4 := fr_F (s := (sF (sF sc0 46 4 w0_46_2) 46 3 (Int32.ofInt 0))) (sF_ne rfl (sF_get)) hF119 rfl; have b1 : z119a = s119.2.2.1 46 2 := e119; rw [← b0, ← b1]; exact n122e
                        have n122g : (u_46_2).toInt ≤ (w0_46_2).toInt := by first | exact n0_1 | (have a0 := oa8 h2 h1 i109x5a i59 ((in_c 1 rfl)) i80 i119a i109x5; have a8 := t_add e101 i59 (in_c 1 rfl) rfl; have oc := oc_171_46; omega)
                        have n122h : (s.2.2.1 46 2).toInt ≤ (s119.2.2.1 46 4).toInt := by have b0 : w0_46_2 = s119.2.2.1 46 4 := fr_F (s := (sF (sF sc0 46 4 w0_46_2) 46 3 (Int32.ofInt 0))) (sF_ne rfl (sF_get)) hF119 rfl; rw [← b0, ← e_46_2]; exact n122g
                        exact g_return (gd rfl) rfl (hP _ _ ⟨s119, hI119, (fr_tr rfl (fr_sF rfl (fr_sF rfl hFc0)) hF119), n122d, n122f, n122h, rfl, rfl, n122, n122a, n122b⟩)
        · skip
          have n62 : (x1).toInt = 6 → TK (sF (sF sc0 46 4 w0_46_2) 46 3 (Int32.ofInt 0)) := by intro h6; exfalso; have a0 := oa5 h2 h1 ro_46_1 ((inv_F hIc0 0 1000 rfl v0_46_2)) ((in_c 0 rfl)); have oc := oc_171_46; omega
          have n62a : ((sF (sF sc0 46 4 w0_46_2) 46 3 (Int32.ofInt 0)).2.2.1 46 3).toInt = 1 → In ((sF (sF sc0 46 4 w0_46_2) 46 3 (Int32.ofInt 0)).2.2.1 46 5) 0 25 := by intro h1; rw [← (show (Int32.ofInt 0) = (sF (sF sc0 46 4 w0_46_2) 46 3 (Int32.ofInt 0)).2.2.1 46 3 from sF_get)] at h1; exact absurd h1 (by decide)
          have n62b : TKN (s.1 47) (s.2.2.1 46 1).toInt.toNat (s.2.2.1 46 2).toInt.toNat ((sF (sF sc0 46 4 w0_46_2) 46 3 (Int32.ofInt 0)).2.2.1 46 4).toInt.toNat ((sF (sF sc0 46 4 w0_46_2) 46 3 (Int32.ofInt 0)).2.2.1 46 2).toInt.toNat ((sF (sF sc0 46 4 w0_46_2) 46 3 (Int32.ofInt 0)).2.2.1 46 3).toInt ((sF (sF sc0 46 4 w0_46_2) 46 3 (Int32.ofInt 0)).2.2.1 46 5).toInt := by have hS : tkS (s.1 47) (u_46_1).toInt.toNat (u_46_2).toInt.toNat w0_46_2.toInt.toNat := ⟨by have a0 := oa5 h2 h1 ro_46_1 ((inv_F hIc0 0 1000 rfl v0_46_2)) ((in_c 0 rfl)); have oc := oc_171_46; omega, by have a0 := oa5 h2 h1 ro_46_1 ((inv_F hIc0 0 1000 rfl v0_46_2)) ((in_c 0 rfl)); have oc := oc_171_46; omega, fun i a b => g0_0 i (by rw [← e_46_2]; exact a) (by have a0 := oa5 h2 h1 ro_46_1 ((inv_F hIc0 0 1000 rfl v0_46_2)) ((in_c 0 rfl)); have oc := oc_171_46; omega), fun h => by exfalso; have a0 := oa5 h2 h1 ro_46_1 ((inv_F hIc0 0 1000 rfl v0_46_2)) ((in_c 0 rfl)); have oc := oc_171_46; omega⟩; rw [← (show w0_46_2 = (sF (sF sc0 46 4 w0_46_2) 46 3 (Int32.ofInt 0)).2.2.1 46 2 from sF_ne rfl (sF_ne rfl (v0_46_2))), ← (show w0_46_2 = (sF (sF sc0 46 4 w0_46_2) 46 3 (Int32.ofInt 0)).2.2.1 46 4 from sF_ne rfl (sF_get)), ← (show (Int32.ofInt 0) = (sF (sF sc0 46 4 w0_46_2) 46 3 (Int32.ofInt 0)).2.2.1 46 3 from sF_get), ← e_46_1, ← e_46_2]; exact tkn_0 hS (by have a0 := oa5 h2 h1 ro_46_1 ((inv_F hIc0 0 1000 rfl v0_46_2)) ((in_c 0 rfl)); have oc := oc_171_46; omega) (by have a0 := oa5 h2 h1 ro_46_1 ((inv_F hIc0 0 1000 rfl v0_46_2)) ((in_c 0 rfl)); have oc := oc_171_46; omega) (by decide)
          have n62c : (w0_46_2).toInt ≤ (u_46_1).toInt := by first | exact n0_0 | (have a0 := oa5 h2 h1 ro_46_1 ((inv_F hIc0 0 1000 rfl v0_46_2)) ((in_c 0 rfl)); have oc := oc_171_46; omega)
          have n62d : ((sF (sF sc0 46 4 w0_46_2) 46 3 (Int32.ofInt 0)).2.2.1 46 2).toInt ≤ ((sF (sF sc0 46 4 w0_46_2) 46 3 (Int32.ofInt 0)).2.2.1 46 1).toInt := by have b0 : w0_46_2 = (sF (sF sc0 46 4 w0_46_2) 46 3 (Int32.ofInt 0)).2.2.1 46 2 := sF_ne rfl (sF_ne rfl (v0_46_2)); have b1 : u_46_1 = (sF (sF sc0 46 4 w0_46_2) 46 3 (Int32.ofInt 0)).2.2.1 46 1 := sF_ne rfl (sF_ne rfl (fr_F e_46_1 hFc0 rfl)); rw [← b0, ← b1]; exact n62c
          have n62e : (w0_46_2).toInt ≤ (w0_46_2).toInt := by exact Int.le_refl _
          have n62f : ((sF (sF sc0 46 4 w0_46_2) 46 3 (Int32.ofInt 0)).2.2.1 46 4).toInt ≤ ((sF (sF sc0 46 4 w0_46_2) 46 3 (Int32.ofInt 0)).2.2.1 46 2).toInt := by have b0 : w0_46_2 = (sF (sF sc0 46 4 w0_46_2) 46 3 (Int32.ofInt 0)).2.2.1 46 4 := sF_ne rfl (sF_get); have b1 : w0_46_2 = (sF (sF sc0 46 4 w0_46_2) 46 3 (Int32.ofInt 0)).2.2.1 46 2 := sF_ne rfl (sF_ne rfl (v0_46_2)); rw [← b0, ← b1]; exact n62e
          have n62g : (u_46_2).toInt ≤ (w0_46_2).toInt := by first | exact n0_1 | (have a0 := oa5 h2 h1 ro_46_1 ((inv_F hIc0 0 1000 rfl v0_46_2)) ((in_c 0 rfl)); have oc := oc_171_46; omega)
          have n62h : (s.2.2.1 46 2).toInt ≤ ((sF (sF sc0 46 4 w0_46_2) 46 3 (Int32.ofInt 0)).2.2.1 46 4).toInt := by have b0 : w0_46_2 = (sF (sF sc0 46 4 w0_46_2) 46 3 (Int32.ofInt 0)).2.2.1 46 4 := sF_ne rfl (sF_get); rw [← b0, ← e_46_2]; exact n62g
          exact g_return (gd rfl) rfl (hP _ _ ⟨(sF (sF sc0 46 4 w0_46_2) 46 3 (Int32.ofInt 0)), hI48, (fr_sF rfl (fr_sF rfl hFc0)), n62d, n62f, n62h, rfl, rfl, n62, n62a, n62b⟩)
      · skip
        have i8 := r_lt1 0 999 c8 (inv_F hIc0 0 1000 rfl v0_46_2) ro_46_1 rfl
        have i8a := r_lt2 1 1000 c8 (inv_F hIc0 0 1000 rfl v0_46_2) ro_46_1 rfl
        refine g_aload_n 12 (gd rfl) rfl rfl ?_
        refine g_getA (q2 := 47) 15 (gd rfl) rfl rfl rfl rfl ?_
        refine g_aload_n 16 (gd rfl) rfl rfl ?_
        refine g_getI 19 (gd rfl) rfl rfl rfl (fun z16 e16 => ?_)
        have q16 : w0_46_2 = z16 := (v0_46_2).trans e16.symm
        subst q16
        refine g_caload 20 (gd rfl) rfl (n := 1000) rfl (in_ix i8 rfl) (fun z19 e19 => ?_)
        have i19 := inv_I hIc0 (n := 1000) (t := 2) 0 65535 rfl (in_ix i8 rfl) rfl e19
        refine g_bipush 32 22 (gd rfl) rfl rfl ?_
        refine g_cmp_ne 25 38 (gd rfl) rfl rfl (fun c22 => ?_) (fun c22 => ?_)
        · skip
          refine g_aload_n 39 (gd rfl) rfl rfl ?_
          refine g_aload_n 40 (gd rfl) rfl rfl ?_
          refine g_getI 43 (gd rfl) rfl rfl rfl (fun z40 e40 => ?_)
          have q40 : w0_46_2 = z40 := (v0_46_2).trans e40.symm
          subst q40
          refine g_putI 46 (gd rfl) rfl rfl rfl rfl ?_
          have hI43 := inv_sF (q := 46) (j := 4) hIc0 rfl (in_w 0 1000 i8 rfl)
          refine g_aload_n 47 (gd rfl) rfl rfl ?_
          refine g_iconst 0 48 (gd rfl) rfl rfl ?_
          refine g_putI 51 (gd rfl) rfl rfl rfl rfl ?_
          have hI48 := inv_sF (q := 46) (j := 3) hI43 rfl (in_w 0 5 (in_c 0 rfl) rfl)
          refine g_aload_n 52 (gd rfl) rfl rfl ?_
          refine g_getI 55 (gd rfl) rfl rfl rfl (fun z52 e52 => ?_)
          have q52 : w0_46_2 = z52 := (sF_ne rfl (sF_ne rfl (v0_46_2))).trans e52.symm
          subst q52
          refine g_aload_n 56 (gd rfl) rfl rfl ?_
          refine g_getI 59 (gd rfl) rfl rfl rfl (fun z56 e56 => ?_)
          have q56 : u_46_1 = z56 := (sF_ne rfl (sF_ne rfl (fr_F e_46_1 hFc0 rfl))).trans e56.symm
          subst q56
          refine g_cmp_lt 62 63 (gd rfl) rfl rfl (fun c59 => ?_) (fun c59 => ?_)
          · skip
            refine g_aload_n 64 (gd rfl) rfl rfl ?_
            refine g_getA (q2 := 47) 67 (gd rfl) rfl rfl rfl rfl ?_
            refine g_aload_n 68 (gd rfl) rfl rfl ?_
            refine g_getI 71 (gd rfl) rfl rfl rfl (fun z68 e68 => ?_)
            have q68 : w0_46_2 = z68 := (sF_ne rfl (sF_ne rfl (v0_46_2))).trans e68.symm
            subst q68
            refine g_caload 72 (gd rfl) rfl (n := 1000) rfl (in_ix i8 rfl) (fun z71 e71 => ?_)
            have q71 : z19 = z71 := (sF_I (sF_I (e19))).trans e71.symm
            subst q71
            refine g_istore_n 73 (gd rfl) rfl (Nat.le_of_ble_eq_true rfl) ?_
            refine g_iload_n 74 (gd rfl) rfl rfl ?_
            refine g_if_eq 77 87 (gd rfl) rfl rfl (fun c74 => ?_) (fun c74 => ?_)
            · skip
              exact zn_eq c74 h2 rfl
            · skip
              refine g_iload_n 78 (gd rfl) rfl rfl ?_
              refine g_bipush 45 80 (gd rfl) rfl rfl ?_
              refine g_cmp_ne 83 87 (gd rfl) rfl rfl (fun c80 => ?_) (fun c80 => ?_)
              · skip
                refine g_iconst 0 88 (gd rfl) rfl rfl ?_
                refine g_istore 90 (gd rfl) rfl (Nat.le_of_ble_eq_true rfl) ?_
                refine g_aload_n 91 (gd rfl) rfl rfl ?_
                refine g_iload 93 (gd rfl) rfl rfl ?_
                refine g_if_eq 96 105 (gd rfl) rfl rfl (fun c93 => ?_) (fun c93 => ?_)
                · skip
                  refine g_aload_n 106 (gd rfl) rfl rfl ?_
                  refine g_getI 109 (gd rfl) rfl rfl rfl (fun z106 e106 => ?_)
                  have q106 : w0_46_2 = z106 := (sF_ne rfl (sF_ne rfl (v0_46_2))).trans e106.symm
                  subst q106
                  refine g_callv (X := _) (As := [.int w0_46_2]) (r := []) (b := A 46) (q := 46) 112 (gd rfl) rfl rfl rfl rfl rfl (ww_o rfl) (Nat.le_of_ble_eq_true rfl) (mc := 0) (ms := 0) (Nat.zero_le _) (Nat.zero_le _) (P := fun v u => _) ?_ (fun e u h => h) (fun v u h => h)
                  intro po109 xx109 hp109 hx109
                  refine g_enter2 (k := 172) (N := 300) (by first | exact dq1 hd rfl | exact dq0 hd rfl | exact dq2 hd rfl | exact dq3 hd rfl | omega) rfl (Nat.le_of_ble_eq_true rfl) ?_
                  refine g_iload_n 1 (gd rfl) rfl rfl ?_
                  refine g_aload_n 2 (gd rfl) rfl rfl ?_
                  refine g_getI 5 (gd rfl) rfl rfl rfl (fun z109x2 e109x2 => ?_)
                  have q109x2 : u_46_1 = z109x2 := (sF_ne rfl (sF_ne rfl (fr_F e_46_1 hFc0 rfl))).trans e109x2.symm
                  subst q109x2
                  refine g_cmp_ge 8 34 (gd rfl) rfl rfl (fun c109x5 => ?_) (fun c109x5 => ?_)
                  · skip
                    have i109x5 := r_le1 1 999 c109x5 i8a i8 rfl
                    have i109x5a := r_le2 1 999 c109x5 i8a i8 rfl
                    refine g_iconst 0 35 (gd rfl) rfl rfl ?_
                    refine g_ireturn (gd rfl) rfl (nb01 (in_w 0 1 (in_c 0 rfl) rfl)) (hp109 _ _ ?_)
                    show GG _ _ _ _ _ _ _ _ [.int (Int32.ofInt 0)] _ _ _
                    refine g_if_eq 115 123 (gd rfl) rfl rfl (fun c112 => ?_) (fun c112 => ?_)
                    · skip
                      refine g_aload_n 124 (gd rfl) rfl rfl ?_
                      refine g_dup 125 (gd rfl) rfl rfl ?_
                      refine g_getI 128 (gd rfl) rfl rfl rfl (fun z125 e125 => ?_)
                      have q125 : w0_46_2 = z125 := (sF_ne rfl (sF_ne rfl (v0_46_2))).trans e125.symm
                      subst q125
                      refine g_iconst 1 129 (gd rfl) rfl rfl ?_
                      refine g_iadd 130 (gd rfl) rfl (fun z129 e129 => ?_)
                      have i129 := in_add 2 1000 e129 i109x5a (in_c 1 rfl) rfl rfl
                      refine g_putI 133 (gd rfl) rfl rfl rfl rfl ?_
                      have hI130 := inv_sF (q := 46) (j := 2) hI48 rfl (in_w 0 1000 i129 rfl)
                      refine g_iload_n 134 (gd rfl) rfl rfl ?_
                      refine g_bipush 97 136 (gd rfl) rfl rfl ?_
                      refine g_cmp_lt 139 159 (gd rfl) rfl rfl (fun c136 => ?_) (fun c136 => ?_)
                      · skip
                        have i136 := r_lt1 0 96 c136 i19 (in_c 97 rfl) rfl
                        refine g_aload_n 160 (gd rfl) rfl rfl ?_
                        refine g_iload_n 161 (gd rfl) rfl rfl ?_
                        refine g_iload_n 162 (gd rfl) rfl rfl ?_
                        refine g_calls (As := [.int z19, .int x2]) (r := [.ref (A 46)]) 165 (gd rfl) rfl rfl rfl rfl rfl (Nat.le_of_ble_eq_true rfl) (mc := 0) (ms := 0) (Nat.zero_le _) (Nat.zero_le _) (P := fun v u => _) ?_ (fun v u h => h)
                        intro po162 xx162 hp162 hx162
                        refine g_enter2 (k := 174) (N := 300) (by first | exact dq1 hd rfl | exact dq0 hd rfl | exact dq2 hd rfl | exact dq3 hd rfl | omega) rfl (Nat.le_of_ble_eq_true rfl) ?_
                        refine g_iload_n 1 (gd rfl) rfl rfl ?_
                        refine g_bipush 59 3 (gd rfl) rfl rfl ?_
                        refine g_cmp_eq 6 19 (gd rfl) rfl rfl (fun c162x3 => ?_) (fun c162x3 => ?_)
                        · skip
                          have i162x3 := r_eq1 59 59 c162x3 i136 (in_c 59 rfl) rfl
                          refine g_iconst 1 20 (gd rfl) rfl rfl ?_
                          refine g_goto 24 (gd rfl) rfl ?_
                          refine g_ireturn (gd rfl) rfl (nb01 (in_w 0 1 (in_c 1 rfl) rfl)) (hp162 _ _ ?_)
                          show GG _ _ _ _ _ _ _ _ [.int (Int32.ofInt 1), .ref (A 46)] _ _ _
                          refine g_if_eq 168 172 (gd rfl) rfl rfl (fun c165 => ?_) (fun c165 => ?_)
                          · skip
                            exact zn_eq c165 (in_c 1 rfl) rfl
                          · skip
                            refine g_iconst 3 169 (gd rfl) rfl rfl ?_
                            refine g_goto 173 (gd rfl) rfl ?_
                            refine g_putI 176 (gd rfl) rfl rfl rfl rfl ?_
                            have hI173 := inv_sF (q := 46) (j := 3) hI130 rfl (in_w 0 5 (in_c 3 rfl) rfl)
                            refine g_aload_n 177 (gd rfl) rfl rfl ?_
                            refine g_iload_n 178 (gd rfl) rfl rfl ?_
                            refine g_putI 181 (gd rfl) rfl rfl rfl rfl ?_
                            have hI178 := inv_sF (q := 46) (j := 5) hI173 rfl (in_w (-2147483648) 2147483647 i162x3 rfl)
                            have n181 : (x1).toInt = 6 → TK (sF (sF (sF (sF (sF sc0 46 4 w0_46_2) 46 3 (Int32.ofInt 0)) 46 2 z129) 46 3 (Int32.ofInt 3)) 46 5 z19) := by intro h6; exfalso; have a0 := oa8 h2 h1 i109x5 i109x5a ((in_c 0 rfl)) i162x3 ((in_c 3 rfl)) i129; have a8 := t_add e129 i109x5a (in_c 1 rfl) rfl; have a9 := in_u ((in_c 1 rfl)); have oc := oc_171_46; omega
                            have n181a : ((sF (sF (sF (sF (sF sc0 46 4 w0_46_2) 46 3 (Int32.ofInt 0)) 46 2 z129) 46 3 (Int32.ofInt 3)) 46 5 z19).2.2.1 46 3).toInt = 1 → In ((sF (sF (sF (sF (sF sc0 46 4 w0_46_2) 46 3 (Int32.ofInt 0)) 46 2 z129) 46 3 (Int32.ofInt 3)) 46 5 z19).2.2.1 46 5) 0 25 := by intro h1; rw [← (show (Int32.ofInt 3) = (sF (sF (sF (sF (sF sc0 46 4 w0_46_2) 46 3 (Int32.ofInt 0)) 46 2 z129) 46 3 (Int32.ofInt 3)) 46 5 z19).2.2.1 46 3 from sF_ne rfl (sF_get))] at h1; exact absurd h1 (by decide)
                            have n181b : TKN (s.1 47) (s.2.2.1 46 1).toInt.toNat (s.2.2.1 46 2).toInt.toNat ((sF (sF (sF (sF (sF sc0 46 4 w0_46_2) 46 3 (Int32.ofInt 0)) 46 2 z129) 46 3 (Int32.ofInt 3)) 46 5 z19).2.2.1 46 4).toInt.toNat ((sF (sF (sF (sF (sF sc0 46 4 w0_46_2) 46 3 (Int32.ofInt 0)) 46 2 z129) 46 3 (Int32.ofInt 3)) 46 5 z19).2.2.1 46 2).toInt.toNat ((sF (sF (sF (sF (sF sc0 46 4 w0_46_2) 46 3 (Int32.ofInt 0)) 46 2 z129) 46 3 (Int32.ofInt 3)) 46 5 z19).2.2.1 46 3).toInt ((sF (sF (sF (sF (sF sc0 46 4 w0_46_2) 46 3 (Int32.ofInt 0)) 46 2 z129) 46 3 (Int32.ofInt 3)) 46 5 z19).2.2.1 46 5).toInt := by have hT0 : s.1 47 w0_46_2.toInt.toNat = z19 := (by rw [e19, hFc0.1 47 rfl]; rfl); have hS : tkS (s.1 47) (u_46_1).toInt.toNat (u_46_2).toInt.toNat w0_46_2.toInt.toNat := ⟨by have a0 := oa8 h2 h1 i109x5 i109x5a ((in_c 0 rfl)) i162x3 ((in_c 3 rfl)) i129; have a8 := t_add e129 i109x5a (in_c 1 rfl) rfl; have a9 := in_u ((in_c 1 rfl)); have oc := oc_171_46; omega, by have a0 := oa8 h2 h1 i109x5 i109x5a ((in_c 0 rfl)) i162x3 ((in_c 3 rfl)) i129; have a8 := t_add e129 i109x5a (in_c 1 rfl) rfl; have a9 := in_u ((in_c 1 rfl)); have oc := oc_171_46; omega, fun i a b => g0_0 i (by rw [← e_46_2]; exact a) (by have a0 := oa8 h2 h1 i109x5 i109x5a ((in_c 0 rfl)) i162x3 ((in_c 3 rfl)) i129; have a8 := t_add e129 i109x5a (in_c 1 rfl) rfl; have a9 := in_u ((in_c 1 rfl)); have oc := oc_171_46; omega), fun _ => by rw [hT0]; have a0 := oa8 h2 h1 i109x5 i109x5a ((in_c 0 rfl)) i162x3 ((in_c 3 rfl)) i129; have a8 := t_add e129 i109x5a (in_c 1 rfl) rfl; have a9 := in_u ((in_c 1 rfl)); have oc := oc_171_46; omega⟩; rw [← (show z129 = (sF (sF (sF (sF (sF sc0 46 4 w0_46_2) 46 3 (Int32.ofInt 0)) 46 2 z129) 46 3 (Int32.ofInt 3)) 46 5 z19).2.2.1 46 2 from sF_ne rfl (sF_ne rfl (sF_get))), ← (show w0_46_2 = (sF (sF (sF (sF (sF sc0 46 4 w0_46_2) 46 3 (Int32.ofInt 0)) 46 2 z129) 46 3 (Int32.ofInt 3)) 46 5 z19).2.2.1 46 4 from sF_ne rfl (sF_ne rfl (sF_ne rfl (sF_ne rfl (sF_get))))), ← (show (Int32.ofInt 3) = (sF (sF (sF (sF (sF sc0 46 4 w0_46_2) 46 3 (Int32.ofInt 0)) 46 2 z129) 46 3 (Int32.ofInt 3)) 46 5 z19).2.2.1 46 3 from sF_ne rfl (sF_get)), ← (show z19 = (sF (sF (sF (sF (sF sc0 46 4 w0_46_2) 46 3 (Int32.ofInt 0)) 46 2 z129) 46 3 (Int32.ofInt 3)) 46 5 z19).2.2.1 46 5 from sF_get), ← e_46_1, ← e_46_2]; first | exact tkn_3 hS (by have a0 := oa8 h2 h1 i109x5 i109x5a ((in_c 0 rfl)) i162x3 ((in_c 3 rfl)) i129; have a8 := t_add e129 i109x5a (in_c 1 rfl) rfl; have a9 := in_u ((in_c 1 rfl)); have oc := oc_171_46; omega) (by rw [hT0]; have a0 := oa8 h2 h1 i109x5 i109x5a ((in_c 0 rfl)) i162x3 ((in_c 3 rfl)) i129; have a8 := t_add e129 i109x5a (in_c 1 rfl) rfl; have a9 := in_u ((in_c 1 rfl)); have oc := oc_171_46; omega) (by have a0 := oa8 h2 h1 i109x5 i109x5a ((in_c 0 rfl)) i162x3 ((in_c 3 rfl)) i129; have a8 := t_add e129 i109x5a (in_c 1 rfl) rfl; have a9 := in_u ((in_c 1 rfl)); have oc := oc_171_46; omega) (by decide) (by have a0 := oa8 h2 h1 i109x5 i109x5a ((in_c 0 rfl)) i162x3 ((in_c 3 rfl)) i129; have a8 := t_add e129 i109x5a (in_c 1 rfl) rfl; have a9 := in_u ((in_c 1 rfl)); have oc := oc_171_46; omega) | exact tkn_4 hS (by have a0 := oa8 h2 h1 i109x5 i109x5a ((in_c 0 rfl)) i162x3 ((in_c 3 rfl)) i129; have a8 := t_add e129 i109x5a (in_c 1 rfl) rfl; have a9 := in_u ((in_c 1 rfl)); have oc := oc_171_46; omega) (by rw [hT0]; unfold tkL; have a0 := oa8 h2 h1 i109x5 i109x5a ((in_c 0 rfl)) i162x3 ((in_c 3 rfl)) i129; have a8 := t_add e129 i109x5a (in_c 1 rfl) rfl; have a9 := in_u ((in_c 1 rfl)); have oc := oc_171_46; omega) (by rw [hT0]; have a0 := oa8 h2 h1 i109x5 i109x5a ((in_c 0 rfl)) i162x3 ((in_c 3 rfl)) i129; have a8 := t_add e129 i109x5a (in_c 1 rfl) rfl; have a9 := in_u ((in_c 1 rfl)); have oc := oc_171_46; omega) (by first | exact nq_1 (by rw [hT0]; unfold tkD; have a0 := oa8 h2 h1 i109x5 i109x5a ((in_c 0 rfl)) i162x3 ((in_c 3 rfl)) i129; have a8 := t_add e129 i109x5a (in_c 1 rfl) rfl; have a9 := in_u ((in_c 1 rfl)); have oc := oc_171_46; omega) (by rw [hT0]; have a0 := oa8 h2 h1 i109x5 i109x5a ((in_c 0 rfl)) i162x3 ((in_c 3 rfl)) i129; have a8 := t_add e129 i109x5a (in_c 1 rfl) rfl; have a9 := in_u ((in_c 1 rfl)); have oc := oc_171_46; omega) | exact nq_2 (by rw [hT0]; have a0 := oa8 h2 h1 i109x5 i109x5a ((in_c 0 rfl)) i162x3 ((in_c 3 rfl)) i129; have a8 := t_add e129 i109x5a (in_c 1 rfl) rfl; have a9 := in_u ((in_c 1 rfl)); have oc := oc_171_46; omega) (fun h => by first | (exfalso; have a0 := oa8 h2 h1 i109x5 i109x5a ((in_c 0 rfl)) i162x3 ((in_c 3 rfl)) i129; have a8 := t_add e129 i109x5a (in_c 1 rfl) rfl; have a9 := in_u ((in_c 1 rfl)); have oc := oc_171_46; omega) | (rw [show s.1 47 (w0_46_2.toInt.toNat + 1) = z109x13 from (by rw [e109x13, show z101.toNatClampNeg = w0_46_2.toInt.toNat + 1 from (by show z101.toInt.toNat = _; have a0 := oa8 h2 h1 i109x5 i109x5a ((in_c 0 rfl)) i162x3 ((in_c 3 rfl)) i129; have a8 := t_add e129 i109x5a (in_c 1 rfl) rfl; have a9 := in_u ((in_c 1 rfl)); have oc := oc_171_46; omega)]; exact congrFun (hFc0.1 47 rfl).symm _)]; unfold tkD; have a0 := oa8 h2 h1 i109x5 i109x5a ((in_c 0 rfl)) i162x3 ((in_c 3 rfl)) i129; have a8 := t_add e129 i109x5a (in_c 1 rfl) rfl; have a9 := in_u ((in_c 1 rfl)); have oc := oc_171_46; omega))) (by have a0 := oa8 h2 h1 i109x5 i109x5a ((in_c 0 rfl)) i162x3 ((in_c 3 rfl)) i129; have a8 := t_add e129 i109x5a (in_c 1 rfl) rfl; have a9 := in_u ((in_c 1 rfl)); have oc := oc_171_46; omega) (by decide)
                            have n181c : (z129).toInt ≤ (u_46_1).toInt := by have a0 := oa8 h2 h1 i109x5 i109x5a ((in_c 0 rfl)) i162x3 ((in_c 3 rfl)) i129; have a8 := t_add e129 i109x5a (in_c 1 rfl) rfl; have a9 := in_u ((in_c 1 rfl)); have oc := oc_171_46; omega
                            have n181d : ((sF (sF (sF (sF (sF sc0 46 4 w0_46_2) 46 3 (Int32.ofInt 0)) 46 2 z129) 46 3 (Int32.ofInt 3)) 46 5 z19).2.2.1 46 2).toInt ≤ ((sF (sF (sF (sF (sF sc0 46 4 w0_46_2) 46 3 (Int32.ofInt 0)) 46 2 z129) 46 3 (Int32.ofInt 3)) 46 5 z19).2.2.1 46 1).toInt := by have b0 : z129 = (sF (sF (sF (sF (sF sc0 46 4 w0_46_2) 46 3 (Int32.ofInt 0)) 46 2 z129) 46 3 (Int32.ofInt 3)) 46 5 z19).2.2.1 46 2 := sF_ne rfl (sF_ne rfl (sF_get)); have b1 : u_46_1 = (sF (sF (sF (sF (sF sc0 46 4 w0_46_2) 46 3 (Int32.ofInt 0)) 46 2 z129) 46 3 (Int32.ofInt 3)) 46 5 z19).2.2.1 46 1 := sF_ne rfl (sF_ne rfl (sF_ne rfl (sF_ne rfl (sF_ne rfl (fr_F e_46_1 hFc0 rfl))))); rw [← b0, ← b1]; exact n181c
                            have n181e : (w0_46_2).toInt ≤ (z129).toInt := by have a0 := oa8 h2 h1 i109x5 i109x5a ((in_c 0 rfl)) i162x3 ((in_c 3 rfl)) i129; have a8 := t_add e129 i109x5a (in_c 1 rfl) rfl; have a9 := in_u ((in_c 1 rfl)); have oc := oc_171_46; omega
                            have n181f : ((sF (sF (sF (sF (sF sc0 46 4 w0_46_2) 46 3 (Int32.ofInt 0)) 46 2 z129) 46 3 (Int32.ofInt 3)) 46 5 z19).2.2.1 46 4).toInt ≤ ((sF (sF (sF (sF (sF sc0 46 4 w0_46_2) 46 3 (Int32.ofInt 0)) 46 2 z129) 46 3 (Int32.ofInt 3)) 46 5 z19).2.2.1 46 2).toInt := by have b0 : w0_46_2 = (sF (sF (sF (sF (sF sc0 46 4 w0_46_2) 46 3 (Int32.ofInt 0)) 46 2 z129) 46 3 (Int32.ofInt 3)) 46 5 z19).2.2.1 46 4 := sF_ne rfl (sF_ne rfl (sF_ne rfl (sF_ne rfl (sF_get)))); have b1 : z129 = (sF (sF (sF (sF (sF sc0 46 4 w0_46_2) 46 3 (Int32.ofInt 0)) 46 2 z129) 46 3 (Int32.ofInt 3)) 46 5 z19).2.2.1 46 2 := sF_ne rfl (sF_ne rfl (sF_get)); rw [← b0, ← b1]; exact n181e
                            have n181g : (u_46_2).toInt ≤ (w0_46_2).toInt := by first | exact n0_1 | (have a0 := oa8 h2 h1 i109x5 i109x5a ((in_c 0 rfl)) i162x3 ((in_c 3 rfl)) i129; have a8 := t_add e129 i109x5a (in_c 1 rfl) rfl; have a9 := in_u ((in_c 1 rfl)); have oc := oc_171_46; omega)
                            have n181h : (s.2.2.1 46 2).toInt ≤ ((sF (sF (sF (sF (sF sc0 46 4 w0_46_2) 46 3 (Int32.ofInt 0)) 46 2 z129) 46 3 (Int32.ofInt 3)) 46 5 z19).2.2.1 46 4).toInt := by have b0 : w0_46_2 = (sF (sF (sF (sF (sF sc0 46 4 w0_46_2) 46 3 (Int32.ofInt 0)) 46 2 z129) 46 3 (Int32.ofInt 3)) 46 5 z19).2.2.1 46 4 := sF_ne rfl (sF_ne rfl (sF_ne rfl (sF_ne rfl (sF_get)))); rw [← b0, ← e_46_2]; exact n181g
                            exact g_return (gd rfl) rfl (hP _ _ ⟨(sF (sF (sF (sF (sF sc0 46 4 w0_46_2) 46 3 (Int32.ofInt 0)) 46 2 z129) 46 3 (Int32.ofInt 3)) 46 5 z19), hI178, (fr_sF rfl (fr_sF rfl (fr_sF rfl (fr_sF rfl (fr_sF rfl hFc0))))), n181d, n181f, n181h, rfl, rfl, n181, n181a, n181b⟩)
                        · skip
                          refine g_iload_n 7 (gd rfl) rfl rfl ?_
                          refine g_if_ne 10 23 (gd rfl) rfl rfl (fun c162x7 => ?_) (fun c162x7 => ?_)
                          · skip
                            refine g_iconst 0 24 (gd rfl) rfl rfl ?_
                            refine g_ireturn (gd rfl) rfl (nb01 (in_w 0 1 (in_c 0 rfl) rfl)) (hp162 _ _ ?_)
                            show GG _ _ _ _ _ _ _ _ [.int (Int32.ofInt 0), .ref (A 46)] _ _ _
                            refine g_if_eq 168 172 (gd rfl) rfl rfl (fun c165 => ?_) (fun c165 => ?_)
                            · skip
                              refine g_iconst 4 173 (gd rfl) rfl rfl ?_
                              refine g_putI 176 (gd rfl) rfl rfl rfl rfl ?_
                              have hI173 := inv_sF (q := 46) (j := 3) hI130 rfl (in_w 0 5 (in_c 4 rfl) rfl)
                              refine g_aload_n 177 (gd rfl) rfl rfl ?_
                              refine g_iload_n 178 (gd rfl) rfl rfl ?_
                              refine g_putI 181 (gd rfl) rfl rfl rfl rfl ?_
                              have hI178 := inv_sF (q := 46) (j := 5) hI173 rfl (in_w (-2147483648) 2147483647 i136 rfl)
                              have n181 : (x1).toInt = 6 → TK (sF (sF (sF (sF (sF sc0 46 4 w0_46_2) 46 3 (Int32.ofInt 0)) 46 2 z129) 46 3 (Int32.ofInt 4)) 46 5 z19) := by intro h6; exfalso; have a0 := oa8 h2 h1 i109x5 i109x5a ((in_c 0 rfl)) i136 ((in_c 4 rfl)) i129; have a8 := t_add e129 i109x5a (in_c 1 rfl) rfl; have a9 := in_u ((in_c 1 rfl)); have oc := oc_171_46; omega
                              have n181a : ((sF (sF (sF (sF (sF sc0 46 4 w0_46_2) 46 3 (Int32.ofInt 0)) 46 2 z129) 46 3 (Int32.ofInt 4)) 46 5 z19).2.2.1 46 3).toInt = 1 → In ((sF (sF (sF (sF (sF sc0 46 4 w0_46_2) 46 3 (Int32.ofInt 0)) 46 2 z129) 46 3 (Int32.ofInt 4)) 46 5 z19).2.2.1 46 5) 0 25 := by intro h1; rw [← (show (Int32.ofInt 4) = (sF (sF (sF (sF (sF sc0 46 4 w0_46_2) 46 3 (Int32.ofInt 0)) 46 2 z129) 46 3 (Int32.ofInt 4)) 46 5 z19).2.2.1 46 3 from sF_ne rfl (sF_get))] at h1; exact absurd h1 (by decide)
                              have n181b : TKN (s.1 47) (s.2.2.1 46 1).toInt.toNat (s.2.2.1 46 2).toInt.toNat ((sF (sF (sF (sF (sF sc0 46 4 w0_46_2) 46 3 (Int32.ofInt 0)) 46 2 z129) 46 3 (Int32.ofInt 4)) 46 5 z19).2.2.1 46 4).toInt.toNat ((sF (sF (sF (sF (sF sc0 46 4 w0_46_2) 46 3 (Int32.ofInt 0)) 46 2 z129) 46 3 (Int32.ofInt 4)) 46 5 z19).2.2.1 46 2).toInt.toNat ((sF (sF (sF (sF (sF sc0 46 4 w0_46_2) 46 3 (Int32.ofInt 0)) 46 2 z129) 46 3 (Int32.ofInt 4)) 46 5 z19).2.2.1 46 3).toInt ((sF (sF (sF (sF (sF sc0 46 4 w0_46_2) 46 3 (Int32.ofInt 0)) 46 2 z129) 46 3 (Int32.ofInt 4)) 46 5 z19).2.2.1 46 5).toInt := by have hT0 : s.1 47 w0_46_2.toInt.toNat = z19 := (by rw [e19, hFc0.1 47 rfl]; rfl); have hS : tkS (s.1 47) (u_46_1).toInt.toNat (u_46_2).toInt.toNat w0_46_2.toInt.toNat := ⟨by have a0 := oa8 h2 h1 i109x5 i109x5a ((in_c 0 rfl)) i136 ((in_c 4 rfl)) i129; have a8 := t_add e129 i109x5a (in_c 1 rfl) rfl; have a9 := in_u ((in_c 1 rfl)); have oc := oc_171_46; omega, by have a0 := oa8 h2 h1 i109x5 i109x5a ((in_c 0 rfl)) i136 ((in_c 4 rfl)) i129; have a8 := t_add e129 i109x5a (in_c 1 rfl) rfl; have a9 := in_u ((in_c 1 rfl)); have oc := oc_171_46; omega, fun i a b => g0_0 i (by rw [← e_46_2]; exact a) (by have a0 := oa8 h2 h1 i109x5 i109x5a ((in_c 0 rfl)) i136 ((in_c 4 rfl)) i129; have a8 := t_add e129 i109x5a (in_c 1 rfl) rfl; have a9 := in_u ((in_c 1 rfl)); have oc := oc_171_46; omega), fun _ => by rw [hT0]; have a0 := oa8 h2 h1 i109x5 i109x5a ((in_c 0 rfl)) i136 ((in_c 4 rfl)) i129; have a8 := t_add e129 i109x5a (in_c 1 rfl) rfl; have a9 := in_u ((in_c 1 rfl)); have oc := oc_171_46; omega⟩; rw [← (show z129 = (sF (sF (sF (sF (sF sc0 46 4 w0_46_2) 46 3 (Int32.ofInt 0)) 46 2 z129) 46 3 (Int32.ofInt 4)) 46 5 z19).2.2.1 46 2 from sF_ne rfl (sF_ne rfl (sF_get))), ← (show w0_46_2 = (sF (sF (sF (sF (sF sc0 46 4 w0_46_2) 46 3 (Int32.ofInt 0)) 46 2 z129) 46 3 (Int32.ofInt 4)) 46 5 z19).2.2.1 46 4 from sF_ne rfl (sF_ne rfl (sF_ne rfl (sF_ne rfl (sF_get))))), ← (show (Int32.ofInt 4) = (sF (sF (sF (sF (sF sc0 46 4 w0_46_2) 46 3 (Int32.ofInt 0)) 46 2 z129) 46 3 (Int32.ofInt 4)) 46 5 z19).2.2.1 46 3 from sF_ne rfl (sF_get)), ← (show z19 = (sF (sF (sF (sF (sF sc0 46 4 w0_46_2) 46 3 (Int32.ofInt 0)) 46 2 z129) 46 3 (Int32.ofInt 4)) 46 5 z19).2.2.1 46 5 from sF_get), ← e_46_1, ← e_46_2]; first | exact tkn_3 hS (by have a0 := oa8 h2 h1 i109x5 i109x5a ((in_c 0 rfl)) i136 ((in_c 4 rfl)) i129; have a8 := t_add e129 i109x5a (in_c 1 rfl) rfl; have a9 := in_u ((in_c 1 rfl)); have oc := oc_171_46; omega) (by rw [hT0]; have a0 := oa8 h2 h1 i109x5 i109x5a ((in_c 0 rfl)) i136 ((in_c 4 rfl)) i129; have a8 := t_add e129 i109x5a (in_c 1 rfl) rfl; have a9 := in_u ((in_c 1 rfl)); have oc := oc_171_46; omega) (by have a0 := oa8 h2 h1 i109x5 i109x5a ((in_c 0 rfl)) i136 ((in_c 4 rfl)) i129; have a8 := t_add e129 i109x5a (in_c 1 rfl) rfl; have a9 := in_u ((in_c 1 rfl)); have oc := oc_171_46; omega) (by decide) (by have a0 := oa8 h2 h1 i109x5 i109x5a ((in_c 0 rfl)) i136 ((in_c 4 rfl)) i129; have a8 := t_add e129 i109x5a (in_c 1 rfl) rfl; have a9 := in_u ((in_c 1 rfl)); have oc := oc_171_46; omega) | exact tkn_4 hS (by have a0 := oa8 h2 h1 i109x5 i109x5a ((in_c 0 rfl)) i136 ((in_c 4 rfl)) i129; have a8 := t_add e129 i109x5a (in_c 1 rfl) rfl; have a9 := in_u ((in_c 1 rfl)); have oc := oc_171_46; omega) (by rw [hT0]; unfold tkL; have a0 := oa8 h2 h1 i109x5 i109x5a ((in_c 0 rfl)) i136 ((in_c 4 rfl)) i129; have a8 := t_add e129 i109x5a (in_c 1 rfl) rfl; have a9 := in_u ((in_c 1 rfl)); have oc := oc_171_46; omega) (by rw [hT0]; have a0 := oa8 h2 h1 i109x5 i109x5a ((in_c 0 rfl)) i136 ((in_c 4 rfl)) i129; have a8 := t_add e129 i109x5a (in_c 1 rfl) rfl; have a9 := in_u ((in_c 1 rfl)); have oc := oc_171_46; omega) (by first | exact nq_1 (by rw [hT0]; unfold tkD; have a0 := oa8 h2 h1 i109x5 i109x5a ((in_c 0 rfl)) i136 ((in_c 4 rfl)) i129; have a8 := t_add e129 i109x5a (in_c 1 rfl) rfl; have a9 := in_u ((in_c 1 rfl)); have oc := oc_171_46; omega) (by rw [hT0]; have a0 := oa8 h2 h1 i109x5 i109x5a ((in_c 0 rfl)) i136 ((in_c 4 rfl)) i129; have a8 := t_add e129 i109x5a (in_c 1 rfl) rfl; have a9 := in_u ((in_c 1 rfl)); have oc := oc_171_46; omega) | exact nq_2 (by rw [hT0]; have a0 := oa8 h2 h1 i109x5 i109x5a ((in_c 0 rfl)) i136 ((in_c 4 rfl)) i129; have a8 := t_add e129 i109x5a (in_c 1 rfl) rfl; have a9 := in_u ((in_c 1 rfl)); have oc := oc_171_46; omega) (fun h => by first | (exfalso; have a0 := oa8 h2 h1 i109x5 i109x5a ((in_c 0 rfl)) i136 ((in_c 4 rfl)) i129; have a8 := t_add e129 i109x5a (in_c 1 rfl) rfl; have a9 := in_u ((in_c 1 rfl)); have oc := oc_171_46; omega) | (rw [show s.1 47 (w0_46_2.toInt.toNat + 1) = z109x13 from (by rw [e109x13, show z101.toNatClampNeg = w0_46_2.toInt.toNat + 1 from (by show z101.toInt.toNat = _; have a0 := oa8 h2 h1 i109x5 i109x5a ((in_c 0 rfl)) i136 ((in_c 4 rfl)) i129; have a8 := t_add e129 i109x5a (in_c 1 rfl) rfl; have a9 := in_u ((in_c 1 rfl)); have oc := oc_171_46; omega)]; exact congrFun (hFc0.1 47 rfl).symm _)]; unfold tkD; have a0 := oa8 h2 h1 i109x5 i109x5a ((in_c 0 rfl)) i136 ((in_c 4 rfl)) i129; have a8 := t_add e129 i109x5a (in_c 1 rfl) rfl; have a9 := in_u ((in_c 1 rfl)); have oc := oc_171_46; omega))) (by have a0 := oa8 h2 h1 i109x5 i109x5a ((in_c 0 rfl)) i136 ((in_c 4 rfl)) i129; have a8 := t_add e129 i109x5a (in_c 1 rfl) rfl; have a9 := in_u ((in_c 1 rfl)); have oc := oc_171_46; omega) (by decide)
                              have n181c : (z129).toInt ≤ (u_46_1).toInt := by have a0 := oa8 h2 h1 i109x5 i109x5a ((in_c 0 rfl)) i136 ((in_c 4 rfl)) i129; have a8 := t_add e129 i109x5a (in_c 1 rfl) rfl; have a9 := in_u ((in_c 1 rfl)); have oc := oc_171_46; omega
                              have n181d : ((sF (sF (sF (sF (sF sc0 46 4 w0_46_2) 46 3 (Int32.ofInt 0)) 46 2 z129) 46 3 (Int32.ofInt 4)) 46 5 z19).2.2.1 46 2).toInt ≤ ((sF (sF (sF (sF (sF sc0 46 4 w0_46_2) 46 3 (Int32.ofInt 0)) 46 2 z129) 46 3 (Int32.ofInt 4)) 46 5 z19).2.2.1 46 1).toInt := by have b0 : z129 = (sF (sF (sF (sF (sF sc0 46 4 w0_46_2) 46 3 (Int32.ofInt 0)) 46 2 z129) 46 3 (Int32.ofInt 4)) 46 5 z19).2.2.1 46 2 := sF_ne rfl (sF_ne rfl (sF_get)); have b1 : u_46_1 = (sF (sF (sF (sF (sF sc0 46 4 w0_46_2) 46 3 (Int32.ofInt 0)) 46 2 z129) 46 3 (Int32.ofInt 4)) 46 5 z19).2.2.1 46 1 := sF_ne rfl (sF_ne rfl (sF_ne rfl (sF_ne rfl (sF_ne rfl (fr_F e_46_1 hFc0 rfl))))); rw [← b0, ← b1]; exact n181c
                              have n181e : (w0_46_2).toInt ≤ (z129).toInt := by have a0 := oa8 h2 h1 i109x5 i109x5a ((in_c 0 rfl)) i136 ((in_c 4 rfl)) i129; have a8 := t_add e129 i109x5a (in_c 1 rfl) rfl; have a9 := in_u ((in_c 1 rfl)); have oc := oc_171_46; omega
                              have n181f : ((sF (sF (sF (sF (sF sc0 46 4 w0_46_2) 46 3 (Int32.ofInt 0)) 46 2 z129) 46 3 (Int32.ofInt 4)) 46 5 z19).2.2.1 46 4).toInt ≤ ((sF (sF (sF (sF (sF sc0 46 4 w0_46_2) 46 3 (Int32.ofInt 0)) 46 2 z129) 46 3 (Int32.ofInt 4)) 46 5 z19).2.2.1 46 2).toInt := by have b0 : w0_46_2 = (sF (sF (sF (sF (sF sc0 46 4 w0_46_2) 46 3 (Int32.ofInt 0)) 46 2 z129) 46 3 (Int32.ofInt 4)) 46 5 z19).2.2.1 46 4 := sF_ne rfl (sF_ne rfl (sF_ne rfl (sF_ne rfl (sF_get)))); have b1 : z129 = (sF (sF (sF (sF (sF sc0 46 4 w0_46_2) 46 3 (Int32.ofInt 0)) 46 2 z129) 46 3 (Int32.ofInt 4)) 46 5 z19).2.2.1 46 2 := sF_ne rfl (sF_ne rfl (sF_get)); rw [← b0, ← b1]; exact n181e
                              have n181g : (u_46_2).toInt ≤ (w0_46_2).toInt := by first | exact n0_1 | (have a0 := oa8 h2 h1 i109x5 i109x5a ((in_c 0 rfl)) i136 ((in_c 4 rfl)) i129; have a8 := t_add e129 i109x5a (in_c 1 rfl) rfl; have a9 := in_u ((in_c 1 rfl)); have oc := oc_171_46; omega)
                              have n181h : (s.2.2.1 46 2).toInt ≤ ((sF (sF (sF (sF (sF sc0 46 4 w0_46_2) 46 3 (Int32.ofInt 0)) 46 2 z129) 46 3 (Int32.ofInt 4)) 46 5 z19).2.2.1 46 4).toInt := by have b0 : w0_46_2 = (sF (sF (sF (sF (sF sc0 46 4 w0_46_2) 46 3 (Int32.ofInt 0)) 46 2 z129) 46 3 (Int32.ofInt 4)) 46 5 z19).2.2.1 46 4 := sF_ne rfl (sF_ne rfl (sF_ne rfl (sF_ne rfl (sF_get)))); rw [← b0, ← e_46_2]; exact n181g
                              exact g_return (gd rfl) rfl (hP _ _ ⟨(sF (sF (sF (sF (sF sc0 46 4 w0_46_2) 46 3 (Int32.ofInt 0)) 46 2 z129) 46 3 (Int32.ofInt 4)) 46 5 z19), hI178, (fr_sF rfl (fr_sF rfl (fr_sF rfl (fr_sF rfl (fr_sF rfl hFc0))))), n181d, n181f, n181h, rfl, rfl, n181, n181a, n181b⟩)
                            · skip
                              exact zn_ne c165 (in_c 0 rfl) rfl
                          · skip
                            exact zn_eq c162x7 h2 rfl
                      · skip
                        have i136 := r_le2 97 65535 c136 (in_c 97 rfl) i19 rfl
                        refine g_iload_n 140 (gd rfl) rfl rfl ?_
                        refine g_bipush 122 142 (gd rfl) rfl rfl ?_
                        refine g_cmp_gt 145 159 (gd rfl) rfl rfl (fun c142 => ?_) (fun c142 => ?_)
                        · skip
                          have i142 := r_lt2 123 65535 c142 (in_c 122 rfl) i136 rfl
                          refine g_aload_n 160 (gd rfl) rfl rfl ?_
                          refine g_iload_n 161 (gd rfl) rfl rfl ?_
                          refine g_iload_n 162 (gd rfl) rfl rfl ?_
                          refine g_calls (As := [.int z19, .int x2]) (r := [.ref (A 46)]) 165 (gd rfl) rfl rfl rfl rfl rfl (Nat.le_of_ble_eq_true rfl) (mc := 0) (ms := 0) (Nat.zero_le _) (Nat.zero_le _) (P := fun v u => _) ?_ (fun v u h => h)
                          intro po162 xx162 hp162 hx162
                          refine g_enter2 (k := 174) (N := 300) (by first | exact dq1 hd rfl | exact dq0 hd rfl | exact dq2 hd rfl | exact dq3 hd rfl | omega) rfl (Nat.le_of_ble_eq_true rfl) ?_
                          refine g_iload_n 1 (gd rfl) rfl rfl ?_
                          refine g_bipush 59 3 (gd rfl) rfl rfl ?_
                          refine g_cmp_eq 6 19 (gd rfl) rfl rfl (fun c162x3 => ?_) (fun c162x3 => ?_)
                          · skip
                            exact n_eq c162x3 i142 (in_c 59 rfl) rfl
                          · skip
                            refine g_iload_n 7 (gd rfl) rfl rfl ?_
                            refine g_if_ne 10 23 (gd rfl) rfl rfl (fun c162x7 => ?_) (fun c162x7 => ?_)
                            · skip
                              refine g_iconst 0 24 (gd rfl) rfl rfl ?_
                              refine g_ireturn (gd rfl) rfl (nb01 (in_w 0 1 (in_c 0 rfl) rfl)) (hp162 _ _ ?_)
                              show GG _ _ _ _ _ _ _ _ [.int (Int32.ofInt 0), .ref (A 46)] _ _ _
                              refine g_if_eq 168 172 (gd rfl) rfl rfl (fun c165 => ?_) (fun c165 => ?_)
                              · skip
                                refine g_iconst 4 173 (gd rfl) rfl rfl ?_
                                refine g_putI 176 (gd rfl) rfl rfl rfl rfl ?_
                                have hI173 := inv_sF (q := 46) (j := 3) hI130 rfl (in_w 0 5 (in_c 4 rfl) rfl)
                                refine g_aload_n 177 (gd rfl) rfl rfl ?_
                                refine g_iload_n 178 (gd rfl) rfl rfl ?_
                                refine g_putI 181 (gd rfl) rfl rfl rfl rfl ?_
                                have hI178 := inv_sF (q := 46) (j := 5) hI173 rfl (in_w (-2147483648) 2147483647 i142 rfl)
                                have n181 : (x1).toInt = 6 → TK (sF (sF (sF (sF (sF sc0 46 4 w0_46_2) 46 3 (Int32.ofInt 0)) 46 2 z129) 46 3 (Int32.ofInt 4)) 46 5 z19) := by intro h6; exfalso; have a0 := oa8 h2 h1 i109x5 i109x5a ((in_c 0 rfl)) i142 ((in_c 4 rfl)) i129; have a8 := t_add e129 i109x5a (in_c 1 rfl) rfl; have a9 := in_u ((in_c 1 rfl)); have oc := oc_171_46; omega
                                have n181a : ((sF (sF (sF (sF (sF sc0 46 4 w0_46_2) 46 3 (Int32.ofInt 0)) 46 2 z129) 46 3 (Int32.ofInt 4)) 46 5 z19).2.2.1 46 3).toInt = 1 → In ((sF (sF (sF (sF (sF sc0 46 4 w0_46_2) 46 3 (Int32.ofInt 0)) 46 2 z129) 46 3 (Int32.ofInt 4)) 46 5 z19).2.2.1 46 5) 0 25 := by intro h1; rw [← (show (Int32.ofInt 4) = (sF (sF (sF (sF (sF sc0 46 4 w0_46_2) 46 3 (Int32.ofInt 0)) 46 2 z129) 46 3 (Int32.ofInt 4)) 46 5 z19).2.2.1 46 3 from sF_ne rfl (sF_get))] at h1; exact absurd h1 (by decide)
                                have n181b : TKN (s.1 47) (s.2.2.1 46 1).toInt.toNat (s.2.2.1 46 2).toInt.toNat ((sF (sF (sF (sF (sF sc0 46 4 w0_46_2) 46 3 (Int32.ofInt 0)) 46 2 z129) 46 3 (Int32.ofInt 4)) 46 5 z19).2.2.1 46 4).toInt.toNat ((sF (sF (sF (sF (sF sc0 46 4 w0_46_2) 46 3 (Int32.ofInt 0)) 46 2 z129) 46 3 (Int32.ofInt 4)) 46 5 z19).2.2.1 46 2).toInt.toNat ((sF (sF (sF (sF (sF sc0 46 4 w0_46_2) 46 3 (Int32.ofInt 0)) 46 2 z129) 46 3 (Int32.ofInt 4)) 46 5 z19).2.2.1 46 3).toInt ((sF (sF (sF (sF (sF sc0 46 4 w0_46_2) 46 3 (Int32.ofInt 0)) 46 2 z129) 46 3 (Int32.ofInt 4)) 46 5 z19).2.2.1 46 5).toInt := by have hT0 : s.1 47 w0_46_2.toInt.toNat = z19 := (by rw [e19, hFc0.1 47 rfl]; rfl); have hS : tkS (s.1 47) (u_46_1).toInt.toNat (u_46_2).toInt.toNat w0_46_2.toInt.toNat := ⟨by have a0 := oa8 h2 h1 i109x5 i109x5a ((in_c 0 rfl)) i142 ((in_c 4 rfl)) i129; have a8 := t_add e129 i109x5a (in_c 1 rfl) rfl; have a9 := in_u ((in_c 1 rfl)); have oc := oc_171_46; omega, by have a0 := oa8 h2 h1 i109x5 i109x5a ((in_c 0 rfl)) i142 ((in_c 4 rfl)) i129; have a8 := t_add e129 i109x5a (in_c 1 rfl) rfl; have a9 := in_u ((in_c 1 rfl)); have oc := oc_171_46; omega, fun i a b => g0_0 i (by rw [← e_46_2]; exact a) (by have a0 := oa8 h2 h1 i109x5 i109x5a ((in_c 0 rfl)) i142 ((in_c 4 rfl)) i129; have a8 := t_add e129 i109x5a (in_c 1 rfl) rfl; have a9 := in_u ((in_c 1 rfl)); have oc := oc_171_46; omega), fun _ => by rw [hT0]; have a0 := oa8 h2 h1 i109x5 i109x5a ((in_c 0 rfl)) i142 ((in_c 4 rfl)) i129; have a8 := t_add e129 i109x5a (in_c 1 rfl) rfl; have a9 := in_u ((in_c 1 rfl)); have oc := oc_171_46; omega⟩; rw [← (show z129 = (sF (sF (sF (sF (sF sc0 46 4 w0_46_2) 46 3 (Int32.ofInt 0)) 46 2 z129) 46 3 (Int32.ofInt 4)) 46 5 z19).2.2.1 46 2 from sF_ne rfl (sF_ne rfl (sF_get))), ← (show w0_46_2 = (sF (sF (sF (sF (sF sc0 46 4 w0_46_2) 46 3 (Int32.ofInt 0)) 46 2 z129) 46 3 (Int32.ofInt 4)) 46 5 z19).2.2.1 46 4 from sF_ne rfl (sF_ne rfl (sF_ne rfl (sF_ne rfl (sF_get))))), ← (show (Int32.ofInt 4) = (sF (sF (sF (sF (sF sc0 46 4 w0_46_2) 46 3 (Int32.ofInt 0)) 46 2 z129) 46 3 (Int32.ofInt 4)) 46 5 z19).2.2.1 46 3 from sF_ne rfl (sF_get)), ← (show z19 = (sF (sF (sF (sF (sF sc0 46 4 w0_46_2) 46 3 (Int32.ofInt 0)) 46 2 z129) 46 3 (Int32.ofInt 4)) 46 5 z19).2.2.1 46 5 from sF_get), ← e_46_1, ← e_46_2]; first | exact tkn_3 hS (by have a0 := oa8 h2 h1 i109x5 i109x5a ((in_c 0 rfl)) i142 ((in_c 4 rfl)) i129; have a8 := t_add e129 i109x5a (in_c 1 rfl) rfl; have a9 := in_u ((in_c 1 rfl)); have oc := oc_171_46; omega) (by rw [hT0]; have a0 := oa8 h2 h1 i109x5 i109x5a ((in_c 0 rfl)) i142 ((in_c 4 rfl)) i129; have a8 := t_add e129 i109x5a (in_c 1 rfl) rfl; have a9 := in_u ((in_c 1 rfl)); have oc := oc_171_46; omega) (by have a0 := oa8 h2 h1 i109x5 i109x5a ((in_c 0 rfl)) i142 ((in_c 4 rfl)) i129; have a8 := t_add e129 i109x5a (in_c 1 rfl) rfl; have a9 := in_u ((in_c 1 rfl)); have oc := oc_171_46; omega) (by decide) (by have a0 := oa8 h2 h1 i109x5 i109x5a ((in_c 0 rfl)) i142 ((in_c 4 rfl)) i129; have a8 := t_add e129 i109x5a (in_c 1 rfl) rfl; have a9 := in_u ((in_c 1 rfl)); have oc := oc_171_46; omega) | exact tkn_4 hS (by have a0 := oa8 h2 h1 i109x5 i109x5a ((in_c 0 rfl)) i142 ((in_c 4 rfl)) i129; have a8 := t_add e129 i109x5a (in_c 1 rfl) rfl; have a9 := in_u ((in_c 1 rfl)); have oc := oc_171_46; omega) (by rw [hT0]; unfold tkL; have a0 := oa8 h2 h1 i109x5 i109x5a ((in_c 0 rfl)) i142 ((in_c 4 rfl)) i129; have a8 := t_add e129 i109x5a (in_c 1 rfl) rfl; have a9 := in_u ((in_c 1 rfl)); have oc := oc_171_46; omega) (by rw [hT0]; have a0 := oa8 h2 h1 i109x5 i109x5a ((in_c 0 rfl)) i142 ((in_c 4 rfl)) i129; have a8 := t_add e129 i109x5a (in_c 1 rfl) rfl; have a9 := in_u ((in_c 1 rfl)); have oc := oc_171_46; omega) (by first | exact nq_1 (by rw [hT0]; unfold tkD; have a0 := oa8 h2 h1 i109x5 i109x5a ((in_c 0 rfl)) i142 ((in_c 4 rfl)) i129; have a8 := t_add e129 i109x5a (in_c 1 rfl) rfl; have a9 := in_u ((in_c 1 rfl)); have oc := oc_171_46; omega) (by rw [hT0]; have a0 := oa8 h2 h1 i109x5 i109x5a ((in_c 0 rfl)) i142 ((in_c 4 rfl)) i129; have a8 := t_add e129 i109x5a (in_c 1 rfl) rfl; have a9 := in_u ((in_c 1 rfl)); have oc := oc_171_46; omega) | exact nq_2 (by rw [hT0]; have a0 := oa8 h2 h1 i109x5 i109x5a ((in_c 0 rfl)) i142 ((in_c 4 rfl)) i129; have a8 := t_add e129 i109x5a (in_c 1 rfl) rfl; have a9 := in_u ((in_c 1 rfl)); have oc := oc_171_46; omega) (fun h => by first | (exfalso; have a0 := oa8 h2 h1 i109x5 i109x5a ((in_c 0 rfl)) i142 ((in_c 4 rfl)) i129; have a8 := t_add e129 i109x5a (in_c 1 rfl) rfl; have a9 := in_u ((in_c 1 rfl)); have oc := oc_171_46; omega) | (rw [show s.1 47 (w0_46_2.toInt.toNat + 1) = z109x13 from (by rw [e109x13, show z101.toNatClampNeg = w0_46_2.toInt.toNat + 1 from (by show z101.toInt.toNat = _; have a0 := oa8 h2 h1 i109x5 i109x5a ((in_c 0 rfl)) i142 ((in_c 4 rfl)) i129; have a8 := t_add e129 i109x5a (in_c 1 rfl) rfl; have a9 := in_u ((in_c 1 rfl)); have oc := oc_171_46; omega)]; exact congrFun (hFc0.1 47 rfl).symm _)]; unfold tkD; have a0 := oa8 h2 h1 i109x5 i109x5a ((in_c 0 rfl)) i142 ((in_c 4 rfl)) i129; have a8 := t_add e129 i109x5a (in_c 1 rfl) rfl; have a9 := in_u ((in_c 1 rfl)); have oc := oc_171_46; omega))) (by have a0 := oa8 h2 h1 i109x5 i109x5a ((in_c 0 rfl)) i142 ((in_c 4 rfl)) i129; have a8 := t_add e129 i109x5a (in_c 1 rfl) rfl; have a9 := in_u ((in_c 1 rfl)); have oc := oc_171_46; omega) (by decide)
                                have n181c : (z129).toInt ≤ (u_46_1).toInt := by have a0 := oa8 h2 h1 i109x5 i109x5a ((in_c 0 rfl)) i142 ((in_c 4 rfl)) i129; have a8 := t_add e129 i109x5a (in_c 1 rfl) rfl; have a9 := in_u ((in_c 1 rfl)); have oc := oc_171_46; omega
                                have n181d : ((sF (sF (sF (sF (sF sc0 46 4 w0_46_2) 46 3 (Int32.ofInt 0)) 46 2 z129) 46 3 (Int32.ofInt 4)) 46 5 z19).2.2.1 46 2).toInt ≤ ((sF (sF (sF (sF (sF sc0 46 4 w0_46_2) 46 3 (Int32.ofInt 0)) 46 2 z129) 46 3 (Int32.ofInt 4)) 46 5 z19).2.2.1 46 1).toInt := by have b0 : z129 = (sF (sF (sF (sF (sF sc0 46 4 w0_46_2) 46 3 (Int32.ofInt 0)) 46 2 z129) 46 3 (Int32.ofInt 4)) 46 5 z19).2.2.1 46 2 := sF_ne rfl (sF_ne rfl (sF_get)); have b1 : u_46_1 = (sF (sF (sF (sF (sF sc0 46 4 w0_46_2) 46 3 (Int32.ofInt 0)) 46 2 z129) 46 3 (Int32.ofInt 4)) 46 5 z19).2.2.1 46 1 := sF_ne rfl (sF_ne rfl (sF_ne rfl (sF_ne rfl (sF_ne rfl (fr_F e_46_1 hFc0 rfl))))); rw [← b0, ← b1]; exact n181c
                                have n181e : (w0_46_2).toInt ≤ (z129).toInt := by have a0 := oa8 h2 h1 i109x5 i109x5a ((in_c 0 rfl)) i142 ((in_c 4 rfl)) i129; have a8 := t_add e129 i109x5a (in_c 1 rfl) rfl; have a9 := in_u ((in_c 1 rfl)); have oc := oc_171_46; omega
                                have n181f : ((sF (sF (sF (sF (sF sc0 46 4 w0_46_2) 46 3 (Int32.ofInt 0)) 46 2 z129) 46 3 (Int32.ofInt 4)) 46 5 z19).2.2.1 46 4).toInt ≤ ((sF (sF (sF (sF (sF sc0 46 4 w0_46_2) 46 3 (Int32.ofInt 0)) 46 2 z129) 46 3 (Int32.ofInt 4)) 46 5 z19).2.2.1 46 2).toInt := by have b0 : w0_46_2 = (sF (sF (sF (sF (sF sc0 46 4 w0_46_2) 46 3 (Int32.ofInt 0)) 46 2 z129) 46 3 (Int32.ofInt 4)) 46 5 z19).2.2.1 46 4 := sF_ne rfl (sF_ne rfl (sF_ne rfl (sF_ne rfl (sF_get)))); have b1 : z129 = (sF (sF (sF (sF (sF sc0 46 4 w0_46_2) 46 3 (Int32.ofInt 0)) 46 2 z129) 46 3 (Int32.ofInt 4)) 46 5 z19).2.2.1 46 2 := sF_ne rfl (sF_ne rfl (sF_get)); rw [← b0, ← b1]; exact n181e
                                have n181g : (u_46_2).toInt ≤ (w0_46_2).toInt := by first | exact n0_1 | (have a0 := oa8 h2 h1 i109x5 i109x5a ((in_c 0 rfl)) i142 ((in_c 4 rfl)) i129; have a8 := t_add e129 i109x5a (in_c 1 rfl) rfl; have a9 := in_u ((in_c 1 rfl)); have oc := oc_171_46; omega)
                                have n181h : (s.2.2.1 46 2).toInt ≤ ((sF (sF (sF (sF (sF sc0 46 4 w0_46_2) 46 3 (Int32.ofInt 0)) 46 2 z129) 46 3 (Int32.ofInt 4)) 46 5 z19).2.2.1 46 4).toInt := by have b0 : w0_46_2 = (sF (sF (sF (sF (sF sc0 46 4 w0_46_2) 46 3 (Int32.ofInt 0)) 46 2 z129) 46 3 (Int32.ofInt 4)) 46 5 z19).2.2.1 46 4 := sF_ne rfl (sF_ne rfl (sF_ne rfl (sF_ne rfl (sF_get)))); rw [← b0, ← e_46_2]; exact n181g
                                exact g_return (gd rfl) rfl (hP _ _ ⟨(sF (sF (sF (sF (sF sc0 46 4 w0_46_2) 46 3 (Int32.ofInt 0)) 46 2 z129) 46 3 (Int32.ofInt 4)) 46 5 z19), hI178, (fr_sF rfl (fr_sF rfl (fr_sF rfl (fr_sF rfl (fr_sF rfl hFc0))))), n181d, n181f, n181h, rfl, rfl, n181, n181a, n181b⟩)
                              · skip
                                exact zn_ne c165 (in_c 0 rfl) rfl
                            · skip
                              exact zn_eq c162x7 h2 rfl
                        · skip
                          have i142 := r_le1 97 122 c142 i136 (in_c 122 rfl) rfl
                          refine g_aload_n 146 (gd rfl) rfl rfl ?_
                          refine g_iconst 1 147 (gd rfl) rfl rfl ?_
                          refine g_putI 150 (gd rfl) rfl rfl rfl rfl ?_
                          have hI147 := inv_sF (q := 46) (j := 3) hI130 rfl (in_w 0 5 (in_c 1 rfl) rfl)
                          refine g_aload_n 151 (gd rfl) rfl rfl ?_
                          refine g_iload_n 152 (gd rfl) rfl rfl ?_
                          refine g_bipush 97 154 (gd rfl) rfl rfl ?_
                          refine g_isub 155 (gd rfl) rfl (fun z154 e154 => ?_)
                          have i154 := in_sub 0 25 e154 i142 (in_c 97 rfl) rfl rfl
                          refine g_putI 158 (gd rfl) rfl rfl rfl rfl ?_
                          have hI155 := inv_sF (q := 46) (j := 5) hI147 rfl (in_w (-2147483648) 2147483647 i154 rfl)
                          have n158 : (x1).toInt = 6 → TK (sF (sF (sF (sF (sF sc0 46 4 w0_46_2) 46 3 (Int32.ofInt 0)) 46 2 z129) 46 3 (Int32.ofInt 1)) 46 5 z154) := by intro h6; exfalso; have a0 := oa7 h2 h1 i109x5 i109x5a ((in_c 0 rfl)) i142 i154; have a7 := t_sub e154 i142 (in_c 97 rfl) rfl; have a8 := oa3 ((in_c 97 rfl)) ((in_c 1 rfl)) i129; have a11 := t_add e129 i109x5a (in_c 1 rfl) rfl; have oc := oc_171_46; omega
                          have n158a : ((sF (sF (sF (sF (sF sc0 46 4 w0_46_2) 46 3 (Int32.ofInt 0)) 46 2 z129) 46 3 (Int32.ofInt 1)) 46 5 z154).2.2.1 46 3).toInt = 1 → In ((sF (sF (sF (sF (sF sc0 46 4 w0_46_2) 46 3 (Int32.ofInt 0)) 46 2 z129) 46 3 (Int32.ofInt 1)) 46 5 z154).2.2.1 46 5) 0 25 := by intro _; rw [← (show z154 = (sF (sF (sF (sF (sF sc0 46 4 w0_46_2) 46 3 (Int32.ofInt 0)) 46 2 z129) 46 3 (Int32.ofInt 1)) 46 5 z154).2.2.1 46 5 from sF_get)]; exact ⟨by have a0 := oa7 h2 h1 i109x5 i109x5a ((in_c 0 rfl)) i142 i154; have a7 := t_sub e154 i142 (in_c 97 rfl) rfl; have a8 := oa3 ((in_c 97 rfl)) ((in_c 1 rfl)) i129; have a11 := t_add e129 i109x5a (in_c 1 rfl) rfl; have oc := oc_171_46; omega, by have a0 := oa7 h2 h1 i109x5 i109x5a ((in_c 0 rfl)) i142 i154; have a7 := t_sub e154 i142 (in_c 97 rfl) rfl; have a8 := oa3 ((in_c 97 rfl)) ((in_c 1 rfl)) i129; have a11 := t_add e129 i109x5a (in_c 1 rfl) rfl; have oc := oc_171_46; omega⟩
                          have n158b : TKN (s.1 47) (s.2.2.1 46 1).toInt.toNat (s.2.2.1 46 2).toInt.toNat ((sF (sF (sF (sF (sF sc0 46 4 w0_46_2) 46 3 (Int32.ofInt 0)) 46 2 z129) 46 3 (Int32.ofInt 1)) 46 5 z154).2.2.1 46 4).toInt.toNat ((sF (sF (sF (sF (sF sc0 46 4 w0_46_2) 46 3 (Int32.ofInt 0)) 46 2 z129) 46 3 (Int32.ofInt 1)) 46 5 z154).2.2.1 46 2).toInt.toNat ((sF (sF (sF (sF (sF sc0 46 4 w0_46_2) 46 3 (Int32.ofInt 0)) 46 2 z129) 46 3 (Int32.ofInt 1)) 46 5 z154).2.2.1 46 3).toInt ((sF (sF (sF (sF (sF sc0 46 4 w0_46_2) 46 3 (Int32.ofInt 0)) 46 2 z129) 46 3 (Int32.ofInt 1)) 46 5 z154).2.2.1 46 5).toInt := by have hT0 : s.1 47 w0_46_2.toInt.toNat = z19 := (by rw [e19, hFc0.1 47 rfl]; rfl); have hS : tkS (s.1 47) (u_46_1).toInt.toNat (u_46_2).toInt.toNat w0_46_2.toInt.toNat := ⟨by have a0 := oa7 h2 h1 i109x5 i109x5a ((in_c 0 rfl)) i142 i154; have a7 := t_sub e154 i142 (in_c 97 rfl) rfl; have a8 := oa3 ((in_c 97 rfl)) ((in_c 1 rfl)) i129; have a11 := t_add e129 i109x5a (in_c 1 rfl) rfl; have oc := oc_171_46; omega, by have a0 := oa7 h2 h1 i109x5 i109x5a ((in_c 0 rfl)) i142 i154; have a7 := t_sub e154 i142 (in_c 97 rfl) rfl; have a8 := oa3 ((in_c 97 rfl)) ((in_c 1 rfl)) i129; have a11 := t_add e129 i109x5a (in_c 1 rfl) rfl; have oc := oc_171_46; omega, fun i a b => g0_0 i (by rw [← e_46_2]; exact a) (by have a0 := oa7 h2 h1 i109x5 i109x5a ((in_c 0 rfl)) i142 i154; have a7 := t_sub e154 i142 (in_c 97 rfl) rfl; have a8 := oa3 ((in_c 97 rfl)) ((in_c 1 rfl)) i129; have a11 := t_add e129 i109x5a (in_c 1 rfl) rfl; have oc := oc_171_46; omega), fun _ => by rw [hT0]; have a0 := oa7 h2 h1 i109x5 i109x5a ((in_c 0 rfl)) i142 i154; have a7 := t_sub e154 i142 (in_c 97 rfl) rfl; have a8 := oa3 ((in_c 97 rfl)) ((in_c 1 rfl)) i129; have a11 := t_add e129 i109x5a (in_c 1 rfl) rfl; have oc := oc_171_46; omega⟩; rw [← (show z129 = (sF (sF (sF (sF (sF sc0 46 4 w0_46_2) 46 3 (Int32.ofInt 0)) 46 2 z129) 46 3 (Int32.ofInt 1)) 46 5 z154).2.2.1 46 2 from sF_ne rfl (sF_ne rfl (sF_get))), ← (show w0_46_2 = (sF (sF (sF (sF (sF sc0 46 4 w0_46_2) 46 3 (Int32.ofInt 0)) 46 2 z129) 46 3 (Int32.ofInt 1)) 46 5 z154).2.2.1 46 4 from sF_ne rfl (sF_ne rfl (sF_ne rfl (sF_ne rfl (sF_get))))), ← (show (Int32.ofInt 1) = (sF (sF (sF (sF (sF sc0 46 4 w0_46_2) 46 3 (Int32.ofInt 0)) 46 2 z129) 46 3 (Int32.ofInt 1)) 46 5 z154).2.2.1 46 3 from sF_ne rfl (sF_get)), ← (show z154 = (sF (sF (sF (sF (sF sc0 46 4 w0_46_2) 46 3 (Int32.ofInt 0)) 46 2 z129) 46 3 (Int32.ofInt 1)) 46 5 z154).2.2.1 46 5 from sF_get), ← e_46_1, ← e_46_2]; exact tkn_1 hS (by have a0 := oa7 h2 h1 i109x5 i109x5a ((in_c 0 rfl)) i142 i154; have a7 := t_sub e154 i142 (in_c 97 rfl) rfl; have a8 := oa3 ((in_c 97 rfl)) ((in_c 1 rfl)) i129; have a11 := t_add e129 i109x5a (in_c 1 rfl) rfl; have oc := oc_171_46; omega) (by rw [hT0]; exact ⟨by have a0 := oa7 h2 h1 i109x5 i109x5a ((in_c 0 rfl)) i142 i154; have a7 := t_sub e154 i142 (in_c 97 rfl) rfl; have a8 := oa3 ((in_c 97 rfl)) ((in_c 1 rfl)) i129; have a11 := t_add e129 i109x5a (in_c 1 rfl) rfl; have oc := oc_171_46; omega, by have a0 := oa7 h2 h1 i109x5 i109x5a ((in_c 0 rfl)) i142 i154; have a7 := t_sub e154 i142 (in_c 97 rfl) rfl; have a8 := oa3 ((in_c 97 rfl)) ((in_c 1 rfl)) i129; have a11 := t_add e129 i109x5a (in_c 1 rfl) rfl; have oc := oc_171_46; omega⟩) (by have a0 := oa7 h2 h1 i109x5 i109x5a ((in_c 0 rfl)) i142 i154; have a7 := t_sub e154 i142 (in_c 97 rfl) rfl; have a8 := oa3 ((in_c 97 rfl)) ((in_c 1 rfl)) i129; have a11 := t_add e129 i109x5a (in_c 1 rfl) rfl; have oc := oc_171_46; omega) (by decide) (by rw [hT0]; have a0 := oa7 h2 h1 i109x5 i109x5a ((in_c 0 rfl)) i142 i154; have a7 := t_sub e154 i142 (in_c 97 rfl) rfl; have a8 := oa3 ((in_c 97 rfl)) ((in_c 1 rfl)) i129; have a11 := t_add e129 i109x5a (in_c 1 rfl) rfl; have oc := oc_171_46; omega)
                          have n158c : (z129).toInt ≤ (u_46_1).toInt := by have a0 := oa7 h2 h1 i109x5 i109x5a ((in_c 0 rfl)) i142 i154; have a7 := t_sub e154 i142 (in_c 97 rfl) rfl; have a8 := oa3 ((in_c 97 rfl)) ((in_c 1 rfl)) i129; have a11 := t_add e129 i109x5a (in_c 1 rfl) rfl; have oc := oc_171_46; omega
                          have n158d : ((sF (sF (sF (sF (sF sc0 46 4 w0_46_2) 46 3 (Int32.ofInt 0)) 46 2 z129) 46 3 (Int32.ofInt 1)) 46 5 z154).2.2.1 46 2).toInt ≤ ((sF (sF (sF (sF (sF sc0 46 4 w0_46_2) 46 3 (Int32.ofInt 0)) 46 2 z129) 46 3 (Int32.ofInt 1)) 46 5 z154).2.2.1 46 1).toInt := by have b0 : z129 = (sF (sF (sF (sF (sF sc0 46 4 w0_46_2) 46 3 (Int32.ofInt 0)) 46 2 z129) 46 3 (Int32.ofInt 1)) 46 5 z154).2.2.1 46 2 := sF_ne rfl (sF_ne rfl (sF_get)); have b1 : u_46_1 = (sF (sF (sF (sF (sF sc0 46 4 w0_46_2) 46 3 (Int32.ofInt 0)) 46 2 z129) 46 3 (Int32.ofInt 1)) 46 5 z154).2.2.1 46 1 := sF_ne rfl (sF_ne rfl (sF_ne rfl (sF_ne rfl (sF_ne rfl (fr_F e_46_1 hFc0 rfl))))); rw [← b0, ← b1]; exact n158c
                          have n158e : (w0_46_2).toInt ≤ (z129).toInt := by have a0 := oa7 h2 h1 i109x5 i109x5a ((in_c 0 rfl)) i142 i154; have a7 := t_sub e154 i142 (in_c 97 rfl) rfl; have a8 := oa3 ((in_c 97 rfl)) ((in_c 1 rfl)) i129; have a11 := t_add e129 i109x5a (in_c 1 rfl) rfl; have oc := oc_171_46; omega
                          have n158f : ((sF (sF (sF (sF (sF sc0 46 4 w0_46_2) 46 3 (Int32.ofInt 0)) 46 2 z129) 46 3 (Int32.ofInt 1)) 46 5 z154).2.2.1 46 4).toInt ≤ ((sF (sF (sF (sF (sF sc0 46 4 w0_46_2) 46 3 (Int32.ofInt 0)) 46 2 z129) 46 3 (Int32.ofInt 1)) 46 5 z154).2.2.1 46 2).toInt := by have b0 : w0_46_2 = (sF (sF (sF (sF (sF sc0 46 4 w0_46_2) 46 3 (Int32.ofInt 0)) 46 2 z129) 46 3 (Int32.ofInt 1)) 46 5 z154).2.2.1 46 4 := sF_ne rfl (sF_ne rfl (sF_ne rfl (sF_ne rfl (sF_get)))); have b1 : z129 = (sF (sF (sF (sF (sF sc0 46 4 w0_46_2) 46 3 (Int32.ofInt 0)) 46 2 z129) 46 3 (Int32.ofInt 1)) 46 5 z154).2.2.1 46 2 := sF_ne rfl (sF_ne rfl (sF_get)); rw [← b0, ← b1]; exact n158e
                          have n158g : (u_46_2).toInt ≤ (w0_46_2).toInt := by first | exact n0_1 | (have a0 := oa7 h2 h1 i109x5 i109x5a ((in_c 0 rfl)) i142 i154; have a7 := t_sub e154 i142 (in_c 97 rfl) rfl; have a8 := oa3 ((in_c 97 rfl)) ((in_c 1 rfl)) i129; have a11 := t_add e129 i109x5a (in_c 1 rfl) rfl; have oc := oc_171_46; omega)
                          have n158h : (s.2.2.1 46 2).toInt ≤ ((sF (sF (sF (sF (sF sc0 46 4 w0_46_2) 46 3 (Int32.ofInt 0)) 46 2 z129) 46 3 (Int32.ofInt 1)) 46 5 z154).2.2.1 46 4).toInt := by have b0 : w0_46_2 = (sF (sF (sF (sF (sF sc0 46 4 w0_46_2) 46 3 (Int32.ofInt 0)) 46 2 z129) 46 3 (Int32.ofInt 1)) 46 5 z154).2.2.1 46 4 := sF_ne rfl (sF_ne rfl (sF_ne rfl (sF_ne rfl (sF_get)))); rw [← b0, ← e_46_2]; exact n158g
                          exact g_return (gd rfl) rfl (hP _ _ ⟨(sF (sF (sF (sF (sF sc0 46 4 w0_46_2) 46 3 (Int32.ofInt 0)) 46 2 z129) 46 3 (Int32.ofInt 1)) 46 5 z154), hI155, (fr_sF rfl (fr_sF rfl (fr_sF rfl (fr_sF rfl (fr_sF rfl hFc0))))), n158d, n158f, n158h, rfl, rfl, n158, n158a, n158b⟩)
                    · skip
                      exact zn_ne c112 (in_c 0 rfl) rfl
                  · skip
                    refine g_aload_n 9 (gd rfl) rfl rfl ?_
                    refine g_getA (q2 := 47) 12 (gd rfl) rfl rfl rfl rfl ?_
                    refine g_iload_n 13 (gd rfl) rfl rfl ?_
                    refine g_caload 14 (gd rfl) rfl (n := 1000) rfl (in_ix i8 rfl) (fun z109x13 e109x13 => ?_)
                    have q109x13 : z19 = z109x13 := (sF_I (sF_I (e19))).trans e109x13.symm
                    subst q109x13
                    refine g_bipush 48 16 (gd rfl) rfl rfl ?_
                    refine g_cmp_lt 19 34 (gd rfl) rfl rfl (fun c109x16 => ?_) (fun c109x16 => ?_)
                    · skip
                      have i109x16 := r_lt1 0 47 c109x16 i19 (in_c 48 rfl) rfl
                      refine g_iconst 0 35 (gd rfl) rfl rfl ?_
                      refine g_ireturn (gd rfl) rfl (nb01 (in_w 0 1 (in_c 0 rfl) rfl)) (hp109 _ _ ?_)
                      show GG _ _ _ _ _ _ _ _ [.int (Int32.ofInt 0)] _ _ _
                      refine g_if_eq 115 123 (gd rfl) rfl rfl (fun c112 => ?_) (fun c112 => ?_)
                      · skip
                        refine g_aload_n 124 (gd rfl) rfl rfl ?_
                        refine g_dup 125 (gd rfl) rfl rfl ?_
                        refine g_getI 128 (gd rfl) rfl rfl rfl (fun z125 e125 => ?_)
                        have q125 : w0_46_2 = z125 := (sF_ne rfl (sF_ne rfl (v0_46_2))).trans e125.symm
                        subst q125
                        refine g_iconst 1 129 (gd rfl) rfl rfl ?_
                        refine g_iadd 130 (gd rfl) rfl (fun z129 e129 => ?_)
                        have i129 := in_add 1 1000 e129 i8 (in_c 1 rfl) rfl rfl
                        refine g_putI 133 (gd rfl) rfl rfl rfl rfl ?_
                        have hI130 := inv_sF (q := 46) (j := 2) hI48 rfl (in_w 0 1000 i129 rfl)
                        refine g_iload_n 134 (gd rfl) rfl rfl ?_
                        refine g_bipush 97 136 (gd rfl) rfl rfl ?_
                        refine g_cmp_lt 139 159 (gd rfl) rfl rfl (fun c136 => ?_) (fun c136 => ?_)
                        · skip
                          refine g_aload_n 160 (gd rfl) rfl rfl ?_
                          refine g_iload_n 161 (gd rfl) rfl rfl ?_
                          refine g_iload_n 162 (gd rfl) rfl rfl ?_
                          refine g_calls (As := [.int z19, .int x2]) (r := [.ref (A 46)]) 165 (gd rfl) rfl rfl rfl rfl rfl (Nat.le_of_ble_eq_true rfl) (mc := 0) (ms := 0) (Nat.zero_le _) (Nat.zero_le _) (P := fun v u => _) ?_ (fun v u h => h)
                          intro po162 xx162 hp162 hx162
                          refine g_enter2 (k := 174) (N := 300) (by first | exact dq1 hd rfl | exact dq0 hd rfl | exact dq2 hd rfl | exact dq3 hd rfl | omega) rfl (Nat.le_of_ble_eq_true rfl) ?_
                          refine g_iload_n 1 (gd rfl) rfl rfl ?_
                          refine g_bipush 59 3 (gd rfl) rfl rfl ?_
                          refine g_cmp_eq 6 19 (gd rfl) rfl rfl (fun c162x3 => ?_) (fun c162x3 => ?_)
                          · skip
                            exact n_eq c162x3 i109x16 (in_c 59 rfl) rfl
                          · skip
                            refine g_iload_n 7 (gd rfl) rfl rfl ?_
                            refine g_if_ne 10 23 (gd rfl) rfl rfl (fun c162x7 => ?_) (fun c162x7 => ?_)
                            · skip
                              refine g_iconst 0 24 (gd rfl) rfl rfl ?_
                              refine g_ireturn (gd rfl) rfl (nb01 (in_w 0 1 (in_c 0 rfl) rfl)) (hp162 _ _ ?_)
                              show GG _ _ _ _ _ _ _ _ [.int (Int32.ofInt 0), .ref (A 46)] _ _ _
                              refine g_if_eq 168 172 (gd rfl) rfl rfl (fun c165 => ?_) (fun c165 => ?_)
                              · skip
                                refine g_iconst 4 173 (gd rfl) rfl rfl ?_
                                refine g_putI 176 (gd rfl) rfl rfl rfl rfl ?_
                                have hI173 := inv_sF (q := 46) (j := 3) hI130 rfl (in_w 0 5 (in_c 4 rfl) rfl)
                                refine g_aload_n 177 (gd rfl) rfl rfl ?_
                                refine g_iload_n 178 (gd rfl) rfl rfl ?_
                                refine g_putI 181 (gd rfl) rfl rfl rfl rfl ?_
                                have hI178 := inv_sF (q := 46) (j := 5) hI173 rfl (in_w (-2147483648) 2147483647 i109x16 rfl)
                                have n181 : (x1).toInt = 6 → TK (sF (sF (sF (sF (sF sc0 46 4 w0_46_2) 46 3 (Int32.ofInt 0)) 46 2 z129) 46 3 (Int32.ofInt 4)) 46 5 z19) := by intro h6; exfalso; have a0 := oa8 h2 h1 i8a i8 ((in_c 0 rfl)) i109x16 ((in_c 4 rfl)) i129; have a8 := t_add e129 i8 (in_c 1 rfl) rfl; have a9 := in_u ((in_c 1 rfl)); have oc := oc_171_46; omega
                                have n181a : ((sF (sF (sF (sF (sF sc0 46 4 w0_46_2) 46 3 (Int32.ofInt 0)) 46 2 z129) 46 3 (Int32.ofInt 4)) 46 5 z19).2.2.1 46 3).toInt = 1 → In ((sF (sF (sF (sF (sF sc0 46 4 w0_46_2) 46 3 (Int32.ofInt 0)) 46 2 z129) 46 3 (Int32.ofInt 4)) 46 5 z19).2.2.1 46 5) 0 25 := by intro h1; rw [← (show (Int32.ofInt 4) = (sF (sF (sF (sF (sF sc0 46 4 w0_46_2) 46 3 (Int32.ofInt 0)) 46 2 z129) 46 3 (Int32.ofInt 4)) 46 5 z19).2.2.1 46 3 from sF_ne rfl (sF_get))] at h1; exact absurd h1 (by decide)
                                have n181b : TKN (s.1 47) (s.2.2.1 46 1).toInt.toNat (s.2.2.1 46 2).toInt.toNat ((sF (sF (sF (sF (sF sc0 46 4 w0_46_2) 46 3 (Int32.ofInt 0)) 46 2 z129) 46 3 (Int32.ofInt 4)) 46 5 z19).2.2.1 46 4).toInt.toNat ((sF (sF (sF (sF (sF sc0 46 4 w0_46_2) 46 3 (Int32.ofInt 0)) 46 2 z129) 46 3 (Int32.ofInt 4)) 46 5 z19).2.2.1 46 2).toInt.toNat ((sF (sF (sF (sF (sF sc0 46 4 w0_46_2) 46 3 (Int32.ofInt 0)) 46 2 z129) 46 3 (Int32.ofInt 4)) 46 5 z19).2.2.1 46 3).toInt ((sF (sF (sF (sF (sF sc0 46 4 w0_46_2) 46 3 (Int32.ofInt 0)) 46 2 z129) 46 3 (Int32.ofInt 4)) 46 5 z19).2.2.1 46 5).toInt := by have hT0 : s.1 47 w0_46_2.toInt.toNat = z19 := (by rw [e19, hFc0.1 47 rfl]; rfl); have hS : tkS (s.1 47) (u_46_1).toInt.toNat (u_46_2).toInt.toNat w0_46_2.toInt.toNat := ⟨by have a0 := oa8 h2 h1 i8a i8 ((in_c 0 rfl)) i109x16 ((in_c 4 rfl)) i129; have a8 := t_add e129 i8 (in_c 1 rfl) rfl; have a9 := in_u ((in_c 1 rfl)); have oc := oc_171_46; omega, by have a0 := oa8 h2 h1 i8a i8 ((in_c 0 rfl)) i109x16 ((in_c 4 rfl)) i129; have a8 := t_add e129 i8 (in_c 1 rfl) rfl; have a9 := in_u ((in_c 1 rfl)); have oc := oc_171_46; omega, fun i a b => g0_0 i (by rw [← e_46_2]; exact a) (by have a0 := oa8 h2 h1 i8a i8 ((in_c 0 rfl)) i109x16 ((in_c 4 rfl)) i129; have a8 := t_add e129 i8 (in_c 1 rfl) rfl; have a9 := in_u ((in_c 1 rfl)); have oc := oc_171_46; omega), fun _ => by rw [hT0]; have a0 := oa8 h2 h1 i8a i8 ((in_c 0 rfl)) i109x16 ((in_c 4 rfl)) i129; have a8 := t_add e129 i8 (in_c 1 rfl) rfl; have a9 := in_u ((in_c 1 rfl)); have oc := oc_171_46; omega⟩; rw [← (show z129 = (sF (sF (sF (sF (sF sc0 46 4 w0_46_2) 46 3 (Int32.ofInt 0)) 46 2 z129) 46 3 (Int32.ofInt 4)) 46 5 z19).2.2.1 46 2 from sF_ne rfl (sF_ne rfl (sF_get))), ← (show w0_46_2 = (sF (sF (sF (sF (sF sc0 46 4 w0_46_2) 46 3 (Int32.ofInt 0)) 46 2 z129) 46 3 (Int32.ofInt 4)) 46 5 z19).2.2.1 46 4 from sF_ne rfl (sF_ne rfl (sF_ne rfl (sF_ne rfl (sF_get))))), ← (show (Int32.ofInt 4) = (sF (sF (sF (sF (sF sc0 46 4 w0_46_2) 46 3 (Int32.ofInt 0)) 46 2 z129) 46 3 (Int32.ofInt 4)) 46 5 z19).2.2.1 46 3 from sF_ne rfl (sF_get)), ← (show z19 = (sF (sF (sF (sF (sF sc0 46 4 w0_46_2) 46 3 (Int32.ofInt 0)) 46 2 z129) 46 3 (Int32.ofInt 4)) 46 5 z19).2.2.1 46 5 from sF_get), ← e_46_1, ← e_46_2]; first | exact tkn_3 hS (by have a0 := oa8 h2 h1 i8a i8 ((in_c 0 rfl)) i109x16 ((in_c 4 rfl)) i129; have a8 := t_add e129 i8 (in_c 1 rfl) rfl; have a9 := in_u ((in_c 1 rfl)); have oc := oc_171_46; omega) (by rw [hT0]; have a0 := oa8 h2 h1 i8a i8 ((in_c 0 rfl)) i109x16 ((in_c 4 rfl)) i129; have a8 := t_add e129 i8 (in_c 1 rfl) rfl; have a9 := in_u ((in_c 1 rfl)); have oc := oc_171_46; omega) (by have a0 := oa8 h2 h1 i8a i8 ((in_c 0 rfl)) i109x16 ((in_c 4 rfl)) i129; have a8 := t_add e129 i8 (in_c 1 rfl) rfl; have a9 := in_u ((in_c 1 rfl)); have oc := oc_171_46; omega) (by decide) (by have a0 := oa8 h2 h1 i8a i8 ((in_c 0 rfl)) i109x16 ((in_c 4 rfl)) i129; have a8 := t_add e129 i8 (in_c 1 rfl) rfl; have a9 := in_u ((in_c 1 rfl)); have oc := oc_171_46; omega) | exact tkn_4 hS (by have a0 := oa8 h2 h1 i8a i8 ((in_c 0 rfl)) i109x16 ((in_c 4 rfl)) i129; have a8 := t_add e129 i8 (in_c 1 rfl) rfl; have a9 := in_u ((in_c 1 rfl)); have oc := oc_171_46; omega) (by rw [hT0]; unfold tkL; have a0 := oa8 h2 h1 i8a i8 ((in_c 0 rfl)) i109x16 ((in_c 4 rfl)) i129; have a8 := t_add e129 i8 (in_c 1 rfl) rfl; have a9 := in_u ((in_c 1 rfl)); have oc := oc_171_46; omega) (by rw [hT0]; have a0 := oa8 h2 h1 i8a i8 ((in_c 0 rfl)) i109x16 ((in_c 4 rfl)) i129; have a8 := t_add e129 i8 (in_c 1 rfl) rfl; have a9 := in_u ((in_c 1 rfl)); have oc := oc_171_46; omega) (by first | exact nq_1 (by rw [hT0]; unfold tkD; have a0 := oa8 h2 h1 i8a i8 ((in_c 0 rfl)) i109x16 ((in_c 4 rfl)) i129; have a8 := t_add e129 i8 (in_c 1 rfl) rfl; have a9 := in_u ((in_c 1 rfl)); have oc := oc_171_46; omega) (by rw [hT0]; have a0 := oa8 h2 h1 i8a i8 ((in_c 0 rfl)) i109x16 ((in_c 4 rfl)) i129; have a8 := t_add e129 i8 (in_c 1 rfl) rfl; have a9 := in_u ((in_c 1 rfl)); have oc := oc_171_46; omega) | exact nq_2 (by rw [hT0]; have a0 := oa8 h2 h1 i8a i8 ((in_c 0 rfl)) i109x16 ((in_c 4 rfl)) i129; have a8 := t_add e129 i8 (in_c 1 rfl) rfl; have a9 := in_u ((in_c 1 rfl)); have oc := oc_171_46; omega) (fun h => by first | (exfalso; have a0 := oa8 h2 h1 i8a i8 ((in_c 0 rfl)) i109x16 ((in_c 4 rfl)) i129; have a8 := t_add e129 i8 (in_c 1 rfl) rfl; have a9 := in_u ((in_c 1 rfl)); have oc := oc_171_46; omega) | (rw [show s.1 47 (w0_46_2.toInt.toNat + 1) = z109x13 from (by rw [e109x13, show z101.toNatClampNeg = w0_46_2.toInt.toNat + 1 from (by show z101.toInt.toNat = _; have a0 := oa8 h2 h1 i8a i8 ((in_c 0 rfl)) i109x16 ((in_c 4 rfl)) i129; have a8 := t_add e129 i8 (in_c 1 rfl) rfl; have a9 := in_u ((in_c 1 rfl)); have oc := oc_171_46; omega)]; exact congrFun (hFc0.1 47 rfl).symm _)]; unfold tkD; have a0 := oa8 h2 h1 i8a i8 ((in_c 0 rfl)) i109x16 ((in_c 4 rfl)) i129; have a8 := t_add e129 i8 (in_c 1 rfl) rfl; have a9 := in_u ((in_c 1 rfl)); have oc := oc_171_46; omega))) (by have a0 := oa8 h2 h1 i8a i8 ((in_c 0 rfl)) i109x16 ((in_c 4 rfl)) i129; have a8 := t_add e129 i8 (in_c 1 rfl) rfl; have a9 := in_u ((in_c 1 rfl)); have oc := oc_171_46; omega) (by decide)
                                have n181c : (z129).toInt ≤ (u_46_1).toInt := by have a0 := oa8 h2 h1 i8a i8 ((in_c 0 rfl)) i109x16 ((in_c 4 rfl)) i129; have a8 := t_add e129 i8 (in_c 1 rfl) rfl; have a9 := in_u ((in_c 1 rfl)); have oc := oc_171_46; omega
                                have n181d : ((sF (sF (sF (sF (sF sc0 46 4 w0_46_2) 46 3 (Int32.ofInt 0)) 46 2 z129) 46 3 (Int32.ofInt 4)) 46 5 z19).2.2.1 46 2).toInt ≤ ((sF (sF (sF (sF (sF sc0 46 4 w0_46_2) 46 3 (Int32.ofInt 0)) 46 2 z129) 46 3 (Int32.ofInt 4)) 46 5 z19).2.2.1 46 1).toInt := by have b0 : z129 = (sF (sF (sF (sF (sF sc0 46 4 w0_46_2) 46 3 (Int32.ofInt 0)) 46 2 z129) 46 3 (Int32.ofInt 4)) 46 5 z19).2.2.1 46 2 := sF_ne rfl (sF_ne rfl (sF_get)); have b1 : u_46_1 = (sF (sF (sF (sF (sF sc0 46 4 w0_46_2) 46 3 (Int32.ofInt 0)) 46 2 z129) 46 3 (Int32.ofInt 4)) 46 5 z19).2.2.1 46 1 := sF_ne rfl (sF_ne rfl (sF_ne rfl (sF_ne rfl (sF_ne rfl (fr_F e_46_1 hFc0 rfl))))); rw [← b0, ← b1]; exact n181c
                                have n181e : (w0_46_2).toInt ≤ (z129).toInt := by have a0 := oa8 h2 h1 i8a i8 ((in_c 0 rfl)) i109x16 ((in_c 4 rfl)) i129; have a8 := t_add e129 i8 (in_c 1 rfl) rfl; have a9 := in_u ((in_c 1 rfl)); have oc := oc_171_46; omega
                                have n181f : ((sF (sF (sF (sF (sF sc0 46 4 w0_46_2) 46 3 (Int32.ofInt 0)) 46 2 z129) 46 3 (Int32.ofInt 4)) 46 5 z19).2.2.1 46 4).toInt ≤ ((sF (sF (sF (sF (sF sc0 46 4 w0_46_2) 46 3 (Int32.ofInt 0)) 46 2 z129) 46 3 (Int32.ofInt 4)) 46 5 z19).2.2.1 46 2).toInt := by have b0 : w0_46_2 = (sF (sF (sF (sF (sF sc0 46 4 w0_46_2) 46 3 (Int32.ofInt 0)) 46 2 z129) 46 3 (Int32.ofInt 4)) 46 5 z19).2.2.1 46 4 := sF_ne rfl (sF_ne rfl (sF_ne rfl (sF_ne rfl (sF_get)))); have b1 : z129 = (sF (sF (sF (sF (sF sc0 46 4 w0_46_2) 46 3 (Int32.ofInt 0)) 46 2 z129) 46 3 (Int32.ofInt 4)) 46 5 z19).2.2.1 46 2 := sF_ne rfl (sF_ne rfl (sF_get)); rw [← b0, ← b1]; exact n181e
                                have n181g : (u_46_2).toInt ≤ (w0_46_2).toInt := by first | exact n0_1 | (have a0 := oa8 h2 h1 i8a i8 ((in_c 0 rfl)) i109x16 ((in_c 4 rfl)) i129; have a8 := t_add e129 i8 (in_c 1 rfl) rfl; have a9 := in_u ((in_c 1 rfl)); have oc := oc_171_46; omega)
                                have n181h : (s.2.2.1 46 2).toInt ≤ ((sF (sF (sF (sF (sF sc0 46 4 w0_46_2) 46 3 (Int32.ofInt 0)) 46 2 z129) 46 3 (Int32.ofInt 4)) 46 5 z19).2.2.1 46 4).toInt := by have b0 : w0_46_2 = (sF (sF (sF (sF (sF sc0 46 4 w0_46_2) 46 3 (Int32.ofInt 0)) 46 2 z129) 46 3 (Int32.ofInt 4)) 46 5 z19).2.2.1 46 4 := sF_ne rfl (sF_ne rfl (sF_ne rfl (sF_ne rfl (sF_get)))); rw [← b0, ← e_46_2]; exact n181g
                                exact g_return (gd rfl) rfl (hP _ _ ⟨(sF (sF (sF (sF (sF sc0 46 4 w0_46_2) 46 3 (Int32.ofInt 0)) 46 2 z129) 46 3 (Int32.ofInt 4)) 46 5 z19), hI178, (fr_sF rfl (fr_sF rfl (fr_sF rfl (fr_sF rfl (fr_sF rfl hFc0))))), n181d, n181f, n181h, rfl, rfl, n181, n181a, n181b⟩)
                              · skip
                                exact zn_ne c165 (in_c 0 rfl) rfl
                            · skip
                              exact zn_eq c162x7 h2 rfl
                        · skip
                          exact n_le c136 (in_c 97 rfl) i109x16 rfl
                      · skip
                        exact zn_ne c112 (in_c 0 rfl) rfl
                    · skip
                      have i109x16 := r_le2 48 65535 c109x16 (in_c 48 rfl) i19 rfl
                      refine g_aload_n 20 (gd rfl) rfl rfl ?_
                      refine g_getA (q2 := 47) 23 (gd rfl) rfl rfl rfl rfl ?_
                      refine g_iload_n 24 (gd rfl) rfl rfl ?_
                      refine g_caload 25 (gd rfl) rfl (n := 1000) rfl (in_ix i8 rfl) (fun z109x24 e109x24 => ?_)
                      have q109x24 : z19 = z109x24 := (sF_I (sF_I (e19))).trans e109x24.symm
                      subst q109x24
                      refine g_bipush 57 27 (gd rfl) rfl rfl ?_
                      refine g_cmp_gt 30 34 (gd rfl) rfl rfl (fun c109x27 => ?_) (fun c109x27 => ?_)
                      · skip
                        have i109x27 := r_lt2 58 65535 c109x27 (in_c 57 rfl) i109x16 rfl
                        refine g_iconst 0 35 (gd rfl) rfl rfl ?_
                        refine g_ireturn (gd rfl) rfl (nb01 (in_w 0 1 (in_c 0 rfl) rfl)) (hp109 _ _ ?_)
                        show GG _ _ _ _ _ _ _ _ [.int (Int32.ofInt 0)] _ _ _
                        refine g_if_eq 115 123 (gd rfl) rfl rfl (fun c112 => ?_) (fun c112 => ?_)
                        · skip
                          refine g_aload_n 124 (gd rfl) rfl rfl ?_
                          refine g_dup 125 (gd rfl) rfl rfl ?_
                          refine g_getI 128 (gd rfl) rfl rfl rfl (fun z125 e125 => ?_)
                          have q125 : w0_46_2 = z125 := (sF_ne rfl (sF_ne rfl (v0_46_2))).trans e125.symm
                          subst q125
                          refine g_iconst 1 129 (gd rfl) rfl rfl ?_
                          refine g_iadd 130 (gd rfl) rfl (fun z129 e129 => ?_)
                          have i129 := in_add 1 1000 e129 i8 (in_c 1 rfl) rfl rfl
                          refine g_putI 133 (gd rfl) rfl rfl rfl rfl ?_
                          have hI130 := inv_sF (q := 46) (j := 2) hI48 rfl (in_w 0 1000 i129 rfl)
                          refine g_iload_n 134 (gd rfl) rfl rfl ?_
                          refine g_bipush 97 136 (gd rfl) rfl rfl ?_
                          refine g_cmp_lt 139 159 (gd rfl) rfl rfl (fun c136 => ?_) (fun c136 => ?_)
                          · skip
                            have i136 := r_lt1 58 96 c136 i109x27 (in_c 97 rfl) rfl
                            refine g_aload_n 160 (gd rfl) rfl rfl ?_
                            refine g_iload_n 161 (gd rfl) rfl rfl ?_
                            refine g_iload_n 162 (gd rfl) rfl rfl ?_
                            refine g_calls (As := [.int z19, .int x2]) (r := [.ref (A 46)]) 165 (gd rfl) rfl rfl rfl rfl rfl (Nat.le_of_ble_eq_true rfl) (mc := 0) (ms := 0) (Nat.zero_le _) (Nat.zero_le _) (P := fun v u => _) ?_ (fun v u h => h)
                            intro po162 xx162 hp162 hx162
                            refine g_enter2 (k := 174) (N := 300) (by first | exact dq1 hd rfl | exact dq0 hd rfl | exact dq2 hd rfl | exact dq3 hd rfl | omega) rfl (Nat.le_of_ble_eq_true rfl) ?_
                            refine g_iload_n 1 (gd rfl) rfl rfl ?_
                            refine g_bipush 59 3 (gd rfl) rfl rfl ?_
                            refine g_cmp_eq 6 19 (gd rfl) rfl rfl (fun c162x3 => ?_) (fun c162x3 => ?_)
                            · skip
                              have i162x3 := r_eq1 59 59 c162x3 i136 (in_c 59 rfl) rfl
                              refine g_iconst 1 20 (gd rfl) rfl rfl ?_
                              refine g_goto 24 (gd rfl) rfl ?_
                              refine g_ireturn (gd rfl) rfl (nb01 (in_w 0 1 (in_c 1 rfl) rfl)) (hp162 _ _ ?_)
                              show GG _ _ _ _ _ _ _ _ [.int (Int32.ofInt 1), .ref (A 46)] _ _ _
                              refine g_if_eq 168 172 (gd rfl) rfl rfl (fun c165 => ?_) (fun c165 => ?_)
                              · skip
                                exact zn_eq c165 (in_c 1 rfl) rfl
                              · skip
                                refine g_iconst 3 169 (gd rfl) rfl rfl ?_
                                refine g_goto 173 (gd rfl) rfl ?_
                                refine g_putI 176 (gd rfl) rfl rfl rfl rfl ?_
                                have hI173 := inv_sF (q := 46) (j := 3) hI130 rfl (in_w 0 5 (in_c 3 rfl) rfl)
                                refine g_aload_n 177 (gd rfl) rfl rfl ?_
                                refine g_iload_n 178 (gd rfl) rfl rfl ?_
                                refine g_putI 181 (gd rfl) rfl rfl rfl rfl ?_
                                have hI178 := inv_sF (q := 46) (j := 5) hI173 rfl (in_w (-2147483648) 2147483647 i162x3 rfl)
                                have n181 : (x1).toInt = 6 → TK (sF (sF (sF (sF (sF sc0 46 4 w0_46_2) 46 3 (Int32.ofInt 0)) 46 2 z129) 46 3 (Int32.ofInt 3)) 46 5 z19) := by intro h6; exfalso; have a0 := oa8 h2 h1 i8a i8 ((in_c 0 rfl)) i162x3 ((in_c 3 rfl)) i129; have a8 := t_add e129 i8 (in_c 1 rfl) rfl; have a9 := in_u ((in_c 1 rfl)); have oc := oc_171_46; omega
                                have n181a : ((sF (sF (sF (sF (sF sc0 46 4 w0_46_2) 46 3 (Int32.ofInt 0)) 46 2 z129) 46 3 (Int32.ofInt 3)) 46 5 z19).2.2.1 46 3).toInt = 1 → In ((sF (sF (sF (sF (sF sc0 46 4 w0_46_2) 46 3 (Int32.ofInt 0)) 46 2 z129) 46 3 (Int32.ofInt 3)) 46 5 z19).2.2.1 46 5) 0 25 := by intro h1; rw [← (show (Int32.ofInt 3) = (sF (sF (sF (sF (sF sc0 46 4 w0_46_2) 46 3 (Int32.ofInt 0)) 46 2 z129) 46 3 (Int32.ofInt 3)) 46 5 z19).2.2.1 46 3 from sF_ne rfl (sF_get))] at h1; exact absurd h1 (by decide)
                                have n181b : TKN (s.1 47) (s.2.2.1 46 1).toInt.toNat (s.2.2.1 46 2).toInt.toNat ((sF (sF (sF (sF (sF sc0 46 4 w0_46_2) 46 3 (Int32.ofInt 0)) 46 2 z129) 46 3 (Int32.ofInt 3)) 46 5 z19).2.2.1 46 4).toInt.toNat ((sF (sF (sF (sF (sF sc0 46 4 w0_46_2) 46 3 (Int32.ofInt 0)) 46 2 z129) 46 3 (Int32.ofInt 3)) 46 5 z19).2.2.1 46 2).toInt.toNat ((sF (sF (sF (sF (sF sc0 46 4 w0_46_2) 46 3 (Int32.ofInt 0)) 46 2 z129) 46 3 (Int32.ofInt 3)) 46 5 z19).2.2.1 46 3).toInt ((sF (sF (sF (sF (sF sc0 46 4 w0_46_2) 46 3 (Int32.ofInt 0)) 46 2 z129) 46 3 (Int32.ofInt 3)) 46 5 z19).2.2.1 46 5).toInt := by have hT0 : s.1 47 w0_46_2.toInt.toNat = z19 := (by rw [e19, hFc0.1 47 rfl]; rfl); have hS : tkS (s.1 47) (u_46_1).toInt.toNat (u_46_2).toInt.toNat w0_46_2.toInt.toNat := ⟨by have a0 := oa8 h2 h1 i8a i8 ((in_c 0 rfl)) i162x3 ((in_c 3 rfl)) i129; have a8 := t_add e129 i8 (in_c 1 rfl) rfl; have a9 := in_u ((in_c 1 rfl)); have oc := oc_171_46; omega, by have a0 := oa8 h2 h1 i8a i8 ((in_c 0 rfl)) i162x3 ((in_c 3 rfl)) i129; have a8 := t_add e129 i8 (in_c 1 rfl) rfl; have a9 := in_u ((in_c 1 rfl)); have oc := oc_171_46; omega, fun i a b => g0_0 i (by rw [← e_46_2]; exact a) (by have a0 := oa8 h2 h1 i8a i8 ((in_c 0 rfl)) i162x3 ((in_c 3 rfl)) i129; have a8 := t_add e129 i8 (in_c 1 rfl) rfl; have a9 := in_u ((in_c 1 rfl)); have oc := oc_171_46; omega), fun _ => by rw [hT0]; have a0 := oa8 h2 h1 i8a i8 ((in_c 0 rfl)) i162x3 ((in_c 3 rfl)) i129; have a8 := t_add e129 i8 (in_c 1 rfl) rfl; have a9 := in_u ((in_c 1 rfl)); have oc := oc_171_46; omega⟩; rw [← (show z129 = (sF (sF (sF (sF (sF sc0 46 4 w0_46_2) 46 3 (Int32.ofInt 0)) 46 2 z129) 46 3 (Int32.ofInt 3)) 46 5 z19).2.2.1 46 2 from sF_ne rfl (sF_ne rfl (sF_get))), ← (show w0_46_2 = (sF (sF (sF (sF (sF sc0 46 4 w0_46_2) 46 3 (Int32.ofInt 0)) 46 2 z129) 46 3 (Int32.ofInt 3)) 46 5 z19).2.2.1 46 4 from sF_ne rfl (sF_ne rfl (sF_ne rfl (sF_ne rfl (sF_get))))), ← (show (Int32.ofInt 3) = (sF (sF (sF (sF (sF sc0 46 4 w0_46_2) 46 3 (Int32.ofInt 0)) 46 2 z129) 46 3 (Int32.ofInt 3)) 46 5 z19).2.2.1 46 3 from sF_ne rfl (sF_get)), ← (show z19 = (sF (sF (sF (sF (sF sc0 46 4 w0_46_2) 46 3 (Int32.ofInt 0)) 46 2 z129) 46 3 (Int32.ofInt 3)) 46 5 z19).2.2.1 46 5 from sF_get), ← e_46_1, ← e_46_2]; first | exact tkn_3 hS (by have a0 := oa8 h2 h1 i8a i8 ((in_c 0 rfl)) i162x3 ((in_c 3 rfl)) i129; have a8 := t_add e129 i8 (in_c 1 rfl) rfl; have a9 := in_u ((in_c 1 rfl)); have oc := oc_171_46; omega) (by rw [hT0]; have a0 := oa8 h2 h1 i8a i8 ((in_c 0 rfl)) i162x3 ((in_c 3 rfl)) i129; have a8 := t_add e129 i8 (in_c 1 rfl) rfl; have a9 := in_u ((in_c 1 rfl)); have oc := oc_171_46; omega) (by have a0 := oa8 h2 h1 i8a i8 ((in_c 0 rfl)) i162x3 ((in_c 3 rfl)) i129; have a8 := t_add e129 i8 (in_c 1 rfl) rfl; have a9 := in_u ((in_c 1 rfl)); have oc := oc_171_46; omega) (by decide) (by have a0 := oa8 h2 h1 i8a i8 ((in_c 0 rfl)) i162x3 ((in_c 3 rfl)) i129; have a8 := t_add e129 i8 (in_c 1 rfl) rfl; have a9 := in_u ((in_c 1 rfl)); have oc := oc_171_46; omega) | exact tkn_4 hS (by have a0 := oa8 h2 h1 i8a i8 ((in_c 0 rfl)) i162x3 ((in_c 3 rfl)) i129; have a8 := t_add e129 i8 (in_c 1 rfl) rfl; have a9 := in_u ((in_c 1 rfl)); have oc := oc_171_46; omega) (by rw [hT0]; unfold tkL; have a0 := oa8 h2 h1 i8a i8 ((in_c 0 rfl)) i162x3 ((in_c 3 rfl)) i129; have a8 := t_add e129 i8 (in_c 1 rfl) rfl; have a9 := in_u ((in_c 1 rfl)); have oc := oc_171_46; omega) (by rw [hT0]; have a0 := oa8 h2 h1 i8a i8 ((in_c 0 rfl)) i162x3 ((in_c 3 rfl)) i129; have a8 := t_add e129 i8 (in_c 1 rfl) rfl; have a9 := in_u ((in_c 1 rfl)); have oc := oc_171_46; omega) (by first | exact nq_1 (by rw [hT0]; unfold tkD; have a0 := oa8 h2 h1 i8a i8 ((in_c 0 rfl)) i162x3 ((in_c 3 rfl)) i129; have a8 := t_add e129 i8 (in_c 1 rfl) rfl; have a9 := in_u ((in_c 1 rfl)); have oc := oc_171_46; omega) (by rw [hT0]; have a0 := oa8 h2 h1 i8a i8 ((in_c 0 rfl)) i162x3 ((in_c 3 rfl)) i129; have a8 := t_add e129 i8 (in_c 1 rfl) rfl; have a9 := in_u ((in_c 1 rfl)); have oc := oc_171_46; omega) | exact nq_2 (by rw [hT0]; have a0 := oa8 h2 h1 i8a i8 ((in_c 0 rfl)) i162x3 ((in_c 3 rfl)) i129; have a8 := t_add e129 i8 (in_c 1 rfl) rfl; have a9 := in_u ((in_c 1 rfl)); have oc := oc_171_46; omega) (fun h => by first | (exfalso; have a0 := oa8 h2 h1 i8a i8 ((in_c 0 rfl)) i162x3 ((in_c 3 rfl)) i129; have a8 := t_add e129 i8 (in_c 1 rfl) rfl; have a9 := in_u ((in_c 1 rfl)); have oc := oc_171_46; omega) | (rw [show s.1 47 (w0_46_2.toInt.toNat + 1) = z109x13 from (by rw [e109x13, show z101.toNatClampNeg = w0_46_2.toInt.toNat + 1 from (by show z101.toInt.toNat = _; have a0 := oa8 h2 h1 i8a i8 ((in_c 0 rfl)) i162x3 ((in_c 3 rfl)) i129; have a8 := t_add e129 i8 (in_c 1 rfl) rfl; have a9 := in_u ((in_c 1 rfl)); have oc := oc_171_46; omega)]; exact congrFun (hFc0.1 47 rfl).symm _)]; unfold tkD; have a0 := oa8 h2 h1 i8a i8 ((in_c 0 rfl)) i162x3 ((in_c 3 rfl)) i129; have a8 := t_add e129 i8 (in_c 1 rfl) rfl; have a9 := in_u ((in_c 1 rfl)); have oc := oc_171_46; omega))) (by have a0 := oa8 h2 h1 i8a i8 ((in_c 0 rfl)) i162x3 ((in_c 3 rfl)) i129; have a8 := t_add e129 i8 (in_c 1 rfl) rfl; have a9 := in_u ((in_c 1 rfl)); have oc := oc_171_46; omega) (by decide)
                                have n181c : (z129).toInt ≤ (u_46_1).toInt := by have a0 := oa8 h2 h1 i8a i8 ((in_c 0 rfl)) i162x3 ((in_c 3 rfl)) i129; have a8 := t_add e129 i8 (in_c 1 rfl) rfl; have a9 := in_u ((in_c 1 rfl)); have oc := oc_171_46; omega
                                have n181d : ((sF (sF (sF (sF (sF sc0 46 4 w0_46_2) 46 3 (Int32.ofInt 0)) 46 2 z129) 46 3 (Int32.ofInt 3)) 46 5 z19).2.2.1 46 2).toInt ≤ ((sF (sF (sF (sF (sF sc0 46 4 w0_46_2) 46 3 (Int32.ofInt 0)) 46 2 z129) 46 3 (Int32.ofInt 3)) 46 5 z19).2.2.1 46 1).toInt := by have b0 : z129 = (sF (sF (sF (sF (sF sc0 46 4 w0_46_2) 46 3 (Int32.ofInt 0)) 46 2 z129) 46 3 (Int32.ofInt 3)) 46 5 z19).2.2.1 46 2 := sF_ne rfl (sF_ne rfl (sF_get)); have b1 : u_46_1 = (sF (sF (sF (sF (sF sc0 46 4 w0_46_2) 46 3 (Int32.ofInt 0)) 46 2 z129) 46 3 (Int32.ofInt 3)) 46 5 z19).2.2.1 46 1 := sF_ne rfl (sF_ne rfl (sF_ne rfl (sF_ne rfl (sF_ne rfl (fr_F e_46_1 hFc0 rfl))))); rw [← b0, ← b1]; exact n181c
                                have n181e : (w0_46_2).toInt ≤ (z129).toInt := by have a0 := oa8 h2 h1 i8a i8 ((in_c 0 rfl)) i162x3 ((in_c 3 rfl)) i129; have a8 := t_add e129 i8 (in_c 1 rfl) rfl; have a9 := in_u ((in_c 1 rfl)); have oc := oc_171_46; omega
                                have n181f : ((sF (sF (sF (sF (sF sc0 46 4 w0_46_2) 46 3 (Int32.ofInt 0)) 46 2 z129) 46 3 (Int32.ofInt 3)) 46 5 z19).2.2.1 46 4).toInt ≤ ((sF (sF (sF (sF (sF sc0 46 4 w0_46_2) 46 3 (Int32.ofInt 0)) 46 2 z129) 46 3 (Int32.ofInt 3)) 46 5 z19).2.2.1 46 2).toInt := by have b0 : w0_46_2 = (sF (sF (sF (sF (sF sc0 46 4 w0_46_2) 46 3 (Int32.ofInt 0)) 46 2 z129) 46 3 (Int32.ofInt 3)) 46 5 z19).2.2.1 46 4 := sF_ne rfl (sF_ne rfl (sF_ne rfl (sF_ne rfl (sF_get)))); have b1 : z129 = (sF (sF (sF (sF (sF sc0 46 4 w0_46_2) 46 3 (Int32.ofInt 0)) 46 2 z129) 46 3 (Int32.ofInt 3)) 46 5 z19).2.2.1 46 2 := sF_ne rfl (sF_ne rfl (sF_get)); rw [← b0, ← b1]; exact n181e
                                have n181g : (u_46_2).toInt ≤ (w0_46_2).toInt := by first | exact n0_1 | (have a0 := oa8 h2 h1 i8a i8 ((in_c 0 rfl)) i162x3 ((in_c 3 rfl)) i129; have a8 := t_add e129 i8 (in_c 1 rfl) rfl; have a9 := in_u ((in_c 1 rfl)); have oc := oc_171_46; omega)
                                have n181h : (s.2.2.1 46 2).toInt ≤ ((sF (sF (sF (sF (sF sc0 46 4 w0_46_2) 46 3 (Int32.ofInt 0)) 46 2 z129) 46 3 (Int32.ofInt 3)) 46 5 z19).2.2.1 46 4).toInt := by have b0 : w0_46_2 = (sF (sF (sF (sF (sF sc0 46 4 w0_46_2) 46 3 (Int32.ofInt 0)) 46 2 z129) 46 3 (Int32.ofInt 3)) 46 5 z19).2.2.1 46 4 := sF_ne rfl (sF_ne rfl (sF_ne rfl (sF_ne rfl (sF_get)))); rw [← b0, ← e_46_2]; exact n181g
                                exact g_return (gd rfl) rfl (hP _ _ ⟨(sF (sF (sF (sF (sF sc0 46 4 w0_46_2) 46 3 (Int32.ofInt 0)) 46 2 z129) 46 3 (Int32.ofInt 3)) 46 5 z19), hI178, (fr_sF rfl (fr_sF rfl (fr_sF rfl (fr_sF rfl (fr_sF rfl hFc0))))), n181d, n181f, n181h, rfl, rfl, n181, n181a, n181b⟩)
                            · skip
                              refine g_iload_n 7 (gd rfl) rfl rfl ?_
                              refine g_if_ne 10 23 (gd rfl) rfl rfl (fun c162x7 => ?_) (fun c162x7 => ?_)
                              · skip
                                refine g_iconst 0 24 (gd rfl) rfl rfl ?_
                                refine g_ireturn (gd rfl) rfl (nb01 (in_w 0 1 (in_c 0 rfl) rfl)) (hp162 _ _ ?_)
                                show GG _ _ _ _ _ _ _ _ [.int (Int32.ofInt 0), .ref (A 46)] _ _ _
                                refine g_if_eq 168 172 (gd rfl) rfl rfl (fun c165 => ?_) (fun c165 => ?_)
                                · skip
                                  refine g_iconst 4 173 (gd rfl) rfl rfl ?_
                                  refine g_putI 176 (gd rfl) rfl rfl rfl rfl ?_
                                  have hI173 := inv_sF (q := 46) (j := 3) hI130 rfl (in_w 0 5 (in_c 4 rfl) rfl)
                                  refine g_aload_n 177 (gd rfl) rfl rfl ?_
                                  refine g_iload_n 178 (gd rfl) rfl rfl ?_
                                  refine g_putI 181 (gd rfl) rfl rfl rfl rfl ?_
                                  have hI178 := inv_sF (q := 46) (j := 5) hI173 rfl (in_w (-2147483648) 2147483647 i136 rfl)
                                  have n181 : (x1).toInt = 6 → TK (sF (sF (sF (sF (sF sc0 46 4 w0_46_2) 46 3 (Int32.ofInt 0)) 46 2 z129) 46 3 (Int32.ofInt 4)) 46 5 z19) := by intro h6; exfalso; have a0 := oa8 h2 h1 i8a i8 ((in_c 0 rfl)) i136 ((in_c 4 rfl)) i129; have a8 := t_add e129 i8 (in_c 1 rfl) rfl; have a9 := in_u ((in_c 1 rfl)); have oc := oc_171_46; omega
                                  have n181a : ((sF (sF (sF (sF (sF sc0 46 4 w0_46_2) 46 3 (Int32.ofInt 0)) 46 2 z129) 46 3 (Int32.ofInt 4)) 46 5 z19).2.2.1 46 3).toInt = 1 → In ((sF (sF (sF (sF (sF sc0 46 4 w0_46_2) 46 3 (Int32.ofInt 0)) 46 2 z129) 46 3 (Int32.ofInt 4)) 46 5 z19).2.2.1 46 5) 0 25 := by intro h1; rw [← (show (Int32.ofInt 4) = (sF (sF (sF (sF (sF sc0 46 4 w0_46_2) 46 3 (Int32.ofInt 0)) 46 2 z129) 46 3 (Int32.ofInt 4)) 46 5 z19).2.2.1 46 3 from sF_ne rfl (sF_get))] at h1; exact absurd h1 (by decide)
                                  have n181b : TKN (s.1 47) (s.2.2.1 46 1).toInt.toNat (s.2.2.1 46 2).toInt.toNat ((sF (sF (sF (sF (sF sc0 46 4 w0_46_2) 46 3 (Int32.ofInt 0)) 46 2 z129) 46 3 (Int32.ofInt 4)) 46 5 z19).2.2.1 46 4).toInt.toNat ((sF (sF (sF (sF (sF sc0 46 4 w0_46_2) 46 3 (Int32.ofInt 0)) 46 2 z129) 46 3 (Int32.ofInt 4)) 46 5 z19).2.2.1 46 2).toInt.toNat ((sF (sF (sF (sF (sF sc0 46 4 w0_46_2) 46 3 (Int32.ofInt 0)) 46 2 z129) 46 3 (Int32.ofInt 4)) 46 5 z19).2.2.1 46 3).toInt ((sF (sF (sF (sF (sF sc0 46 4 w0_46_2) 46 3 (Int32.ofInt 0)) 46 2 z129) 46 3 (Int32.ofInt 4)) 46 5 z19).2.2.1 46 5).toInt := by have hT0 : s.1 47 w0_46_2.toInt.toNat = z19 := (by rw [e19, hFc0.1 47 rfl]; rfl); have hS : tkS (s.1 47) (u_46_1).toInt.toNat (u_46_2).toInt.toNat w0_46_2.toInt.toNat := ⟨by have a0 := oa8 h2 h1 i8a i8 ((in_c 0 rfl)) i136 ((in_c 4 rfl)) i129; have a8 := t_add e129 i8 (in_c 1 rfl) rfl; have a9 := in_u ((in_c 1 rfl)); have oc := oc_171_46; omega, by have a0 := oa8 h2 h1 i8a i8 ((in_c 0 rfl)) i136 ((in_c 4 rfl)) i129; have a8 := t_add e129 i8 (in_c 1 rfl) rfl; have a9 := in_u ((in_c 1 rfl)); have oc := oc_171_46; omega, fun i a b => g0_0 i (by rw [← e_46_2]; exact a) (by have a0 := oa8 h2 h1 i8a i8 ((in_c 0 rfl)) i136 ((in_c 4 rfl)) i129; have a8 := t_add e129 i8 (in_c 1 rfl) rfl; have a9 := in_u ((in_c 1 rfl)); have oc := oc_171_46; omega), fun _ => by rw [hT0]; have a0 := oa8 h2 h1 i8a i8 ((in_c 0 rfl)) i136 ((in_c 4 rfl)) i129; have a8 := t_add e129 i8 (in_c 1 rfl) rfl; have a9 := in_u ((in_c 1 rfl)); have oc := oc_171_46; omega⟩; rw [← (show z129 = (sF (sF (sF (sF (sF sc0 46 4 w0_46_2) 46 3 (Int32.ofInt 0)) 46 2 z129) 46 3 (Int32.ofInt 4)) 46 5 z19).2.2.1 46 2 from sF_ne rfl (sF_ne rfl (sF_get))), ← (show w0_46_2 = (sF (sF (sF (sF (sF sc0 46 4 w0_46_2) 46 3 (Int32.ofInt 0)) 46 2 z129) 46 3 (Int32.ofInt 4)) 46 5 z19).2.2.1 46 4 from sF_ne rfl (sF_ne rfl (sF_ne rfl (sF_ne rfl (sF_get))))), ← (show (Int32.ofInt 4) = (sF (sF (sF (sF (sF sc0 46 4 w0_46_2) 46 3 (Int32.ofInt 0)) 46 2 z129) 46 3 (Int32.ofInt 4)) 46 5 z19).2.2.1 46 3 from sF_ne rfl (sF_get)), ← (show z19 = (sF (sF (sF (sF (sF sc0 46 4 w0_46_2) 46 3 (Int32.ofInt 0)) 46 2 z129) 46 3 (Int32.ofInt 4)) 46 5 z19).2.2.1 46 5 from sF_get), ← e_46_1, ← e_46_2]; first | exact tkn_3 hS (by have a0 := oa8 h2 h1 i8a i8 ((in_c 0 rfl)) i136 ((in_c 4 rfl)) i129; have a8 := t_add e129 i8 (in_c 1 rfl) rfl; have a9 := in_u ((in_c 1 rfl)); have oc := oc_171_46; omega) (by rw [hT0]; have a0 := oa8 h2 h1 i8a i8 ((in_c 0 rfl)) i136 ((in_c 4 rfl)) i129; have a8 := t_add e129 i8 (in_c 1 rfl) rfl; have a9 := in_u ((in_c 1 rfl)); have oc := oc_171_46; omega) (by have a0 := oa8 h2 h1 i8a i8 ((in_c 0 rfl)) i136 ((in_c 4 rfl)) i129; have a8 := t_add e129 i8 (in_c 1 rfl) rfl; have a9 := in_u ((in_c 1 rfl)); have oc := oc_171_46; omega) (by decide) (by have a0 := oa8 h2 h1 i8a i8 ((in_c 0 rfl)) i136 ((in_c 4 rfl)) i129; have a8 := t_add e129 i8 (in_c 1 rfl) rfl; have a9 := in_u ((in_c 1 rfl)); have oc := oc_171_46; omega) | exact tkn_4 hS (by have a0 := oa8 h2 h1 i8a i8 ((in_c 0 rfl)) i136 ((in_c 4 rfl)) i129; have a8 := t_add e129 i8 (in_c 1 rfl) rfl; have a9 := in_u ((in_c 1 rfl)); have oc := oc_171_46; omega) (by rw [hT0]; unfold tkL; have a0 := oa8 h2 h1 i8a i8 ((in_c 0 rfl)) i136 ((in_c 4 rfl)) i129; have a8 := t_add e129 i8 (in_c 1 rfl) rfl; have a9 := in_u ((in_c 1 rfl)); have oc := oc_171_46; omega) (by rw [hT0]; have a0 := oa8 h2 h1 i8a i8 ((in_c 0 rfl)) i136 ((in_c 4 rfl)) i129; have a8 := t_add e129 i8 (in_c 1 rfl) rfl; have a9 := in_u ((in_c 1 rfl)); have oc := oc_171_46; omega) (by first | exact nq_1 (by rw [hT0]; unfold tkD; have a0 := oa8 h2 h1 i8a i8 ((in_c 0 rfl)) i136 ((in_c 4 rfl)) i129; have a8 := t_add e129 i8 (in_c 1 rfl) rfl; have a9 := in_u ((in_c 1 rfl)); have oc := oc_171_46; omega) (by rw [hT0]; have a0 := oa8 h2 h1 i8a i8 ((in_c 0 rfl)) i136 ((in_c 4 rfl)) i129; have a8 := t_add e129 i8 (in_c 1 rfl) rfl; have a9 := in_u ((in_c 1 rfl)); have oc := oc_171_46; omega) | exact nq_2 (by rw [hT0]; have a0 := oa8 h2 h1 i8a i8 ((in_c 0 rfl)) i136 ((in_c 4 rfl)) i129; have a8 := t_add e129 i8 (in_c 1 rfl) rfl; have a9 := in_u ((in_c 1 rfl)); have oc := oc_171_46; omega) (fun h => by first | (exfalso; have a0 := oa8 h2 h1 i8a i8 ((in_c 0 rfl)) i136 ((in_c 4 rfl)) i129; have a8 := t_add e129 i8 (in_c 1 rfl) rfl; have a9 := in_u ((in_c 1 rfl)); have oc := oc_171_46; omega) | (rw [show s.1 47 (w0_46_2.toInt.toNat + 1) = z109x13 from (by rw [e109x13, show z101.toNatClampNeg = w0_46_2.toInt.toNat + 1 from (by show z101.toInt.toNat = _; have a0 := oa8 h2 h1 i8a i8 ((in_c 0 rfl)) i136 ((in_c 4 rfl)) i129; have a8 := t_add e129 i8 (in_c 1 rfl) rfl; have a9 := in_u ((in_c 1 rfl)); have oc := oc_171_46; omega)]; exact congrFun (hFc0.1 47 rfl).symm _)]; unfold tkD; have a0 := oa8 h2 h1 i8a i8 ((in_c 0 rfl)) i136 ((in_c 4 rfl)) i129; have a8 := t_add e129 i8 (in_c 1 rfl) rfl; have a9 := in_u ((in_c 1 rfl)); have oc := oc_171_46; omega))) (by have a0 := oa8 h2 h1 i8a i8 ((in_c 0 rfl)) i136 ((in_c 4 rfl)) i129; have a8 := t_add e129 i8 (in_c 1 rfl) rfl; have a9 := in_u ((in_c 1 rfl)); have oc := oc_171_46; omega) (by decide)
                                  have n181c : (z129).toInt ≤ (u_46_1).toInt := by have a0 := oa8 h2 h1 i8a i8 ((in_c 0 rfl)) i136 ((in_c 4 rfl)) i129; have a8 := t_add e129 i8 (in_c 1 rfl) rfl; have a9 := in_u ((in_c 1 rfl)); have oc := oc_171_46; omega
                                  have n181d : ((sF (sF (sF (sF (sF sc0 46 4 w0_46_2) 46 3 (Int32.ofInt 0)) 46 2 z129) 46 3 (Int32.ofInt 4)) 46 5 z19).2.2.1 46 2).toInt ≤ ((sF (sF (sF (sF (sF sc0 46 4 w0_46_2) 46 3 (Int32.ofInt 0)) 46 2 z129) 46 3 (Int32.ofInt 4)) 46 5 z19).2.2.1 46 1).toInt := by have b0 : z129 = (sF (sF (sF (sF (sF sc0 46 4 w0_46_2) 46 3 (Int32.ofInt 0)) 46 2 z129) 46 3 (Int32.ofInt 4)) 46 5 z19).2.2.1 46 2 := sF_ne rfl (sF_ne rfl (sF_get)); have b1 : u_46_1 = (sF (sF (sF (sF (sF sc0 46 4 w0_46_2) 46 3 (Int32.ofInt 0)) 46 2 z129) 46 3 (Int32.ofInt 4)) 46 5 z19).2.2.1 46 1 := sF_ne rfl (sF_ne rfl (sF_ne rfl (sF_ne rfl (sF_ne rfl (fr_F e_46_1 hFc0 rfl))))); rw [← b0, ← b1]; exact n181c
                                  have n181e : (w0_46_2).toInt ≤ (z129).toInt := by have a0 := oa8 h2 h1 i8a i8 ((in_c 0 rfl)) i136 ((in_c 4 rfl)) i129; have a8 := t_add e129 i8 (in_c 1 rfl) rfl; have a9 := in_u ((in_c 1 rfl)); have oc := oc_171_46; omega
                                  have n181f : ((sF (sF (sF (sF (sF sc0 46 4 w0_46_2) 46 3 (Int32.ofInt 0)) 46 2 z129) 46 3 (Int32.ofInt 4)) 46 5 z19).2.2.1 46 4).toInt ≤ ((sF (sF (sF (sF (sF sc0 46 4 w0_46_2) 46 3 (Int32.ofInt 0)) 46 2 z129) 46 3 (Int32.ofInt 4)) 46 5 z19).2.2.1 46 2).toInt := by have b0 : w0_46_2 = (sF (sF (sF (sF (sF sc0 46 4 w0_46_2) 46 3 (Int32.ofInt 0)) 46 2 z129) 46 3 (Int32.ofInt 4)) 46 5 z19).2.2.1 46 4 := sF_ne rfl (sF_ne rfl (sF_ne rfl (sF_ne rfl (sF_get)))); have b1 : z129 = (sF (sF (sF (sF (sF sc0 46 4 w0_46_2) 46 3 (Int32.ofInt 0)) 46 2 z129) 46 3 (Int32.ofInt 4)) 46 5 z19).2.2.1 46 2 := sF_ne rfl (sF_ne rfl (sF_get)); rw [← b0, ← b1]; exact n181e
                                  have n181g : (u_46_2).toInt ≤ (w0_46_2).toInt := by first | exact n0_1 | (have a0 := oa8 h2 h1 i8a i8 ((in_c 0 rfl)) i136 ((in_c 4 rfl)) i129; have a8 := t_add e129 i8 (in_c 1 rfl) rfl; have a9 := in_u ((in_c 1 rfl)); have oc := oc_171_46; omega)
                                  have n181h : (s.2.2.1 46 2).toInt ≤ ((sF (sF (sF (sF (sF sc0 46 4 w0_46_2) 46 3 (Int32.ofInt 0)) 46 2 z129) 46 3 (Int32.ofInt 4)) 46 5 z19).2.2.1 46 4).toInt := by have b0 : w0_46_2 = (sF (sF (sF (sF (sF sc0 46 4 w0_46_2) 46 3 (Int32.ofInt 0)) 46 2 z129) 46 3 (Int32.ofInt 4)) 46 5 z19).2.2.1 46 4 := sF_ne rfl (sF_ne rfl (sF_ne rfl (sF_ne rfl (sF_get)))); rw [← b0, ← e_46_2]; exact n181g
                                  exact g_return (gd rfl) rfl (hP _ _ ⟨(sF (sF (sF (sF (sF sc0 46 4 w0_46_2) 46 3 (Int32.ofInt 0)) 46 2 z129) 46 3 (Int32.ofInt 4)) 46 5 z19), hI178, (fr_sF rfl (fr_sF rfl (fr_sF rfl (fr_sF rfl (fr_sF rfl hFc0))))), n181d, n181f, n181h, rfl, rfl, n181, n181a, n181b⟩)
                                · skip
                                  exact zn_ne c165 (in_c 0 rfl) rfl
                              · skip
                                exact zn_eq c162x7 h2 rfl
                          · skip
                            have i136 := r_le2 97 65535 c136 (in_c 97 rfl) i109x27 rfl
                            refine g_iload_n 140 (gd rfl) rfl rfl ?_
                            refine g_bipush 122 142 (gd rfl) rfl rfl ?_
                            refine g_cmp_gt 145 159 (gd rfl) rfl rfl (fun c142 => ?_) (fun c142 => ?_)
                            · skip
                              have i142 := r_lt2 123 65535 c142 (in_c 122 rfl) i136 rfl
                              refine g_aload_n 160 (gd rfl) rfl rfl ?_
                              refine g_iload_n 161 (gd rfl) rfl rfl ?_
                              refine g_iload_n 162 (gd rfl) rfl rfl ?_
                              refine g_calls (As := [.int z19, .int x2]) (r := [.ref (A 46)]) 165 (gd rfl) rfl rfl rfl rfl rfl (Nat.le_of_ble_eq_true rfl) (mc := 0) (ms := 0) (Nat.zero_le _) (Nat.zero_le _) (P := fun v u => _) ?_ (fun v u h => h)
                              intro po162 xx162 hp162 hx162
                              refine g_enter2 (k := 174) (N := 300) (by first | exact dq1 hd rfl | exact dq0 hd rfl | exact dq2 hd rfl | exact dq3 hd rfl | omega) rfl (Nat.le_of_ble_eq_true rfl) ?_
                              refine g_iload_n 1 (gd rfl) rfl rfl ?_
                              refine g_bipush 59 3 (gd rfl) rfl rfl ?_
                              refine g_cmp_eq 6 19 (gd rfl) rfl rfl (fun c162x3 => ?_) (fun c162x3 => ?_)
                              · skip
                                exact n_eq c162x3 i142 (in_c 59 rfl) rfl
                              · skip
                                refine g_iload_n 7 (gd rfl) rfl rfl ?_
                                refine g_if_ne 10 23 (gd rfl) rfl rfl (fun c162x7 => ?_) (fun c162x7 => ?_)
                                · skip
                                  refine g_iconst 0 24 (gd rfl) rfl rfl ?_
                                  refine g_ireturn (gd rfl) rfl (nb01 (in_w 0 1 (in_c 0 rfl) rfl)) (hp162 _ _ ?_)
                                  show GG _ _ _ _ _ _ _ _ [.int (Int32.ofInt 0), .ref (A 46)] _ _ _
                                  refine g_if_eq 168 172 (gd rfl) rfl rfl (fun c165 => ?_) (fun c165 => ?_)
                                  · skip
                                    refine g_iconst 4 173 (gd rfl) rfl rfl ?_
                                    refine g_putI 176 (gd rfl) rfl rfl rfl rfl ?_
                                    have hI173 := inv_sF (q := 46) (j := 3) hI130 rfl (in_w 0 5 (in_c 4 rfl) rfl)
                                    refine g_aload_n 177 (gd rfl) rfl rfl ?_
                                    refine g_iload_n 178 (gd rfl) rfl rfl ?_
                                    refine g_putI 181 (gd rfl) rfl rfl rfl rfl ?_
                                    have hI178 := inv_sF (q := 46) (j := 5) hI173 rfl (in_w (-2147483648) 2147483647 i142 rfl)
                                    have n181 : (x1).toInt = 6 → TK (sF (sF (sF (sF (sF sc0 46 4 w0_46_2) 46 3 (Int32.ofInt 0)) 46 2 z129) 46 3 (Int32.ofInt 4)) 46 5 z19) := by intro h6; exfalso; have a0 := oa8 h2 h1 i8a i8 ((in_c 0 rfl)) i142 ((in_c 4 rfl)) i129; have a8 := t_add e129 i8 (in_c 1 rfl) rfl; have a9 := in_u ((in_c 1 rfl)); have oc := oc_171_46; omega
                                    have n181a : ((sF (sF (sF (sF (sF sc0 46 4 w0_46_2) 46 3 (Int32.ofInt 0)) 46 2 z129) 46 3 (Int32.ofInt 4)) 46 5 z19).2.2.1 46 3).toInt = 1 → In ((sF (sF (sF (sF (sF sc0 46 4 w0_46_2) 46 3 (Int32.ofInt 0)) 46 2 z129) 46 3 (Int32.ofInt 4)) 46 5 z19).2.2.1 46 5) 0 25 := by intro h1; rw [← (show (Int32.ofInt 4) = (sF (sF (sF (sF (sF sc0 46 4 w0_46_2) 46 3 (Int32.ofInt 0)) 46 2 z129) 46 3 (Int32.ofInt 4)) 46 5 z19).2.2.1 46 3 from sF_ne rfl (sF_get))] at h1; exact absurd h1 (by decide)
                                    have n181b : TKN (s.1 47) (s.2.2.1 46 1).toInt.toNat (s.2.2.1 46 2).toInt.toNat ((sF (sF (sF (sF (sF sc0 46 4 w0_46_2) 46 3 (Int32.ofInt 0)) 46 2 z129) 46 3 (Int32.ofInt 4)) 46 5 z19).2.2.1 46 4).toInt.toNat ((sF (sF (sF (sF (sF sc0 46 4 w0_46_2) 46 3 (Int32.ofInt 0)) 46 2 z129) 46 3 (Int32.ofInt 4)) 46 5 z19).2.2.1 46 2).toInt.toNat ((sF (sF (sF (sF (sF sc0 46 4 w0_46_2) 46 3 (Int32.ofInt 0)) 46 2 z129) 46 3 (Int32.ofInt 4)) 46 5 z19).2.2.1 46 3).toInt ((sF (sF (sF (sF (sF sc0 46 4 w0_46_2) 46 3 (Int32.ofInt 0)) 46 2 z129) 46 3 (Int32.ofInt 4)) 46 5 z19).2.2.1 46 5).toInt := by have hT0 : s.1 47 w0_46_2.toInt.toNat = z19 := (by rw [e19, hFc0.1 47 rfl]; rfl); have hS : tkS (s.1 47) (u_46_1).toInt.toNat (u_46_2).toInt.toNat w0_46_2.toInt.toNat := ⟨by have a0 := oa8 h2 h1 i8a i8 ((in_c 0 rfl)) i142 ((in_c 4 rfl)) i129; have a8 := t_add e129 i8 (in_c 1 rfl) rfl; have a9 := in_u ((in_c 1 rfl)); have oc := oc_171_46; omega, by have a0 := oa8 h2 h1 i8a i8 ((in_c 0 rfl)) i142 ((in_c 4 rfl)) i129; have a8 := t_add e129 i8 (in_c 1 rfl) rfl; have a9 := in_u ((in_c 1 rfl)); have oc := oc_171_46; omega, fun i a b => g0_0 i (by rw [← e_46_2]; exact a) (by have a0 := oa8 h2 h1 i8a i8 ((in_c 0 rfl)) i142 ((in_c 4 rfl)) i129; have a8 := t_add e129 i8 (in_c 1 rfl) rfl; have a9 := in_u ((in_c 1 rfl)); have oc := oc_171_46; omega), fun _ => by rw [hT0]; have a0 := oa8 h2 h1 i8a i8 ((in_c 0 rfl)) i142 ((in_c 4 rfl)) i129; have a8 := t_add e129 i8 (in_c 1 rfl) rfl; have a9 := in_u ((in_c 1 rfl)); have oc := oc_171_46; omega⟩; rw [← (show z129 = (sF (sF (sF (sF (sF sc0 46 4 w0_46_2) 46 3 (Int32.ofInt 0)) 46 2 z129) 46 3 (Int32.ofInt 4)) 46 5 z19).2.2.1 46 2 from sF_ne rfl (sF_ne rfl (sF_get))), ← (show w0_46_2 = (sF (sF (sF (sF (sF sc0 46 4 w0_46_2) 46 3 (Int32.ofInt 0)) 46 2 z129) 46 3 (Int32.ofInt 4)) 46 5 z19).2.2.1 46 4 from sF_ne rfl (sF_ne rfl (sF_ne rfl (sF_ne rfl (sF_get))))), ← (show (Int32.ofInt 4) = (sF (sF (sF (sF (sF sc0 46 4 w0_46_2) 46 3 (Int32.ofInt 0)) 46 2 z129) 46 3 (Int32.ofInt 4)) 46 5 z19).2.2.1 46 3 from sF_ne rfl (sF_get)), ← (show z19 = (sF (sF (sF (sF (sF sc0 46 4 w0_46_2) 46 3 (Int32.ofInt 0)) 46 2 z129) 46 3 (Int32.ofInt 4)) 46 5 z19).2.2.1 46 5 from sF_get), ← e_46_1, ← e_46_2]; first | exact tkn_3 hS (by have a0 := oa8 h2 h1 i8a i8 ((in_c 0 rfl)) i142 ((in_c 4 rfl)) i129; have a8 := t_add e129 i8 (in_c 1 rfl) rfl; have a9 := in_u ((in_c 1 rfl)); have oc := oc_171_46; omega) (by rw [hT0]; have a0 := oa8 h2 h1 i8a i8 ((in_c 0 rfl)) i142 ((in_c 4 rfl)) i129; have a8 := t_add e129 i8 (in_c 1 rfl) rfl; have a9 := in_u ((in_c 1 rfl)); have oc := oc_171_46; omega) (by have a0 := oa8 h2 h1 i8a i8 ((in_c 0 rfl)) i142 ((in_c 4 rfl)) i129; have a8 := t_add e129 i8 (in_c 1 rfl) rfl; have a9 := in_u ((in_c 1 rfl)); have oc := oc_171_46; omega) (by decide) (by have a0 := oa8 h2 h1 i8a i8 ((in_c 0 rfl)) i142 ((in_c 4 rfl)) i129; have a8 := t_add e129 i8 (in_c 1 rfl) rfl; have a9 := in_u ((in_c 1 rfl)); have oc := oc_171_46; omega) | exact tkn_4 hS (by have a0 := oa8 h2 h1 i8a i8 ((in_c 0 rfl)) i142 ((in_c 4 rfl)) i129; have a8 := t_add e129 i8 (in_c 1 rfl) rfl; have a9 := in_u ((in_c 1 rfl)); have oc := oc_171_46; omega) (by rw [hT0]; unfold tkL; have a0 := oa8 h2 h1 i8a i8 ((in_c 0 rfl)) i142 ((in_c 4 rfl)) i129; have a8 := t_add e129 i8 (in_c 1 rfl) rfl; have a9 := in_u ((in_c 1 rfl)); have oc := oc_171_46; omega) (by rw [hT0]; have a0 := oa8 h2 h1 i8a i8 ((in_c 0 rfl)) i142 ((in_c 4 rfl)) i129; have a8 := t_add e129 i8 (in_c 1 rfl) rfl; have a9 := in_u ((in_c 1 rfl)); have oc := oc_171_46; omega) (by first | exact nq_1 (by rw [hT0]; unfold tkD; have a0 := oa8 h2 h1 i8a i8 ((in_c 0 rfl)) i142 ((in_c 4 rfl)) i129; have a8 := t_add e129 i8 (in_c 1 rfl) rfl; have a9 := in_u ((in_c 1 rfl)); have oc := oc_171_46; omega) (by rw [hT0]; have a0 := oa8 h2 h1 i8a i8 ((in_c 0 rfl)) i142 ((in_c 4 rfl)) i129; have a8 := t_add e129 i8 (in_c 1 rfl) rfl; have a9 := in_u ((in_c 1 rfl)); have oc := oc_171_46; omega) | exact nq_2 (by rw [hT0]; have a0 := oa8 h2 h1 i8a i8 ((in_c 0 rfl)) i142 ((in_c 4 rfl)) i129; have a8 := t_add e129 i8 (in_c 1 rfl) rfl; have a9 := in_u ((in_c 1 rfl)); have oc := oc_171_46; omega) (fun h => by first | (exfalso; have a0 := oa8 h2 h1 i8a i8 ((in_c 0 rfl)) i142 ((in_c 4 rfl)) i129; have a8 := t_add e129 i8 (in_c 1 rfl) rfl; have a9 := in_u ((in_c 1 rfl)); have oc := oc_171_46; omega) | (rw [show s.1 47 (w0_46_2.toInt.toNat + 1) = z109x13 from (by rw [e109x13, show z101.toNatClampNeg = w0_46_2.toInt.toNat + 1 from (by show z101.toInt.toNat = _; have a0 := oa8 h2 h1 i8a i8 ((in_c 0 rfl)) i142 ((in_c 4 rfl)) i129; have a8 := t_add e129 i8 (in_c 1 rfl) rfl; have a9 := in_u ((in_c 1 rfl)); have oc := oc_171_46; omega)]; exact congrFun (hFc0.1 47 rfl).symm _)]; unfold tkD; have a0 := oa8 h2 h1 i8a i8 ((in_c 0 rfl)) i142 ((in_c 4 rfl)) i129; have a8 := t_add e129 i8 (in_c 1 rfl) rfl; have a9 := in_u ((in_c 1 rfl)); have oc := oc_171_46; omega))) (by have a0 := oa8 h2 h1 i8a i8 ((in_c 0 rfl)) i142 ((in_c 4 rfl)) i129; have a8 := t_add e129 i8 (in_c 1 rfl) rfl; have a9 := in_u ((in_c 1 rfl)); have oc := oc_171_46; omega) (by decide)
                                    have n181c : (z129).toInt ≤ (u_46_1).toInt := by have a0 := oa8 h2 h1 i8a i8 ((in_c 0 rfl)) i142 ((in_c 4 rfl)) i129; have a8 := t_add e129 i8 (in_c 1 rfl) rfl; have a9 := in_u ((in_c 1 rfl)); have oc := oc_171_46; omega
                                    have n181d : ((sF (sF (sF (sF (sF sc0 46 4 w0_46_2) 46 3 (Int32.ofInt 0)) 46 2 z129) 46 3 (Int32.ofInt 4)) 46 5 z19).2.2.1 46 2).toInt ≤ ((sF (sF (sF (sF (sF sc0 46 4 w0_46_2) 46 3 (Int32.ofInt 0)) 46 2 z129) 46 3 (Int32.ofInt 4)) 46 5 z19).2.2.1 46 1).toInt := by have b0 : z129 = (sF (sF (sF (sF (sF sc0 46 4 w0_46_2) 46 3 (Int32.ofInt 0)) 46 2 z129) 46 3 (Int32.ofInt 4)) 46 5 z19).2.2.1 46 2 := sF_ne rfl (sF_ne rfl (sF_get)); have b1 : u_46_1 = (sF (sF (sF (sF (sF sc0 46 4 w0_46_2) 46 3 (Int32.ofInt 0)) 46 2 z129) 46 3 (Int32.ofInt 4)) 46 5 z19).2.2.1 46 1 := sF_ne rfl (sF_ne rfl (sF_ne rfl (sF_ne rfl (sF_ne rfl (fr_F e_46_1 hFc0 rfl))))); rw [← b0, ← b1]; exact n181c
                                    have n181e : (w0_46_2).toInt ≤ (z129).toInt := by have a0 := oa8 h2 h1 i8a i8 ((in_c 0 rfl)) i142 ((in_c 4 rfl)) i129; have a8 := t_add e129 i8 (in_c 1 rfl) rfl; have a9 := in_u ((in_c 1 rfl)); have oc := oc_171_46; omega
                                    have n181f : ((sF (sF (sF (sF (sF sc0 46 4 w0_46_2) 46 3 (Int32.ofInt 0)) 46 2 z129) 46 3 (Int32.ofInt 4)) 46 5 z19).2.2.1 46 4).toInt ≤ ((sF (sF (sF (sF (sF sc0 46 4 w0_46_2) 46 3 (Int32.ofInt 0)) 46 2 z129) 46 3 (Int32.ofInt 4)) 46 5 z19).2.2.1 46 2).toInt := by have b0 : w0_46_2 = (sF (sF (sF (sF (sF sc0 46 4 w0_46_2) 46 3 (Int32.ofInt 0)) 46 2 z129) 46 3 (Int32.ofInt 4)) 46 5 z19).2.2.1 46 4 := sF_ne rfl (sF_ne rfl (sF_ne rfl (sF_ne rfl (sF_get)))); have b1 : z129 = (sF (sF (sF (sF (sF sc0 46 4 w0_46_2) 46 3 (Int32.ofInt 0)) 46 2 z129) 46 3 (Int32.ofInt 4)) 46 5 z19).2.2.1 46 2 := sF_ne rfl (sF_ne rfl (sF_get)); rw [← b0, ← b1]; exact n181e
                                    have n181g : (u_46_2).toInt ≤ (w0_46_2).toInt := by first | exact n0_1 | (have a0 := oa8 h2 h1 i8a i8 ((in_c 0 rfl)) i142 ((in_c 4 rfl)) i129; have a8 := t_add e129 i8 (in_c 1 rfl) rfl; have a9 := in_u ((in_c 1 rfl)); have oc := oc_171_46; omega)
                                    have n181h : (s.2.2.1 46 2).toInt ≤ ((sF (sF (sF (sF (sF sc0 46 4 w0_46_2) 46 3 (Int32.ofInt 0)) 46 2 z129) 46 3 (Int32.ofInt 4)) 46 5 z19).2.2.1 46 4).toInt := by have b0 : w0_46_2 = (sF (sF (sF (sF (sF sc0 46 4 w0_46_2) 46 3 (Int32.ofInt 0)) 46 2 z129) 46 3 (Int32.ofInt 4)) 46 5 z19).2.2.1 46 4 := sF_ne rfl (sF_ne rfl (sF_ne rfl (sF_ne rfl (sF_get)))); rw [← b0, ← e_46_2]; exact n181g
                                    exact g_return (gd rfl) rfl (hP _ _ ⟨(sF (sF (sF (sF (sF sc0 46 4 w0_46_2) 46 3 (Int32.ofInt 0)) 46 2 z129) 46 3 (Int32.ofInt 4)) 46 5 z19), hI178, (fr_sF rfl (fr_sF rfl (fr_sF rfl (fr_sF rfl (fr_sF rfl hFc0))))), n181d, n181f, n181h, rfl, rfl, n181, n181a, n181b⟩)
                                  · skip
                                    exact zn_ne c165 (in_c 0 rfl) rfl
                                · skip
                                  exact zn_eq c162x7 h2 rfl
                            · skip
                              have i142 := r_le1 97 122 c142 i136 (in_c 122 rfl) rfl
                              refine g_aload_n 146 (gd rfl) rfl rfl ?_
                              refine g_iconst 1 147 (gd rfl) rfl rfl ?_
                              refine g_putI 150 (gd rfl) rfl rfl rfl rfl ?_
                              have hI147 := inv_sF (q := 46) (j := 3) hI130 rfl (in_w 0 5 (in_c 1 rfl) rfl)
                              refine g_aload_n 151 (gd rfl) rfl rfl ?_
                              refine g_iload_n 152 (gd rfl) rfl rfl ?_
                              refine g_bipush 97 154 (gd rfl) rfl rfl ?_
                              refine g_isub 155 (gd rfl) rfl (fun z154 e154 => ?_)
                              have i154 := in_sub 0 25 e154 i142 (in_c 97 rfl) rfl rfl
                              refine g_putI 158 (gd rfl) rfl rfl rfl rfl ?_
                              have hI155 := inv_sF (q := 46) (j := 5) hI147 rfl (in_w (-2147483648) 2147483647 i154 rfl)
                              have n158 : (x1).toInt = 6 → TK (sF (sF (sF (sF (sF sc0 46 4 w0_46_2) 46 3 (Int32.ofInt 0)) 46 2 z129) 46 3 (Int32.ofInt 1)) 46 5 z154) := by intro h6; exfalso; have a0 := oa7 h2 h1 i8a i8 ((in_c 0 rfl)) i142 i154; have a7 := t_sub e154 i142 (in_c 97 rfl) rfl; have a8 := oa3 ((in_c 97 rfl)) ((in_c 1 rfl)) i129; have a11 := t_add e129 i8 (in_c 1 rfl) rfl; have oc := oc_171_46; omega
                              have n158a : ((sF (sF (sF (sF (sF sc0 46 4 w0_46_2) 46 3 (Int32.ofInt 0)) 46 2 z129) 46 3 (Int32.ofInt 1)) 46 5 z154).2.2.1 46 3).toInt = 1 → In ((sF (sF (sF (sF (sF sc0 46 4 w0_46_2) 46 3 (Int32.ofInt 0)) 46 2 z129) 46 3 (Int32.ofInt 1)) 46 5 z154).2.2.1 46 5) 0 25 := by intro _; rw [← (show z154 = (sF (sF (sF (sF (sF sc0 46 4 w0_46_2) 46 3 (Int32.ofInt 0)) 46 2 z129) 46 3 (Int32.ofInt 1)) 46 5 z154).2.2.1 46 5 from sF_get)]; exact ⟨by have a0 := oa7 h2 h1 i8a i8 ((in_c 0 rfl)) i142 i154; have a7 := t_sub e154 i142 (in_c 97 rfl) rfl; have a8 := oa3 ((in_c 97 rfl)) ((in_c 1 rfl)) i129; have a11 := t_add e129 i8 (in_c 1 rfl) rfl; have oc := oc_171_46; omega, by have a0 := oa7 h2 h1 i8a i8 ((in_c 0 rfl)) i142 i154; have a7 := t_sub e154 i142 (in_c 97 rfl) rfl; have a8 := oa3 ((in_c 97 rfl)) ((in_c 1 rfl)) i129; have a11 := t_add e129 i8 (in_c 1 rfl) rfl; have oc := oc_171_46; omega⟩
                              have n158b : TKN (s.1 47) (s.2.2.1 46 1).toInt.toNat (s.2.2.1 46 2).toInt.toNat ((sF (sF (sF (sF (sF sc0 46 4 w0_46_2) 46 3 (Int32.ofInt 0)) 46 2 z129) 46 3 (Int32.ofInt 1)) 46 5 z154).2.2.1 46 4).toInt.toNat ((sF (sF (sF (sF (sF sc0 46 4 w0_46_2) 46 3 (Int32.ofInt 0)) 46 2 z129) 46 3 (Int32.ofInt 1)) 46 5 z154).2.2.1 46 2).toInt.toNat ((sF (sF (sF (sF (sF sc0 46 4 w0_46_2) 46 3 (Int32.ofInt 0)) 46 2 z129) 46 3 (Int32.ofInt 1)) 46 5 z154).2.2.1 46 3).toInt ((sF (sF (sF (sF (sF sc0 46 4 w0_46_2) 46 3 (Int32.ofInt 0)) 46 2 z129) 46 3 (Int32.ofInt 1)) 46 5 z154).2.2.1 46 5).toInt := by have hT0 : s.1 47 w0_46_2.toInt.toNat = z19 := (by rw [e19, hFc0.1 47 rfl]; rfl); have hS : tkS (s.1 47) (u_46_1).toInt.toNat (u_46_2).toInt.toNat w0_46_2.toInt.toNat := ⟨by have a0 := oa7 h2 h1 i8a i8 ((in_c 0 rfl)) i142 i154; have a7 := t_sub e154 i142 (in_c 97 rfl) rfl; have a8 := oa3 ((in_c 97 rfl)) ((in_c 1 rfl)) i129; have a11 := t_add e129 i8 (in_c 1 rfl) rfl; have oc := oc_171_46; omega, by have a0 := oa7 h2 h1 i8a i8 ((in_c 0 rfl)) i142 i154; have a7 := t_sub e154 i142 (in_c 97 rfl) rfl; have a8 := oa3 ((in_c 97 rfl)) ((in_c 1 rfl)) i129; have a11 := t_add e129 i8 (in_c 1 rfl) rfl; have oc := oc_171_46; omega, fun i a b => g0_0 i (by rw [← e_46_2]; exact a) (by have a0 := oa7 h2 h1 i8a i8 ((in_c 0 rfl)) i142 i154; have a7 := t_sub e154 i142 (in_c 97 rfl) rfl; have a8 := oa3 ((in_c 97 rfl)) ((in_c 1 rfl)) i129; have a11 := t_add e129 i8 (in_c 1 rfl) rfl; have oc := oc_171_46; omega), fun _ => by rw [hT0]; have a0 := oa7 h2 h1 i8a i8 ((in_c 0 rfl)) i142 i154; have a7 := t_sub e154 i142 (in_c 97 rfl) rfl; have a8 := oa3 ((in_c 97 rfl)) ((in_c 1 rfl)) i129; have a11 := t_add e129 i8 (in_c 1 rfl) rfl; have oc := oc_171_46; omega⟩; rw [← (show z129 = (sF (sF (sF (sF (sF sc0 46 4 w0_46_2) 46 3 (Int32.ofInt 0)) 46 2 z129) 46 3 (Int32.ofInt 1)) 46 5 z154).2.2.1 46 2 from sF_ne rfl (sF_ne rfl (sF_get))), ← (show w0_46_2 = (sF (sF (sF (sF (sF sc0 46 4 w0_46_2) 46 3 (Int32.ofInt 0)) 46 2 z129) 46 3 (Int32.ofInt 1)) 46 5 z154).2.2.1 46 4 from sF_ne rfl (sF_ne rfl (sF_ne rfl (sF_ne rfl (sF_get))))), ← (show (Int32.ofInt 1) = (sF (sF (sF (sF (sF sc0 46 4 w0_46_2) 46 3 (Int32.ofInt 0)) 46 2 z129) 46 3 (Int32.ofInt 1)) 46 5 z154).2.2.1 46 3 from sF_ne rfl (sF_get)), ← (show z154 = (sF (sF (sF (sF (sF sc0 46 4 w0_46_2) 46 3 (Int32.ofInt 0)) 46 2 z129) 46 3 (Int32.ofInt 1)) 46 5 z154).2.2.1 46 5 from sF_get), ← e_46_1, ← e_46_2]; exact tkn_1 hS (by have a0 := oa7 h2 h1 i8a i8 ((in_c 0 rfl)) i142 i154; have a7 := t_sub e154 i142 (in_c 97 rfl) rfl; have a8 := oa3 ((in_c 97 rfl)) ((in_c 1 rfl)) i129; have a11 := t_add e129 i8 (in_c 1 rfl) rfl; have oc := oc_171_46; omega) (by rw [hT0]; exact ⟨by have a0 := oa7 h2 h1 i8a i8 ((in_c 0 rfl)) i142 i154; have a7 := t_sub e154 i142 (in_c 97 rfl) rfl; have a8 := oa3 ((in_c 97 rfl)) ((in_c 1 rfl)) i129; have a11 := t_add e129 i8 (in_c 1 rfl) rfl; have oc := oc_171_46; omega, by have a0 := oa7 h2 h1 i8a i8 ((in_c 0 rfl)) i142 i154; have a7 := t_sub e154 i142 (in_c 97 rfl) rfl; have a8 := oa3 ((in_c 97 rfl)) ((in_c 1 rfl)) i129; have a11 := t_add e129 i8 (in_c 1 rfl) rfl; have oc := oc_171_46; omega⟩) (by have a0 := oa7 h2 h1 i8a i8 ((in_c 0 rfl)) i142 i154; have a7 := t_sub e154 i142 (in_c 97 rfl) rfl; have a8 := oa3 ((in_c 97 rfl)) ((in_c 1 rfl)) i129; have a11 := t_add e129 i8 (in_c 1 rfl) rfl; have oc := oc_171_46; omega) (by decide) (by rw [hT0]; have a0 := oa7 h2 h1 i8a i8 ((in_c 0 rfl)) i142 i154; have a7 := t_sub e154 i142 (in_c 97 rfl) rfl; have a8 := oa3 ((in_c 97 rfl)) ((in_c 1 rfl)) i129; have a11 := t_add e129 i8 (in_c 1 rfl) rfl; have oc := oc_171_46; omega)
                              have n158c : (z129).toInt ≤ (u_46_1).toInt := by have a0 := oa7 h2 h1 i8a i8 ((in_c 0 rfl)) i142 i154; have a7 := t_sub e154 i142 (in_c 97 rfl) rfl; have a8 := oa3 ((in_c 97 rfl)) ((in_c 1 rfl)) i129; have a11 := t_add e129 i8 (in_c 1 rfl) rfl; have oc := oc_171_46; omega
                              have n158d : ((sF (sF (sF (sF (sF sc0 46 4 w0_46_2) 46 3 (Int32.ofInt 0)) 46 2 z129) 46 3 (Int32.ofInt 1)) 46 5 z154).2.2.1 46 2).toInt ≤ ((sF (sF (sF (sF (sF sc0 46 4 w0_46_2) 46 3 (Int32.ofInt 0)) 46 2 z129) 46 3 (Int32.ofInt 1)) 46 5 z154).2.2.1 46 1).toInt := by have b0 : z129 = (sF (sF (sF (sF (sF sc0 46 4 w0_46_2) 46 3 (Int32.ofInt 0)) 46 2 z129) 46 3 (Int32.ofInt 1)) 46 5 z154).2.2.1 46 2 := sF_ne rfl (sF_ne rfl (sF_get)); have b1 : u_46_1 = (sF (sF (sF (sF (sF sc0 46 4 w0_46_2) 46 3 (Int32.ofInt 0)) 46 2 z129) 46 3 (Int32.ofInt 1)) 46 5 z154).2.2.1 46 1 := sF_ne rfl (sF_ne rfl (sF_ne rfl (sF_ne rfl (sF_ne rfl (fr_F e_46_1 hFc0 rfl))))); rw [← b0, ← b1]; exact n158c
                              have n158e : (w0_46_2).toInt ≤ (z129).toInt := by have a0 := oa7 h2 h1 i8a i8 ((in_c 0 rfl)) i142 i154; have a7 := t_sub e154 i142 (in_c 97 rfl) rfl; have a8 := oa3 ((in_c 97 rfl)) ((in_c 1 rfl)) i129; have a11 := t_add e129 i8 (in_c 1 rfl) rfl; have oc := oc_171_46; omega
                              have n158f : ((sF (sF (sF (sF (sF sc0 46 4 w0_46_2) 46 3 (Int32.ofInt 0)) 46 2 z129) 46 3 (Int32.ofInt 1)) 46 5 z154).2.2.1 46 4).toInt ≤ ((sF (sF (sF (sF (sF sc0 46 4 w0_46_2) 46 3 (Int32.ofInt 0)) 46 2 z129) 46 3 (Int32.ofInt 1)) 46 5 z154).2.2.1 46 2).toInt := by have b0 : w0_46_2 = (sF (sF (sF (sF (sF sc0 46 4 w0_46_2) 46 3 (Int32.ofInt 0)) 46 2 z129) 46 3 (Int32.ofInt 1)) 46 5 z154).2.2.1 46 4 := sF_ne rfl (sF_ne rfl (sF_ne rfl (sF_ne rfl (sF_get)))); have b1 : z129 = (sF (sF (sF (sF (sF sc0 46 4 w0_46_2) 46 3 (Int32.ofInt 0)) 46 2 z129) 46 3 (Int32.ofInt 1)) 46 5 z154).2.2.1 46 2 := sF_ne rfl (sF_ne rfl (sF_get)); rw [← b0, ← b1]; exact n158e
                              have n158g : (u_46_2).toInt ≤ (w0_46_2).toInt := by first | exact n0_1 | (have a0 := oa7 h2 h1 i8a i8 ((in_c 0 rfl)) i142 i154; have a7 := t_sub e154 i142 (in_c 97 rfl) rfl; have a8 := oa3 ((in_c 97 rfl)) ((in_c 1 rfl)) i129; have a11 := t_add e129 i8 (in_c 1 rfl) rfl; have oc := oc_171_46; omega)
                              have n158h : (s.2.2.1 46 2).toInt ≤ ((sF (sF (sF (sF (sF sc0 46 4 w0_46_2) 46 3 (Int32.ofInt 0)) 46 2 z129) 46 3 (Int32.ofInt 1)) 46 5 z154).2.2.1 46 4).toInt := by have b0 : w0_46_2 = (sF (sF (sF (sF (sF sc0 46 4 w0_46_2) 46 3 (Int32.ofInt 0)) 46 2 z129) 46 3 (Int32.ofInt 1)) 46 5 z154).2.2.1 46 4 := sF_ne rfl (sF_ne rfl (sF_ne rfl (sF_ne rfl (sF_get)))); rw [← b0, ← e_46_2]; exact n158g
                              exact g_return (gd rfl) rfl (hP _ _ ⟨(sF (sF (sF (sF (sF sc0 46 4 w0_46_2) 46 3 (Int32.ofInt 0)) 46 2 z129) 46 3 (Int32.ofInt 1)) 46 5 z154), hI155, (fr_sF rfl (fr_sF rfl (fr_sF rfl (fr_sF rfl (fr_sF rfl hFc0))))), n158d, n158f, n158h, rfl, rfl, n158, n158a, n158b⟩)
                        · skip
                          exact zn_ne c112 (in_c 0 rfl) rfl
                      · skip
                        have i109x27 := r_le1 48 57 c109x27 i109x16 (in_c 57 rfl) rfl
                        refine g_iconst 1 31 (gd rfl) rfl rfl ?_
                        refine g_goto 35 (gd rfl) rfl ?_
                        refine g_ireturn (gd rfl) rfl (nb01 (in_w 0 1 (in_c 1 rfl) rfl)) (hp109 _ _ ?_)
                        show GG _ _ _ _ _ _ _ _ [.int (Int32.ofInt 1)] _ _ _
                        refine g_if_eq 115 123 (gd rfl) rfl rfl (fun c112 => ?_) (fun c112 => ?_)
                        · skip
                          exact zn_eq c112 (in_c 1 rfl) rfl
                        · skip
                          refine g_aload_n 116 (gd rfl) rfl rfl ?_
                          refine g_iload 118 (gd rfl) rfl rfl ?_
                          refine g_iload_n 119 (gd rfl) rfl rfl ?_
                          have hA9 : w0_46_2 = (sF (sF sc0 46 4 w0_46_2) 46 3 (Int32.ofInt 0)).2.2.1 46 2 := (show w0_46_2 = (sF (sF sc0 46 4 w0_46_2) 46 3 (Int32.ofInt 0)).2.2.1 46 2 from sF_ne rfl (sF_ne rfl (v0_46_2)))
                          have hL9 : u_46_1 = (sF (sF sc0 46 4 w0_46_2) 46 3 (Int32.ofInt 0)).2.2.1 46 1 := (show u_46_1 = (sF (sF sc0 46 4 w0_46_2) 46 3 (Int32.ofInt 0)).2.2.1 46 1 from sF_ne rfl (sF_ne rfl (fr_F e_46_1 hFc0 rfl)))
                          have hX9 : (sF (sF sc0 46 4 w0_46_2) 46 3 (Int32.ofInt 0)).1 47 = s.1 47 := hFc0.1 47 rfl
                          have v119 : w0_46_2 = (sF (sF sc0 46 4 w0_46_2) 46 3 (Int32.ofInt 0)).2.2.1 46 2 := sF_ne rfl (sF_ne rfl (v0_46_2))
                          have v119a : u_46_1 = (sF (sF sc0 46 4 w0_46_2) 46 3 (Int32.ofInt 0)).2.2.1 46 1 := sF_ne rfl (sF_ne rfl (fr_F e_46_1 hFc0 rfl))
                          have n119 : (w0_46_2).toInt + ((Int32.ofInt 0)).toInt + 1 ≤ (u_46_1).toInt := by have a0 := oa6 h2 h1 i8a i8 ((in_c 0 rfl)) i109x27; have oc := oc_171_46; omega
                          have p119 : 48 ≤ ((sF (sF sc0 46 4 w0_46_2) 46 3 (Int32.ofInt 0)).1 47 (((sF (sF sc0 46 4 w0_46_2) 46 3 (Int32.ofInt 0)).2.2.1 46 2).toInt + ((Int32.ofInt 0)).toInt).toNat).toInt ∧ ((sF (sF sc0 46 4 w0_46_2) 46 3 (Int32.ofInt 0)).1 47 (((sF (sF sc0 46 4 w0_46_2) 46 3 (Int32.ofInt 0)).2.2.1 46 2).toInt + ((Int32.ofInt 0)).toInt).toNat).toInt ≤ 57 := by rw [show (((sF (sF sc0 46 4 w0_46_2) 46 3 (Int32.ofInt 0)).2.2.1 46 2).toInt + ((Int32.ofInt 0)).toInt).toNat = w0_46_2.toNatClampNeg from (by rw [← (show w0_46_2 = (sF (sF sc0 46 4 w0_46_2) 46 3 (Int32.ofInt 0)).2.2.1 46 2 from sF_ne rfl (sF_ne rfl (v0_46_2)))]; show _ = w0_46_2.toInt.toNat; have a0 := oa6 h2 h1 i8a i8 ((in_c 0 rfl)) i109x27; have oc := oc_171_46; omega), show (sF (sF sc0 46 4 w0_46_2) 46 3 (Int32.ofInt 0)).1 47 w0_46_2.toNatClampNeg = z19 from e19.symm]; exact ⟨by have a0 := oa6 h2 h1 i8a i8 ((in_c 0 rfl)) i109x27; have oc := oc_171_46; omega, by have a0 := oa6 h2 h1 i8a i8 ((in_c 0 rfl)) i109x27; have oc := oc_171_46; omega⟩
                          refine g_callv (X := _) (As := [.int (Int32.ofInt 0), .int x1]) (r := []) (b := A 46) (q := 46) 122 (gd rfl) rfl rfl rfl rfl rfl (ww_o rfl) (Nat.le_of_ble_eq_true rfl) (Nat.zero_le _) (Nat.zero_le _) (f_173_46 (by first | exact dq1 hd rfl | exact dq0 hd rfl | exact dq2 hd rfl | exact dq3 hd rfl | omega) hI48 (in_w 0 1 (in_c 0 rfl) rfl) (in_w 6 7 h1 rfl) v119 v119a n119 p119) (fun e u h => h) (fun v u h => ?_)
                          obtain ⟨s119, hI119, hF119, n119a, n119b, rfl, rfl, p119a, p119b, p119c⟩ := h
                          obtain ⟨z119a, e119⟩ : ∃ w, w = s119.2.2.1 46 2 := ⟨_, rfl⟩
                          have i119a := inv_F hI119 0 1000 rfl e119
                          rw [← (show z119a = s119.2.2.1 46 2 from e119)] at n119a
                          rw [← (show u_46_1 = s119.2.2.1 46 1 from fr_F (s := (sF (sF sc0 46 4 w0_46_2) 46 3 (Int32.ofInt 0))) (sF_ne rfl (sF_ne rfl (fr_F e_46_1 hFc0 rfl))) hF119 rfl)] at n119a
                          rw [← (show w0_46_2 = (sF (sF sc0 46 4 w0_46_2) 46 3 (Int32.ofInt 0)).2.2.1 46 2 from sF_ne rfl (sF_ne rfl (v0_46_2)))] at n119b
                          rw [← (show z119a = s119.2.2.1 46 2 from e119)] at n119b
                          show GG _ _ _ _ _ _ _ _ [] _ _ _
                          have n122 : (x1).toInt = 6 → TK s119 := by intro h6; exfalso; have a0 := oa7 h2 h1 i8a i8 ((in_c 0 rfl)) i109x27 i119a; have oc := oc_171_46; omega
                          have n122a : (s119.2.2.1 46 3).toInt = 1 → In (s119.2.2.1 46 5) 0 25 := by intro h1; exact absurd h1 p119a
                          have n122b : TKN (s.1 47) (s.2.2.1 46 1).toInt.toNat (s.2.2.1 46 2).toInt.toNat (s119.2.2.1 46 4).toInt.toNat (s119.2.2.1 46 2).toInt.toNat (s119.2.2.1 46 3).toInt (s119.2.2.1 46 5).toInt := by have hT0 : s.1 47 w0_46_2.toInt.toNat = z19 := (by rw [e19, hFc0.1 47 rfl]; rfl); have hS : tkS (s.1 47) (u_46_1).toInt.toNat (u_46_2).toInt.toNat w0_46_2.toInt.toNat := ⟨by have a0 := oa7 h2 h1 i8a i8 ((in_c 0 rfl)) i109x27 i119a; have oc := oc_171_46; omega, by have a0 := oa7 h2 h1 i8a i8 ((in_c 0 rfl)) i109x27 i119a; have oc := oc_171_46; omega, fun i a b => g0_0 i (by rw [← e_46_2]; exact a) (by have a0 := oa7 h2 h1 i8a i8 ((in_c 0 rfl)) i109x27 i119a; have oc := oc_171_46; omega), fun _ => by rw [hT0]; have a0 := oa7 h2 h1 i8a i8 ((in_c 0 rfl)) i109x27 i119a; have oc := oc_171_46; omega⟩; have hp := p119c (by have a0 := oa7 h2 h1 i8a i8 ((in_c 0 rfl)) i109x27 i119a; have oc := oc_171_46; omega); rw [hX9, ← hL9, ← hA9] at hp; rw [← e_46_1, ← e_46_2, ← (show w0_46_2 = s119.2.2.1 46 4 from fr_F (s := (sF (sF sc0 46 4 w0_46_2) 46 3 (Int32.ofInt 0))) (sF_ne rfl (sF_get)) hF119 rfl)]; exact tkn_2 (q := (w0_46_2.toInt + (Int32.ofInt 0).toInt).toNat) (x := (Int32.ofInt 0).toInt) hS (Or.inl ⟨by have c0 : (Int32.ofInt 0).toInt = 0 := rfl; have a0 := oa7 h2 h1 i8a i8 ((in_c 0 rfl)) i109x27 i119a; have oc := oc_171_46; omega, by have a0 := oa7 h2 h1 i8a i8 ((in_c 0 rfl)) i109x27 i119a; have oc := oc_171_46; omega, by rw [hT0]; exact ⟨by have a0 := oa7 h2 h1 i8a i8 ((in_c 0 rfl)) i109x27 i119a; have oc := oc_171_46; omega, by have a0 := oa7 h2 h1 i8a i8 ((in_c 0 rfl)) i109x27 i119a; have oc := oc_171_46; omega⟩⟩) ⟨fun _ => by have c0 : (Int32.ofInt 0).toInt = 0 := rfl; have a0 := oa7 h2 h1 i8a i8 ((in_c 0 rfl)) i109x27 i119a; have oc := oc_171_46; omega, fun _ => rfl⟩ hp
                          have n122c : (z119a).toInt ≤ (u_46_1).toInt := by have a0 := oa7 h2 h1 i8a i8 ((in_c 0 rfl)) i109x27 i119a; have oc := oc_171_46; omega
                          have n122d : (s119.2.2.1 46 2).toInt ≤ (s119.2.2.1 46 1).toInt := by have b0 : z119a = s119.2.2.1 46 2 := e119; have b1 : u_46_1 = s119.2.2.1 46 1 := fr_F (s := (sF (sF sc0 46 4 w0_46_2) 46 3 (Int32.ofInt 0))) (sF_ne rfl (sF_ne rfl (fr_F e_46_1 hFc0 rfl))) hF119 rfl; rw [← b0, ← b1]; exact n122c
                          have n122e : (w0_46_2).toInt ≤ (z119a).toInt := by have a0 := oa7 h2 h1 i8a i8 ((in_c 0 rfl)) i109x27 i119a; have oc := oc_171_46; omega
                          have n122f : (s119.2.2.1 46 4).toInt ≤ (s119.2.2.1 46 2).toInt := by have b0 : w0_46_2 = s119.2.2.1 46 4 := fr_F (s := (sF (sF sc0 46 4 w0_46_2) 46 3 (Int32.ofInt 0))) (sF_ne rfl (sF_get)) hF119 rfl; have b1 : z119a = s119.2.2.1 46 2 := e119; rw [← b0, ← b1]; exact n122e
                          have n122g : (u_46_2).toInt ≤ (w0_46_2).toInt := by first | exact n0_1 | (have a0 := oa7 h2 h1 i8a i8 ((in_c 0 rfl)) i109x27 i119a; have oc := oc_171_46; omega)
                          have n122h : (s.2.2.1 46 2).toInt ≤ (s119.2.2.1 46 4).toInt := by have b0 : w0_46_2 = s119.2.2.1 46 4 := fr_F (s := (sF (sF sc0 46 4 w0_46_2) 46 3 (Int32.ofInt 0))) (sF_ne rfl (sF_get)) hF119 rfl; rw [← b0, ← e_46_2]; exact n122g
                          exact g_return (gd rfl) rfl (hP _ _ ⟨s119, hI119, (fr_tr rfl (fr_sF rfl (fr_sF rfl hFc0)) hF119), n122d, n122f, n122h, rfl, rfl, n122, n122a, n122b⟩)
                · skip
                  exact zn_ne c93 (in_c 0 rfl) rfl
              · skip
                have i80 := r_eq1 45 45 c80 i19 (in_c 45 rfl) rfl
                refine g_iconst 1 84 (gd rfl) rfl rfl ?_
                refine g_goto 88 (gd rfl) rfl ?_
                refine g_istore 90 (gd rfl) rfl (Nat.le_of_ble_eq_true rfl) ?_
                refine g_aload_n 91 (gd rfl) rfl rfl ?_
                refine g_iload 93 (gd rfl) rfl rfl ?_
                refine g_if_eq 96 105 (gd rfl) rfl rfl (fun c93 => ?_) (fun c93 => ?_)
                · skip
                  exact zn_eq c93 (in_c 1 rfl) rfl
                · skip
                  refine g_aload_n 97 (gd rfl) rfl rfl ?_
                  refine g_getI 100 (gd rfl) rfl rfl rfl (fun z97 e97 => ?_)
                  have q97 : w0_46_2 = z97 := (sF_ne rfl (sF_ne rfl (v0_46_2))).trans e97.symm
                  subst q97
                  refine g_iconst 1 101 (gd rfl) rfl rfl ?_
                  refine g_iadd 102 (gd rfl) rfl (fun z101 e101 => ?_)
                  have i101 := in_add 1 1000 e101 i8 (in_c 1 rfl) rfl rfl
                  refine g_goto 109 (gd rfl) rfl ?_
                  refine g_callv (X := _) (As := [.int z101]) (r := []) (b := A 46) (q := 46) 112 (gd rfl) rfl rfl rfl rfl rfl (ww_o rfl) (Nat.le_of_ble_eq_true rfl) (mc := 0) (ms := 0) (Nat.zero_le _) (Nat.zero_le _) (P := fun v u => _) ?_ (fun e u h => h) (fun v u h => h)
                  intro po109 xx109 hp109 hx109
                  refine g_enter2 (k := 172) (N := 300) (by first | exact dq1 hd rfl | exact dq0 hd rfl | exact dq2 hd rfl | exact dq3 hd rfl | omega) rfl (Nat.le_of_ble_eq_true rfl) ?_
                  refine g_iload_n 1 (gd rfl) rfl rfl ?_
                  refine g_aload_n 2 (gd rfl) rfl rfl ?_
                  refine g_getI 5 (gd rfl) rfl rfl rfl (fun z109x2 e109x2 => ?_)
                  have q109x2 : u_46_1 = z109x2 := (sF_ne rfl (sF_ne rfl (fr_F e_46_1 hFc0 rfl))).trans e109x2.symm
                  subst q109x2
                  refine g_cmp_ge 8 34 (gd rfl) rfl rfl (fun c109x5 => ?_) (fun c109x5 => ?_)
                  · skip
                    refine g_iconst 0 35 (gd rfl) rfl rfl ?_
                    refine g_ireturn (gd rfl) rfl (nb01 (in_w 0 1 (in_c 0 rfl) rfl)) (hp109 _ _ ?_)
                    show GG _ _ _ _ _ _ _ _ [.int (Int32.ofInt 0)] _ _ _
                    refine g_if_eq 115 123 (gd rfl) rfl rfl (fun c112 => ?_) (fun c112 => ?_)
                    · skip
                      refine g_aload_n 124 (gd rfl) rfl rfl ?_
                      refine g_dup 125 (gd rfl) rfl rfl ?_
                      refine g_getI 128 (gd rfl) rfl rfl rfl (fun z125 e125 => ?_)
                      have q125 : w0_46_2 = z125 := (sF_ne rfl (sF_ne rfl (v0_46_2))).trans e125.symm
                      subst q125
                      refine g_iconst 1 129 (gd rfl) rfl rfl ?_
                      refine g_iadd 130 (gd rfl) rfl (fun z129 e129 => ?_)
                      have i129 := in_add 1 1000 e129 i8 (in_c 1 rfl) rfl rfl
                      refine g_putI 133 (gd rfl) rfl rfl rfl rfl ?_
                      have hI130 := inv_sF (q := 46) (j := 2) hI48 rfl (in_w 0 1000 i129 rfl)
                      refine g_iload_n 134 (gd rfl) rfl rfl ?_
                      refine g_bipush 97 136 (gd rfl) rfl rfl ?_
                      refine g_cmp_lt 139 159 (gd rfl) rfl rfl (fun c136 => ?_) (fun c136 => ?_)
                      · skip
                        refine g_aload_n 160 (gd rfl) rfl rfl ?_
                        refine g_iload_n 161 (gd rfl) rfl rfl ?_
                        refine g_iload_n 162 (gd rfl) rfl rfl ?_
                        refine g_calls (As := [.int z19, .int x2]) (r := [.ref (A 46)]) 165 (gd rfl) rfl rfl rfl rfl rfl (Nat.le_of_ble_eq_true rfl) (mc := 0) (ms := 0) (Nat.zero_le _) (Nat.zero_le _) (P := fun v u => _) ?_ (fun v u h => h)
                        intro po162 xx162 hp162 hx162
                        refine g_enter2 (k := 174) (N := 300) (by first | exact dq1 hd rfl | exact dq0 hd rfl | exact dq2 hd rfl | exact dq3 hd rfl | omega) rfl (Nat.le_of_ble_eq_true rfl) ?_
                        refine g_iload_n 1 (gd rfl) rfl rfl ?_
                        refine g_bipush 59 3 (gd rfl) rfl rfl ?_
                        refine g_cmp_eq 6 19 (gd rfl) rfl rfl (fun c162x3 => ?_) (fun c162x3 => ?_)
                        · skip
                          exact n_eq c162x3 i80 (in_c 59 rfl) rfl
                        · skip
                          refine g_iload_n 7 (gd rfl) rfl rfl ?_
                          refine g_if_ne 10 23 (gd rfl) rfl rfl (fun c162x7 => ?_) (fun c162x7 => ?_)
                          · skip
                            refine g_iconst 0 24 (gd rfl) rfl rfl ?_
                            refine g_ireturn (gd rfl) rfl (nb01 (in_w 0 1 (in_c 0 rfl) rfl)) (hp162 _ _ ?_)
                            show GG _ _ _ _ _ _ _ _ [.int (Int32.ofInt 0), .ref (A 46)] _ _ _
                            refine g_if_eq 168 172 (gd rfl) rfl rfl (fun c165 => ?_) (fun c165 => ?_)
                            · skip
                              refine g_iconst 4 173 (gd rfl) rfl rfl ?_
                              refine g_putI 176 (gd rfl) rfl rfl rfl rfl ?_
                              have hI173 := inv_sF (q := 46) (j := 3) hI130 rfl (in_w 0 5 (in_c 4 rfl) rfl)
                              refine g_aload_n 177 (gd rfl) rfl rfl ?_
                              refine g_iload_n 178 (gd rfl) rfl rfl ?_
                              refine g_putI 181 (gd rfl) rfl rfl rfl rfl ?_
                              have hI178 := inv_sF (q := 46) (j := 5) hI173 rfl (in_w (-2147483648) 2147483647 i80 rfl)
                              have n181 : (x1).toInt = 6 → TK (sF (sF (sF (sF (sF sc0 46 4 w0_46_2) 46 3 (Int32.ofInt 0)) 46 2 z129) 46 3 (Int32.ofInt 4)) 46 5 z19) := by intro h6; exfalso; have a0 := oa8 h2 h1 i8a i8 ((in_c 1 rfl)) i80 ((in_c 4 rfl)) i129; have a8 := t_add e129 i8 (in_c 1 rfl) rfl; have a9 := in_u i101; have a10 := t_add e101 i8 (in_c 1 rfl) rfl; have oc := oc_171_46; omega
                              have n181a : ((sF (sF (sF (sF (sF sc0 46 4 w0_46_2) 46 3 (Int32.ofInt 0)) 46 2 z129) 46 3 (Int32.ofInt 4)) 46 5 z19).2.2.1 46 3).toInt = 1 → In ((sF (sF (sF (sF (sF sc0 46 4 w0_46_2) 46 3 (Int32.ofInt 0)) 46 2 z129) 46 3 (Int32.ofInt 4)) 46 5 z19).2.2.1 46 5) 0 25 := by intro h1; rw [← (show (Int32.ofInt 4) = (sF (sF (sF (sF (sF sc0 46 4 w0_46_2) 46 3 (Int32.ofInt 0)) 46 2 z129) 46 3 (Int32.ofInt 4)) 46 5 z19).2.2.1 46 3 from sF_ne rfl (sF_get))] at h1; exact absurd h1 (by decide)
                              have n181b : TKN (s.1 47) (s.2.2.1 46 1).toInt.toNat (s.2.2.1 46 2).toInt.toNat ((sF (sF (sF (sF (sF sc0 46 4 w0_46_2) 46 3 (Int32.ofInt 0)) 46 2 z129) 46 3 (Int32.ofInt 4)) 46 5 z19).2.2.1 46 4).toInt.toNat ((sF (sF (sF (sF (sF sc0 46 4 w0_46_2) 46 3 (Int32.ofInt 0)) 46 2 z129) 46 3 (Int32.ofInt 4)) 46 5 z19).2.2.1 46 2).toInt.toNat ((sF (sF (sF (sF (sF sc0 46 4 w0_46_2) 46 3 (Int32.ofInt 0)) 46 2 z129) 46 3 (Int32.ofInt 4)) 46 5 z19).2.2.1 46 3).toInt ((sF (sF (sF (sF (sF sc0 46 4 w0_46_2) 46 3 (Int32.ofInt 0)) 46 2 z129) 46 3 (Int32.ofInt 4)) 46 5 z19).2.2.1 46 5).toInt := by have hT0 : s.1 47 w0_46_2.toInt.toNat = z19 := (by rw [e19, hFc0.1 47 rfl]; rfl); have hS : tkS (s.1 47) (u_46_1).toInt.toNat (u_46_2).toInt.toNat w0_46_2.toInt.toNat := ⟨by have a0 := oa8 h2 h1 i8a i8 ((in_c 1 rfl)) i80 ((in_c 4 rfl)) i129; have a8 := t_add e129 i8 (in_c 1 rfl) rfl; have a9 := in_u i101; have a10 := t_add e101 i8 (in_c 1 rfl) rfl; have oc := oc_171_46; omega, by have a0 := oa8 h2 h1 i8a i8 ((in_c 1 rfl)) i80 ((in_c 4 rfl)) i129; have a8 := t_add e129 i8 (in_c 1 rfl) rfl; have a9 := in_u i101; have a10 := t_add e101 i8 (in_c 1 rfl) rfl; have oc := oc_171_46; omega, fun i a b => g0_0 i (by rw [← e_46_2]; exact a) (by have a0 := oa8 h2 h1 i8a i8 ((in_c 1 rfl)) i80 ((in_c 4 rfl)) i129; have a8 := t_add e129 i8 (in_c 1 rfl) rfl; have a9 := in_u i101; have a10 := t_add e101 i8 (in_c 1 rfl) rfl; have oc := oc_171_46; omega), fun _ => by rw [hT0]; have a0 := oa8 h2 h1 i8a i8 ((in_c 1 rfl)) i80 ((in_c 4 rfl)) i129; have a8 := t_add e129 i8 (in_c 1 rfl) rfl; have a9 := in_u i101; have a10 := t_add e101 i8 (in_c 1 rfl) rfl; have oc := oc_171_46; omega⟩; rw [← (show z129 = (sF (sF (sF (sF (sF sc0 46 4 w0_46_2) 46 3 (Int32.ofInt 0)) 46 2 z129) 46 3 (Int32.ofInt 4)) 46 5 z19).2.2.1 46 2 from sF_ne rfl (sF_ne rfl (sF_get))), ← (show w0_46_2 = (sF (sF (sF (sF (sF sc0 46 4 w0_46_2) 46 3 (Int32.ofInt 0)) 46 2 z129) 46 3 (Int32.ofInt 4)) 46 5 z19).2.2.1 46 4 from sF_ne rfl (sF_ne rfl (sF_ne rfl (sF_ne rfl (sF_get))))), ← (show (Int32.ofInt 4) = (sF (sF (sF (sF (sF sc0 46 4 w0_46_2) 46 3 (Int32.ofInt 0)) 46 2 z129) 46 3 (Int32.ofInt 4)) 46 5 z19).2.2.1 46 3 from sF_ne rfl (sF_get)), ← (show z19 = (sF (sF (sF (sF (sF sc0 46 4 w0_46_2) 46 3 (Int32.ofInt 0)) 46 2 z129) 46 3 (Int32.ofInt 4)) 46 5 z19).2.2.1 46 5 from sF_get), ← e_46_1, ← e_46_2]; first | exact tkn_3 hS (by have a0 := oa8 h2 h1 i8a i8 ((in_c 1 rfl)) i80 ((in_c 4 rfl)) i129; have a8 := t_add e129 i8 (in_c 1 rfl) rfl; have a9 := in_u i101; have a10 := t_add e101 i8 (in_c 1 rfl) rfl; have oc := oc_171_46; omega) (by rw [hT0]; have a0 := oa8 h2 h1 i8a i8 ((in_c 1 rfl)) i80 ((in_c 4 rfl)) i129; have a8 := t_add e129 i8 (in_c 1 rfl) rfl; have a9 := in_u i101; have a10 := t_add e101 i8 (in_c 1 rfl) rfl; have oc := oc_171_46; omega) (by have a0 := oa8 h2 h1 i8a i8 ((in_c 1 rfl)) i80 ((in_c 4 rfl)) i129; have a8 := t_add e129 i8 (in_c 1 rfl) rfl; have a9 := in_u i101; have a10 := t_add e101 i8 (in_c 1 rfl) rfl; have oc := oc_171_46; omega) (by decide) (by have a0 := oa8 h2 h1 i8a i8 ((in_c 1 rfl)) i80 ((in_c 4 rfl)) i129; have a8 := t_add e129 i8 (in_c 1 rfl) rfl; have a9 := in_u i101; have a10 := t_add e101 i8 (in_c 1 rfl) rfl; have oc := oc_171_46; omega) | exact tkn_4 hS (by have a0 := oa8 h2 h1 i8a i8 ((in_c 1 rfl)) i80 ((in_c 4 rfl)) i129; have a8 := t_add e129 i8 (in_c 1 rfl) rfl; have a9 := in_u i101; have a10 := t_add e101 i8 (in_c 1 rfl) rfl; have oc := oc_171_46; omega) (by rw [hT0]; unfold tkL; have a0 := oa8 h2 h1 i8a i8 ((in_c 1 rfl)) i80 ((in_c 4 rfl)) i129; have a8 := t_add e129 i8 (in_c 1 rfl) rfl; have a9 := in_u i101; have a10 := t_add e101 i8 (in_c 1 rfl) rfl; have oc := oc_171_46; omega) (by rw [hT0]; have a0 := oa8 h2 h1 i8a i8 ((in_c 1 rfl)) i80 ((in_c 4 rfl)) i129; have a8 := t_add e129 i8 (in_c 1 rfl) rfl; have a9 := in_u i101; have a10 := t_add e101 i8 (in_c 1 rfl) rfl; have oc := oc_171_46; omega) (by first | exact nq_1 (by rw [hT0]; unfold tkD; have a0 := oa8 h2 h1 i8a i8 ((in_c 1 rfl)) i80 ((in_c 4 rfl)) i129; have a8 := t_add e129 i8 (in_c 1 rfl) rfl; have a9 := in_u i101; have a10 := t_add e101 i8 (in_c 1 rfl) rfl; have oc := oc_171_46; omega) (by rw [hT0]; have a0 := oa8 h2 h1 i8a i8 ((in_c 1 rfl)) i80 ((in_c 4 rfl)) i129; have a8 := t_add e129 i8 (in_c 1 rfl) rfl; have a9 := in_u i101; have a10 := t_add e101 i8 (in_c 1 rfl) rfl; have oc := oc_171_46; omega) | exact nq_2 (by rw [hT0]; have a0 := oa8 h2 h1 i8a i8 ((in_c 1 rfl)) i80 ((in_c 4 rfl)) i129; have a8 := t_add e129 i8 (in_c 1 rfl) rfl; have a9 := in_u i101; have a10 := t_add e101 i8 (in_c 1 rfl) rfl; have oc := oc_171_46; omega) (fun h => by first | (exfalso; have a0 := oa8 h2 h1 i8a i8 ((in_c 1 rfl)) i80 ((in_c 4 rfl)) i129; have a8 := t_add e129 i8 (in_c 1 rfl) rfl; have a9 := in_u i101; have a10 := t_add e101 i8 (in_c 1 rfl) rfl; have oc := oc_171_46; omega) | (rw [show s.1 47 (w0_46_2.toInt.toNat + 1) = z109x13 from (by rw [e109x13, show z101.toNatClampNeg = w0_46_2.toInt.toNat + 1 from (by show z101.toInt.toNat = _; have a0 := oa8 h2 h1 i8a i8 ((in_c 1 rfl)) i80 ((in_c 4 rfl)) i129; have a8 := t_add e129 i8 (in_c 1 rfl) rfl; have a9 := in_u i101; have a10 := t_add e101 i8 (in_c 1 rfl) rfl; have oc := oc_171_46; omega)]; exact congrFun (hFc0.1 47 rfl).symm _)]; unfold tkD; have a0 := oa8 h2 h1 i8a i8 ((in_c 1 rfl)) i80 ((in_c 4 rfl)) i129; have a8 := t_add e129 i8 (in_c 1 rfl) rfl; have a9 := in_u i101; have a10 := t_add e101 i8 (in_c 1 rfl) rfl; have oc := oc_171_46; omega))) (by have a0 := oa8 h2 h1 i8a i8 ((in_c 1 rfl)) i80 ((in_c 4 rfl)) i129; have a8 := t_add e129 i8 (in_c 1 rfl) rfl; have a9 := in_u i101; have a10 := t_add e101 i8 (in_c 1 rfl) rfl; have oc := oc_171_46; omega) (by decide)
                              have n181c : (z129).toInt ≤ (u_46_1).toInt := by have a0 := oa8 h2 h1 i8a i8 ((in_c 1 rfl)) i80 ((in_c 4 rfl)) i129; have a8 := t_add e129 i8 (in_c 1 rfl) rfl; have a9 := in_u i101; have a10 := t_add e101 i8 (in_c 1 rfl) rfl; have oc := oc_171_46; omega
                              have n181d : ((sF (sF (sF (sF (sF sc0 46 4 w0_46_2) 46 3 (Int32.ofInt 0)) 46 2 z129) 46 3 (Int32.ofInt 4)) 46 5 z19).2.2.1 46 2).toInt ≤ ((sF (sF (sF (sF (sF sc0 46 4 w0_46_2) 46 3 (Int32.ofInt 0)) 46 2 z129) 46 3 (Int32.ofInt 4)) 46 5 z19).2.2.1 46 1).toInt := by have b0 : z129 = (sF (sF (sF (sF (sF sc0 46 4 w0_46_2) 46 3 (Int32.ofInt 0)) 46 2 z129) 46 3 (Int32.ofInt 4)) 46 5 z19).2.2.1 46 2 := sF_ne rfl (sF_ne rfl (sF_get)); have b1 : u_46_1 = (sF (sF (sF (sF (sF sc0 46 4 w0_46_2) 46 3 (Int32.ofInt 0)) 46 2 z129) 46 3 (Int32.ofInt 4)) 46 5 z19).2.2.1 46 1 := sF_ne rfl (sF_ne rfl (sF_ne rfl (sF_ne rfl (sF_ne rfl (fr_F e_46_1 hFc0 rfl))))); rw [← b0, ← b1]; exact n181c
                              have n181e : (w0_46_2).toInt ≤ (z129).toInt := by have a0 := oa8 h2 h1 i8a i8 ((in_c 1 rfl)) i80 ((in_c 4 rfl)) i129; have a8 := t_add e129 i8 (in_c 1 rfl) rfl; have a9 := in_u i101; have a10 := t_add e101 i8 (in_c 1 rfl) rfl; have oc := oc_171_46; omega
                              have n181f : ((sF (sF (sF (sF (sF sc0 46 4 w0_46_2) 46 3 (Int32.ofInt 0)) 46 2 z129) 46 3 (Int32.ofInt 4)) 46 5 z19).2.2.1 46 4).toInt ≤ ((sF (sF (sF (sF (sF sc0 46 4 w0_46_2) 46 3 (Int32.ofInt 0)) 46 2 z129) 46 3 (Int32.ofInt 4)) 46 5 z19).2.2.1 46 2).toInt := by have b0 : w0_46_2 = (sF (sF (sF (sF (sF sc0 46 4 w0_46_2) 46 3 (Int32.ofInt 0)) 46 2 z129) 46 3 (Int32.ofInt 4)) 46 5 z19).2.2.1 46 4 := sF_ne rfl (sF_ne rfl (sF_ne rfl (sF_ne rfl (sF_get)))); have b1 : z129 = (sF (sF (sF (sF (sF sc0 46 4 w0_46_2) 46 3 (Int32.ofInt 0)) 46 2 z129) 46 3 (Int32.ofInt 4)) 46 5 z19).2.2.1 46 2 := sF_ne rfl (sF_ne rfl (sF_get)); rw [← b0, ← b1]; exact n181e
                              have n181g : (u_46_2).toInt ≤ (w0_46_2).toInt := by first | exact n0_1 | (have a0 := oa8 h2 h1 i8a i8 ((in_c 1 rfl)) i80 ((in_c 4 rfl)) i129; have a8 := t_add e129 i8 (in_c 1 rfl) rfl; have a9 := in_u i101; have a10 := t_add e101 i8 (in_c 1 rfl) rfl; have oc := oc_171_46; omega)
                              have n181h : (s.2.2.1 46 2).toInt ≤ ((sF (sF (sF (sF (sF sc0 46 4 w0_46_2) 46 3 (Int32.ofInt 0)) 46 2 z129) 46 3 (Int32.ofInt 4)) 46 5 z19).2.2.1 46 4).toInt := by have b0 : w0_46_2 = (sF (sF (sF (sF (sF sc0 46 4 w0_46_2) 46 3 (Int32.ofInt 0)) 46 2 z129) 46 3 (Int32.ofInt 4)) 46 5 z19).2.2.1 46 4 := sF_ne rfl (sF_ne rfl (sF_ne rfl (sF_ne rfl (sF_get)))); rw [← b0, ← e_46_2]; exact n181g
                              exact g_return (gd rfl) rfl (hP _ _ ⟨(sF (sF (sF (sF (sF sc0 46 4 w0_46_2) 46 3 (Int32.ofInt 0)) 46 2 z129) 46 3 (Int32.ofInt 4)) 46 5 z19), hI178, (fr_sF rfl (fr_sF rfl (fr_sF rfl (fr_sF rfl (fr_sF rfl hFc0))))), n181d, n181f, n181h, rfl, rfl, n181, n181a, n181b⟩)
                            · skip
                              exact zn_ne c165 (in_c 0 rfl) rfl
                          · skip
                            exact zn_eq c162x7 h2 rfl
                      · skip
                        exact n_le c136 (in_c 97 rfl) i80 rfl
                    · skip
                      exact zn_ne c112 (in_c 0 rfl) rfl
                  · skip
                    have i109x5 := r_lt1 1 999 c109x5 i101 i8a rfl
                    have i109x5a := r_lt2 2 1000 c109x5 i101 i8a rfl
                    refine g_aload_n 9 (gd rfl) rfl rfl ?_
                    refine g_getA (q2 := 47) 12 (gd rfl) rfl rfl rfl rfl ?_
                    refine g_iload_n 13 (gd rfl) rfl rfl ?_
                    refine g_caload 14 (gd rfl) rfl (n := 1000) rfl (in_ix i109x5 rfl) (fun z109x13 e109x13 => ?_)
                    have i109x13 := inv_I hI48 (n := 1000) (t := 2) 0 65535 rfl (in_ix i109x5 rfl) rfl e109x13
                    refine g_bipush 48 16 (gd rfl) rfl rfl ?_
                    refine g_cmp_lt 19 34 (gd rfl) rfl rfl (fun c109x16 => ?_) (fun c109x16 => ?_)
                    · skip
                      have i109x16 := r_lt1 0 47 c109x16 i109x13 (in_c 48 rfl) rfl
                      refine g_iconst 0 35 (gd rfl) rfl rfl ?_
                      refine g_ireturn (gd rfl) rfl (nb01 (in_w 0 1 (in_c 0 rfl) rfl)) (hp109 _ _ ?_)
                      show GG _ _ _ _ _ _ _ _ [.int (Int32.ofInt 0)] _ _ _
                      refine g_if_eq 115 123 (gd rfl) rfl rfl (fun c112 => ?_) (fun c112 => ?_)
                      · skip
                        refine g_aload_n 124 (gd rfl) rfl rfl ?_
                        refine g_dup 125 (gd rfl) rfl rfl ?_
                        refine g_getI 128 (gd rfl) rfl rfl rfl (fun z125 e125 => ?_)
                        have q125 : w0_46_2 = z125 := (sF_ne rfl (sF_ne rfl (v0_46_2))).trans e125.symm
                        subst q125
                        refine g_iconst 1 129 (gd rfl) rfl rfl ?_
                        refine g_iadd 130 (gd rfl) rfl (fun z129 e129 => ?_)
                        have i129 := in_add 1 1000 e129 i8 (in_c 1 rfl) rfl rfl
                        refine g_putI 133 (gd rfl) rfl rfl rfl rfl ?_
                        have hI130 := inv_sF (q := 46) (j := 2) hI48 rfl (in_w 0 1000 i129 rfl)
                        refine g_iload_n 134 (gd rfl) rfl rfl ?_
                        refine g_bipush 97 136 (gd rfl) rfl rfl ?_
                        refine g_cmp_lt 139 159 (gd rfl) rfl rfl (fun c136 => ?_) (fun c136 => ?_)
                        · skip
                          refine g_aload_n 160 (gd rfl) rfl rfl ?_
                          refine g_iload_n 161 (gd rfl) rfl rfl ?_
                          refine g_iload_n 162 (gd rfl) rfl rfl ?_
                          refine g_calls (As := [.int z19, .int x2]) (r := [.ref (A 46)]) 165 (gd rfl) rfl rfl rfl rfl rfl (Nat.le_of_ble_eq_true rfl) (mc := 0) (ms := 0) (Nat.zero_le _) (Nat.zero_le _) (P := fun v u => _) ?_ (fun v u h => h)
                          intro po162 xx162 hp162 hx162
                          refine g_enter2 (k := 174) (N := 300) (by first | exact dq1 hd rfl | exact dq0 hd rfl | exact dq2 hd rfl | exact dq3 hd rfl | omega) rfl (Nat.le_of_ble_eq_true rfl) ?_
                          refine g_iload_n 1 (gd rfl) rfl rfl ?_
                          refine g_bipush 59 3 (gd rfl) rfl rfl ?_
                          refine g_cmp_eq 6 19 (gd rfl) rfl rfl (fun c162x3 => ?_) (fun c162x3 => ?_)
                          · skip
                            exact n_eq c162x3 i80 (in_c 59 rfl) rfl
                          · skip
                            refine g_iload_n 7 (gd rfl) rfl rfl ?_
                            refine g_if_ne 10 23 (gd rfl) rfl rfl (fun c162x7 => ?_) (fun c162x7 => ?_)
                            · skip
                              refine g_iconst 0 24 (gd rfl) rfl rfl ?_
                              refine g_ireturn (gd rfl) rfl (nb01 (in_w 0 1 (in_c 0 rfl) rfl)) (hp162 _ _ ?_)
                              show GG _ _ _ _ _ _ _ _ [.int (Int32.ofInt 0), .ref (A 46)] _ _ _
                              refine g_if_eq 168 172 (gd rfl) rfl rfl (fun c165 => ?_) (fun c165 => ?_)
                              · skip
                                refine g_iconst 4 173 (gd rfl) rfl rfl ?_
                                refine g_putI 176 (gd rfl) rfl rfl rfl rfl ?_
                                have hI173 := inv_sF (q := 46) (j := 3) hI130 rfl (in_w 0 5 (in_c 4 rfl) rfl)
                                refine g_aload_n 177 (gd rfl) rfl rfl ?_
                                refine g_iload_n 178 (gd rfl) rfl rfl ?_
                                refine g_putI 181 (gd rfl) rfl rfl rfl rfl ?_
                                have hI178 := inv_sF (q := 46) (j := 5) hI173 rfl (in_w (-2147483648) 2147483647 i80 rfl)
                                have n181 : (x1).toInt = 6 → TK (sF (sF (sF (sF (sF sc0 46 4 w0_46_2) 46 3 (Int32.ofInt 0)) 46 2 z129) 46 3 (Int32.ofInt 4)) 46 5 z19) := by intro h6; exfalso; have a0 := oa8 h2 h1 i109x5a i8 ((in_c 1 rfl)) i80 ((in_c 4 rfl)) i129; have a8 := t_add e129 i8 (in_c 1 rfl) rfl; have a9 := in_u i109x5; have a10 := t_add e101 i8 (in_c 1 rfl) rfl; have oc := oc_171_46; omega
                                have n181a : ((sF (sF (sF (sF (sF sc0 46 4 w0_46_2) 46 3 (Int32.ofInt 0)) 46 2 z129) 46 3 (Int32.ofInt 4)) 46 5 z19).2.2.1 46 3).toInt = 1 → In ((sF (sF (sF (sF (sF sc0 46 4 w0_46_2) 46 3 (Int32.ofInt 0)) 46 2 z129) 46 3 (Int32.ofInt 4)) 46 5 z19).2.2.1 46 5) 0 25 := by intro h1; rw [← (show (Int32.ofInt 4) = (sF (sF (sF (sF (sF sc0 46 4 w0_46_2) 46 3 (Int32.ofInt 0)) 46 2 z129) 46 3 (Int32.ofInt 4)) 46 5 z19).2.2.1 46 3 from sF_ne rfl (sF_get))] at h1; exact absurd h1 (by decide)
                                have n181b : TKN (s.1 47) (s.2.2.1 46 1).toInt.toNat (s.2.2.1 46 2).toInt.toNat ((sF (sF (sF (sF (sF sc0 46 4 w0_46_2) 46 3 (Int32.ofInt 0)) 46 2 z129) 46 3 (Int32.ofInt 4)) 46 5 z19).2.2.1 46 4).toInt.toNat ((sF (sF (sF (sF (sF sc0 46 4 w0_46_2) 46 3 (Int32.ofInt 0)) 46 2 z129) 46 3 (Int32.ofInt 4)) 46 5 z19).2.2.1 46 2).toInt.toNat ((sF (sF (sF (sF (sF sc0 46 4 w0_46_2) 46 3 (Int32.ofInt 0)) 46 2 z129) 46 3 (Int32.ofInt 4)) 46 5 z19).2.2.1 46 3).toInt ((sF (sF (sF (sF (sF sc0 46 4 w0_46_2) 46 3 (Int32.ofInt 0)) 46 2 z129) 46 3 (Int32.ofInt 4)) 46 5 z19).2.2.1 46 5).toInt := by have hT0 : s.1 47 w0_46_2.toInt.toNat = z19 := (by rw [e19, hFc0.1 47 rfl]; rfl); have hS : tkS (s.1 47) (u_46_1).toInt.toNat (u_46_2).toInt.toNat w0_46_2.toInt.toNat := ⟨by have a0 := oa8 h2 h1 i109x5a i8 ((in_c 1 rfl)) i80 ((in_c 4 rfl)) i129; have a8 := t_add e129 i8 (in_c 1 rfl) rfl; have a9 := in_u i109x5; have a10 := t_add e101 i8 (in_c 1 rfl) rfl; have oc := oc_171_46; omega, by have a0 := oa8 h2 h1 i109x5a i8 ((in_c 1 rfl)) i80 ((in_c 4 rfl)) i129; have a8 := t_add e129 i8 (in_c 1 rfl) rfl; have a9 := in_u i109x5; have a10 := t_add e101 i8 (in_c 1 rfl) rfl; have oc := oc_171_46; omega, fun i a b => g0_0 i (by rw [← e_46_2]; exact a) (by have a0 := oa8 h2 h1 i109x5a i8 ((in_c 1 rfl)) i80 ((in_c 4 rfl)) i129; have a8 := t_add e129 i8 (in_c 1 rfl) rfl; have a9 := in_u i109x5; have a10 := t_add e101 i8 (in_c 1 rfl) rfl; have oc := oc_171_46; omega), fun _ => by rw [hT0]; have a0 := oa8 h2 h1 i109x5a i8 ((in_c 1 rfl)) i80 ((in_c 4 rfl)) i129; have a8 := t_add e129 i8 (in_c 1 rfl) rfl; have a9 := in_u i109x5; have a10 := t_add e101 i8 (in_c 1 rfl) rfl; have oc := oc_171_46; omega⟩; rw [← (show z129 = (sF (sF (sF (sF (sF sc0 46 4 w0_46_2) 46 3 (Int32.ofInt 0)) 46 2 z129) 46 3 (Int32.ofInt 4)) 46 5 z19).2.2.1 46 2 from sF_ne rfl (sF_ne rfl (sF_get))), ← (show w0_46_2 = (sF (sF (sF (sF (sF sc0 46 4 w0_46_2) 46 3 (Int32.ofInt 0)) 46 2 z129) 46 3 (Int32.ofInt 4)) 46 5 z19).2.2.1 46 4 from sF_ne rfl (sF_ne rfl (sF_ne rfl (sF_ne rfl (sF_get))))), ← (show (Int32.ofInt 4) = (sF (sF (sF (sF (sF sc0 46 4 w0_46_2) 46 3 (Int32.ofInt 0)) 46 2 z129) 46 3 (Int32.ofInt 4)) 46 5 z19).2.2.1 46 3 from sF_ne rfl (sF_get)), ← (show z19 = (sF (sF (sF (sF (sF sc0 46 4 w0_46_2) 46 3 (Int32.ofInt 0)) 46 2 z129) 46 3 (Int32.ofInt 4)) 46 5 z19).2.2.1 46 5 from sF_get), ← e_46_1, ← e_46_2]; first | exact tkn_3 hS (by have a0 := oa8 h2 h1 i109x5a i8 ((in_c 1 rfl)) i80 ((in_c 4 rfl)) i129; have a8 := t_add e129 i8 (in_c 1 rfl) rfl; have a9 := in_u i109x5; have a10 := t_add e101 i8 (in_c 1 rfl) rfl; have oc := oc_171_46; omega) (by rw [hT0]; have a0 := oa8 h2 h1 i109x5a i8 ((in_c 1 rfl)) i80 ((in_c 4 rfl)) i129; have a8 := t_add e129 i8 (in_c 1 rfl) rfl; have a9 := in_u i109x5; have a10 := t_add e101 i8 (in_c 1 rfl) rfl; have oc := oc_171_46; omega) (by have a0 := oa8 h2 h1 i109x5a i8 ((in_c 1 rfl)) i80 ((in_c 4 rfl)) i129; have a8 := t_add e129 i8 (in_c 1 rfl) rfl; have a9 := in_u i109x5; have a10 := t_add e101 i8 (in_c 1 rfl) rfl; have oc := oc_171_46; omega) (by decide) (by have a0 := oa8 h2 h1 i109x5a i8 ((in_c 1 rfl)) i80 ((in_c 4 rfl)) i129; have a8 := t_add e129 i8 (in_c 1 rfl) rfl; have a9 := in_u i109x5; have a10 := t_add e101 i8 (in_c 1 rfl) rfl; have oc := oc_171_46; omega) | exact tkn_4 hS (by have a0 := oa8 h2 h1 i109x5a i8 ((in_c 1 rfl)) i80 ((in_c 4 rfl)) i129; have a8 := t_add e129 i8 (in_c 1 rfl) rfl; have a9 := in_u i109x5; have a10 := t_add e101 i8 (in_c 1 rfl) rfl; have oc := oc_171_46; omega) (by rw [hT0]; unfold tkL; have a0 := oa8 h2 h1 i109x5a i8 ((in_c 1 rfl)) i80 ((in_c 4 rfl)) i129; have a8 := t_add e129 i8 (in_c 1 rfl) rfl; have a9 := in_u i109x5; have a10 := t_add e101 i8 (in_c 1 rfl) rfl; have oc := oc_171_46; omega) (by rw [hT0]; have a0 := oa8 h2 h1 i109x5a i8 ((in_c 1 rfl)) i80 ((in_c 4 rfl)) i129; have a8 := t_add e129 i8 (in_c 1 rfl) rfl; have a9 := in_u i109x5; have a10 := t_add e101 i8 (in_c 1 rfl) rfl; have oc := oc_171_46; omega) (by first | exact nq_1 (by rw [hT0]; unfold tkD; have a0 := oa8 h2 h1 i109x5a i8 ((in_c 1 rfl)) i80 ((in_c 4 rfl)) i129; have a8 := t_add e129 i8 (in_c 1 rfl) rfl; have a9 := in_u i109x5; have a10 := t_add e101 i8 (in_c 1 rfl) rfl; have oc := oc_171_46; omega) (by rw [hT0]; have a0 := oa8 h2 h1 i109x5a i8 ((in_c 1 rfl)) i80 ((in_c 4 rfl)) i129; have a8 := t_add e129 i8 (in_c 1 rfl) rfl; have a9 := in_u i109x5; have a10 := t_add e101 i8 (in_c 1 rfl) rfl; have oc := oc_171_46; omega) | exact nq_2 (by rw [hT0]; have a0 := oa8 h2 h1 i109x5a i8 ((in_c 1 rfl)) i80 ((in_c 4 rfl)) i129; have a8 := t_add e129 i8 (in_c 1 rfl) rfl; have a9 := in_u i109x5; have a10 := t_add e101 i8 (in_c 1 rfl) rfl; have oc := oc_171_46; omega) (fun h => by first | (exfalso; have a0 := oa8 h2 h1 i109x5a i8 ((in_c 1 rfl)) i80 ((in_c 4 rfl)) i129; have a8 := t_add e129 i8 (in_c 1 rfl) rfl; have a9 := in_u i109x5; have a10 := t_add e101 i8 (in_c 1 rfl) rfl; have oc := oc_171_46; omega) | (rw [show s.1 47 (w0_46_2.toInt.toNat + 1) = z109x13 from (by rw [e109x13, show z101.toNatClampNeg = w0_46_2.toInt.toNat + 1 from (by show z101.toInt.toNat = _; have a0 := oa8 h2 h1 i109x5a i8 ((in_c 1 rfl)) i80 ((in_c 4 rfl)) i129; have a8 := t_add e129 i8 (in_c 1 rfl) rfl; have a9 := in_u i109x5; have a10 := t_add e101 i8 (in_c 1 rfl) rfl; have oc := oc_171_46; omega)]; exact congrFun (hFc0.1 47 rfl).symm _)]; unfold tkD; have a0 := oa8 h2 h1 i109x5a i8 ((in_c 1 rfl)) i80 ((in_c 4 rfl)) i129; have a8 := t_add e129 i8 (in_c 1 rfl) rfl; have a9 := in_u i109x5; have a10 := t_add e101 i8 (in_c 1 rfl) rfl; have oc := oc_171_46; omega))) (by have a0 := oa8 h2 h1 i109x5a i8 ((in_c 1 rfl)) i80 ((in_c 4 rfl)) i129; have a8 := t_add e129 i8 (in_c 1 rfl) rfl; have a9 := in_u i109x5; have a10 := t_add e101 i8 (in_c 1 rfl) rfl; have oc := oc_171_46; omega) (by decide)
                                have n181c : (z129).toInt ≤ (u_46_1).toInt := by have a0 := oa8 h2 h1 i109x5a i8 ((in_c 1 rfl)) i80 ((in_c 4 rfl)) i129; have a8 := t_add e129 i8 (in_c 1 rfl) rfl; have a9 := in_u i109x5; have a10 := t_add e101 i8 (in_c 1 rfl) rfl; have oc := oc_171_46; omega
                                have n181d : ((sF (sF (sF (sF (sF sc0 46 4 w0_46_2) 46 3 (Int32.ofInt 0)) 46 2 z129) 46 3 (Int32.ofInt 4)) 46 5 z19).2.2.1 46 2).toInt ≤ ((sF (sF (sF (sF (sF sc0 46 4 w0_46_2) 46 3 (Int32.ofInt 0)) 46 2 z129) 46 3 (Int32.ofInt 4)) 46 5 z19).2.2.1 46 1).toInt := by have b0 : z129 = (sF (sF (sF (sF (sF sc0 46 4 w0_46_2) 46 3 (Int32.ofInt 0)) 46 2 z129) 46 3 (Int32.ofInt 4)) 46 5 z19).2.2.1 46 2 := sF_ne rfl (sF_ne rfl (sF_get)); have b1 : u_46_1 = (sF (sF (sF (sF (sF sc0 46 4 w0_46_2) 46 3 (Int32.ofInt 0)) 46 2 z129) 46 3 (Int32.ofInt 4)) 46 5 z19).2.2.1 46 1 := sF_ne rfl (sF_ne rfl (sF_ne rfl (sF_ne rfl (sF_ne rfl (fr_F e_46_1 hFc0 rfl))))); rw [← b0, ← b1]; exact n181c
                                have n181e : (w0_46_2).toInt ≤ (z129).toInt := by have a0 := oa8 h2 h1 i109x5a i8 ((in_c 1 rfl)) i80 ((in_c 4 rfl)) i129; have a8 := t_add e129 i8 (in_c 1 rfl) rfl; have a9 := in_u i109x5; have a10 := t_add e101 i8 (in_c 1 rfl) rfl; have oc := oc_171_46; omega
                                have n181f : ((sF (sF (sF (sF (sF sc0 46 4 w0_46_2) 46 3 (Int32.ofInt 0)) 46 2 z129) 46 3 (Int32.ofInt 4)) 46 5 z19).2.2.1 46 4).toInt ≤ ((sF (sF (sF (sF (sF sc0 46 4 w0_46_2) 46 3 (Int32.ofInt 0)) 46 2 z129) 46 3 (Int32.ofInt 4)) 46 5 z19).2.2.1 46 2).toInt := by have b0 : w0_46_2 = (sF (sF (sF (sF (sF sc0 46 4 w0_46_2) 46 3 (Int32.ofInt 0)) 46 2 z129) 46 3 (Int32.ofInt 4)) 46 5 z19).2.2.1 46 4 := sF_ne rfl (sF_ne rfl (sF_ne rfl (sF_ne rfl (sF_get)))); have b1 : z129 = (sF (sF (sF (sF (sF sc0 46 4 w0_46_2) 46 3 (Int32.ofInt 0)) 46 2 z129) 46 3 (Int32.ofInt 4)) 46 5 z19).2.2.1 46 2 := sF_ne rfl (sF_ne rfl (sF_get)); rw [← b0, ← b1]; exact n181e
                                have n181g : (u_46_2).toInt ≤ (w0_46_2).toInt := by first | exact n0_1 | (have a0 := oa8 h2 h1 i109x5a i8 ((in_c 1 rfl)) i80 ((in_c 4 rfl)) i129; have a8 := t_add e129 i8 (in_c 1 rfl) rfl; have a9 := in_u i109x5; have a10 := t_add e101 i8 (in_c 1 rfl) rfl; have oc := oc_171_46; omega)
                                have n181h : (s.2.2.1 46 2).toInt ≤ ((sF (sF (sF (sF (sF sc0 46 4 w0_46_2) 46 3 (Int32.ofInt 0)) 46 2 z129) 46 3 (Int32.ofInt 4)) 46 5 z19).2.2.1 46 4).toInt := by have b0 : w0_46_2 = (sF (sF (sF (sF (sF sc0 46 4 w0_46_2) 46 3 (Int32.ofInt 0)) 46 2 z129) 46 3 (Int32.ofInt 4)) 46 5 z19).2.2.1 46 4 := sF_ne rfl (sF_ne rfl (sF_ne rfl (sF_ne rfl (sF_get)))); rw [← b0, ← e_46_2]; exact n181g
                                exact g_return (gd rfl) rfl (hP _ _ ⟨(sF (sF (sF (sF (sF sc0 46 4 w0_46_2) 46 3 (Int32.ofInt 0)) 46 2 z129) 46 3 (Int32.ofInt 4)) 46 5 z19), hI178, (fr_sF rfl (fr_sF rfl (fr_sF rfl (fr_sF rfl (fr_sF rfl hFc0))))), n181d, n181f, n181h, rfl, rfl, n181, n181a, n181b⟩)
                              · skip
                                exact zn_ne c165 (in_c 0 rfl) rfl
                            · skip
                              exact zn_eq c162x7 h2 rfl
                        · skip
                          exact n_le c136 (in_c 97 rfl) i80 rfl
                      · skip
                        exact zn_ne c112 (in_c 0 rfl) rfl
                    · skip
                      have i109x16 := r_le2 48 65535 c109x16 (in_c 48 rfl) i109x13 rfl
                      refine g_aload_n 20 (gd rfl) rfl rfl ?_
                      refine g_getA (q2 := 47) 23 (gd rfl) rfl rfl rfl rfl ?_
                      refine g_iload_n 24 (gd rfl) rfl rfl ?_
                      refine g_caload 25 (gd rfl) rfl (n := 1000) rfl (in_ix i109x5 rfl) (fun z109x24 e109x24 => ?_)
                      have q109x24 : z109x13 = z109x24 := (e109x13).trans e109x24.symm
                      subst q109x24
                      refine g_bipush 57 27 (gd rfl) rfl rfl ?_
                      refine g_cmp_gt 30 34 (gd rfl) rfl rfl (fun c109x27 => ?_) (fun c109x27 => ?_)
                      · skip
                        have i109x27 := r_lt2 58 65535 c109x27 (in_c 57 rfl) i109x16 rfl
                        refine g_iconst 0 35 (gd rfl) rfl rfl ?_
                        refine g_ireturn (gd rfl) rfl (nb01 (in_w 0 1 (in_c 0 rfl) rfl)) (hp109 _ _ ?_)
                        show GG _ _ _ _ _ _ _ _ [.int (Int32.ofInt 0)] _ _ _
                        refine g_if_eq 115 123 (gd rfl) rfl rfl (fun c112 => ?_) (fun c112 => ?_)
                        · skip
                          refine g_aload_n 124 (gd rfl) rfl rfl ?_
                          refine g_dup 125 (gd rfl) rfl rfl ?_
                          refine g_getI 128 (gd rfl) rfl rfl rfl (fun z125 e125 => ?_)
                          have q125 : w0_46_2 = z125 := (sF_ne rfl (sF_ne rfl (v0_46_2))).trans e125.symm
                          subst q125
                          refine g_iconst 1 129 (gd rfl) rfl rfl ?_
                          refine g_iadd 130 (gd rfl) rfl (fun z129 e129 => ?_)
                          have i129 := in_add 1 1000 e129 i8 (in_c 1 rfl) rfl rfl
                          refine g_putI 133 (gd rfl) rfl rfl rfl rfl ?_
                          have hI130 := inv_sF (q := 46) (j := 2) hI48 rfl (in_w 0 1000 i129 rfl)
                          refine g_iload_n 134 (gd rfl) rfl rfl ?_
                          refine g_bipush 97 136 (gd rfl) rfl rfl ?_
                          refine g_cmp_lt 139 159 (gd rfl) rfl rfl (fun c136 => ?_) (fun c136 => ?_)
                          · skip
                            refine g_aload_n 160 (gd rfl) rfl rfl ?_
                            refine g_iload_n 161 (gd rfl) rfl rfl ?_
                            refine g_iload_n 162 (gd rfl) rfl rfl ?_
                            refine g_calls (As := [.int z19, .int x2]) (r := [.ref (A 46)]) 165 (gd rfl) rfl rfl rfl rfl rfl (Nat.le_of_ble_eq_true rfl) (mc := 0) (ms := 0) (Nat.zero_le _) (Nat.zero_le _) (P := fun v u => _) ?_ (fun v u h => h)
                            intro po162 xx162 hp162 hx162
                            refine g_enter2 (k := 174) (N := 300) (by first | exact dq1 hd rfl | exact dq0 hd rfl | exact dq2 hd rfl | exact dq3 hd rfl | omega) rfl (Nat.le_of_ble_eq_true rfl) ?_
                            refine g_iload_n 1 (gd rfl) rfl rfl ?_
                            refine g_bipush 59 3 (gd rfl) rfl rfl ?_
                            refine g_cmp_eq 6 19 (gd rfl) rfl rfl (fun c162x3 => ?_) (fun c162x3 => ?_)
                            · skip
                              exact n_eq c162x3 i80 (in_c 59 rfl) rfl
                            · skip
                              refine g_iload_n 7 (gd rfl) rfl rfl ?_
                              refine g_if_ne 10 23 (gd rfl) rfl rfl (fun c162x7 => ?_) (fun c162x7 => ?_)
                              · skip
                                refine g_iconst 0 24 (gd rfl) rfl rfl ?_
                                refine g_ireturn (gd rfl) rfl (nb01 (in_w 0 1 (in_c 0 rfl) rfl)) (hp162 _ _ ?_)
                                show GG _ _ _ _ _ _ _ _ [.int (Int32.ofInt 0), .ref (A 46)] _ _ _
                                refine g_if_eq 168 172 (gd rfl) rfl rfl (fun c165 => ?_) (fun c165 => ?_)
                                · skip
                                  refine g_iconst 4 173 (gd rfl) rfl rfl ?_
                                  refine g_putI 176 (gd rfl) rfl rfl rfl rfl ?_
                                  have hI173 := inv_sF (q := 46) (j := 3) hI130 rfl (in_w 0 5 (in_c 4 rfl) rfl)
                                  refine g_aload_n 177 (gd rfl) rfl rfl ?_
                                  refine g_iload_n 178 (gd rfl) rfl rfl ?_
                                  refine g_putI 181 (gd rfl) rfl rfl rfl rfl ?_
                                  have hI178 := inv_sF (q := 46) (j := 5) hI173 rfl (in_w (-2147483648) 2147483647 i80 rfl)
                                  have n181 : (x1).toInt = 6 → TK (sF (sF (sF (sF (sF sc0 46 4 w0_46_2) 46 3 (Int32.ofInt 0)) 46 2 z129) 46 3 (Int32.ofInt 4)) 46 5 z19) := by intro h6; exfalso; have a0 := oa8 h2 h1 i109x5a i8 ((in_c 1 rfl)) i80 ((in_c 4 rfl)) i129; have a8 := t_add e129 i8 (in_c 1 rfl) rfl; have a9 := in_u i109x5; have a10 := t_add e101 i8 (in_c 1 rfl) rfl; have oc := oc_171_46; omega
                                  have n181a : ((sF (sF (sF (sF (sF sc0 46 4 w0_46_2) 46 3 (Int32.ofInt 0)) 46 2 z129) 46 3 (Int32.ofInt 4)) 46 5 z19).2.2.1 46 3).toInt = 1 → In ((sF (sF (sF (sF (sF sc0 46 4 w0_46_2) 46 3 (Int32.ofInt 0)) 46 2 z129) 46 3 (Int32.ofInt 4)) 46 5 z19).2.2.1 46 5) 0 25 := by intro h1; rw [← (show (Int32.ofInt 4) = (sF (sF (sF (sF (sF sc0 46 4 w0_46_2) 46 3 (Int32.ofInt 0)) 46 2 z129) 46 3 (Int32.ofInt 4)) 46 5 z19).2.2.1 46 3 from sF_ne rfl (sF_get))] at h1; exact absurd h1 (by decide)
                                  have n181b : TKN (s.1 47) (s.2.2.1 46 1).toInt.toNat (s.2.2.1 46 2).toInt.toNat ((sF (sF (sF (sF (sF sc0 46 4 w0_46_2) 46 3 (Int32.ofInt 0)) 46 2 z129) 46 3 (Int32.ofInt 4)) 46 5 z19).2.2.1 46 4).toInt.toNat ((sF (sF (sF (sF (sF sc0 46 4 w0_46_2) 46 3 (Int32.ofInt 0)) 46 2 z129) 46 3 (Int32.ofInt 4)) 46 5 z19).2.2.1 46 2).toInt.toNat ((sF (sF (sF (sF (sF sc0 46 4 w0_46_2) 46 3 (Int32.ofInt 0)) 46 2 z129) 46 3 (Int32.ofInt 4)) 46 5 z19).2.2.1 46 3).toInt ((sF (sF (sF (sF (sF sc0 46 4 w0_46_2) 46 3 (Int32.ofInt 0)) 46 2 z129) 46 3 (Int32.ofInt 4)) 46 5 z19).2.2.1 46 5).toInt := by have hT0 : s.1 47 w0_46_2.toInt.toNat = z19 := (by rw [e19, hFc0.1 47 rfl]; rfl); have hS : tkS (s.1 47) (u_46_1).toInt.toNat (u_46_2).toInt.toNat w0_46_2.toInt.toNat := ⟨by have a0 := oa8 h2 h1 i109x5a i8 ((in_c 1 rfl)) i80 ((in_c 4 rfl)) i129; have a8 := t_add e129 i8 (in_c 1 rfl) rfl; have a9 := in_u i109x5; have a10 := t_add e101 i8 (in_c 1 rfl) rfl; have oc := oc_171_46; omega, by have a0 := oa8 h2 h1 i109x5a i8 ((in_c 1 rfl)) i80 ((in_c 4 rfl)) i129; have a8 := t_add e129 i8 (in_c 1 rfl) rfl; have a9 := in_u i109x5; have a10 := t_add e101 i8 (in_c 1 rfl) rfl; have oc := oc_171_46; omega, fun i a b => g0_0 i (by rw [← e_46_2]; exact a) (by have a0 := oa8 h2 h1 i109x5a i8 ((in_c 1 rfl)) i80 ((in_c 4 rfl)) i129; have a8 := t_add e129 i8 (in_c 1 rfl) rfl; have a9 := in_u i109x5; have a10 := t_add e101 i8 (in_c 1 rfl) rfl; have oc := oc_171_46; omega), fun _ => by rw [hT0]; have a0 := oa8 h2 h1 i109x5a i8 ((in_c 1 rfl)) i80 ((in_c 4 rfl)) i129; have a8 := t_add e129 i8 (in_c 1 rfl) rfl; have a9 := in_u i109x5; have a10 := t_add e101 i8 (in_c 1 rfl) rfl; have oc := oc_171_46; omega⟩; rw [← (show z129 = (sF (sF (sF (sF (sF sc0 46 4 w0_46_2) 46 3 (Int32.ofInt 0)) 46 2 z129) 46 3 (Int32.ofInt 4)) 46 5 z19).2.2.1 46 2 from sF_ne rfl (sF_ne rfl (sF_get))), ← (show w0_46_2 = (sF (sF (sF (sF (sF sc0 46 4 w0_46_2) 46 3 (Int32.ofInt 0)) 46 2 z129) 46 3 (Int32.ofInt 4)) 46 5 z19).2.2.1 46 4 from sF_ne rfl (sF_ne rfl (sF_ne rfl (sF_ne rfl (sF_get))))), ← (show (Int32.ofInt 4) = (sF (sF (sF (sF (sF sc0 46 4 w0_46_2) 46 3 (Int32.ofInt 0)) 46 2 z129) 46 3 (Int32.ofInt 4)) 46 5 z19).2.2.1 46 3 from sF_ne rfl (sF_get)), ← (show z19 = (sF (sF (sF (sF (sF sc0 46 4 w0_46_2) 46 3 (Int32.ofInt 0)) 46 2 z129) 46 3 (Int32.ofInt 4)) 46 5 z19).2.2.1 46 5 from sF_get), ← e_46_1, ← e_46_2]; first | exact tkn_3 hS (by have a0 := oa8 h2 h1 i109x5a i8 ((in_c 1 rfl)) i80 ((in_c 4 rfl)) i129; have a8 := t_add e129 i8 (in_c 1 rfl) rfl; have a9 := in_u i109x5; have a10 := t_add e101 i8 (in_c 1 rfl) rfl; have oc := oc_171_46; omega) (by rw [hT0]; have a0 := oa8 h2 h1 i109x5a i8 ((in_c 1 rfl)) i80 ((in_c 4 rfl)) i129; have a8 := t_add e129 i8 (in_c 1 rfl) rfl; have a9 := in_u i109x5; have a10 := t_add e101 i8 (in_c 1 rfl) rfl; have oc := oc_171_46; omega) (by have a0 := oa8 h2 h1 i109x5a i8 ((in_c 1 rfl)) i80 ((in_c 4 rfl)) i129; have a8 := t_add e129 i8 (in_c 1 rfl) rfl; have a9 := in_u i109x5; have a10 := t_add e101 i8 (in_c 1 rfl) rfl; have oc := oc_171_46; omega) (by decide) (by have a0 := oa8 h2 h1 i109x5a i8 ((in_c 1 rfl)) i80 ((in_c 4 rfl)) i129; have a8 := t_add e129 i8 (in_c 1 rfl) rfl; have a9 := in_u i109x5; have a10 := t_add e101 i8 (in_c 1 rfl) rfl; have oc := oc_171_46; omega) | exact tkn_4 hS (by have a0 := oa8 h2 h1 i109x5a i8 ((in_c 1 rfl)) i80 ((in_c 4 rfl)) i129; have a8 := t_add e129 i8 (in_c 1 rfl) rfl; have a9 := in_u i109x5; have a10 := t_add e101 i8 (in_c 1 rfl) rfl; have oc := oc_171_46; omega) (by rw [hT0]; unfold tkL; have a0 := oa8 h2 h1 i109x5a i8 ((in_c 1 rfl)) i80 ((in_c 4 rfl)) i129; have a8 := t_add e129 i8 (in_c 1 rfl) rfl; have a9 := in_u i109x5; have a10 := t_add e101 i8 (in_c 1 rfl) rfl; have oc := oc_171_46; omega) (by rw [hT0]; have a0 := oa8 h2 h1 i109x5a i8 ((in_c 1 rfl)) i80 ((in_c 4 rfl)) i129; have a8 := t_add e129 i8 (in_c 1 rfl) rfl; have a9 := in_u i109x5; have a10 := t_add e101 i8 (in_c 1 rfl) rfl; have oc := oc_171_46; omega) (by first | exact nq_1 (by rw [hT0]; unfold tkD; have a0 := oa8 h2 h1 i109x5a i8 ((in_c 1 rfl)) i80 ((in_c 4 rfl)) i129; have a8 := t_add e129 i8 (in_c 1 rfl) rfl; have a9 := in_u i109x5; have a10 := t_add e101 i8 (in_c 1 rfl) rfl; have oc := oc_171_46; omega) (by rw [hT0]; have a0 := oa8 h2 h1 i109x5a i8 ((in_c 1 rfl)) i80 ((in_c 4 rfl)) i129; have a8 := t_add e129 i8 (in_c 1 rfl) rfl; have a9 := in_u i109x5; have a10 := t_add e101 i8 (in_c 1 rfl) rfl; have oc := oc_171_46; omega) | exact nq_2 (by rw [hT0]; have a0 := oa8 h2 h1 i109x5a i8 ((in_c 1 rfl)) i80 ((in_c 4 rfl)) i129; have a8 := t_add e129 i8 (in_c 1 rfl) rfl; have a9 := in_u i109x5; have a10 := t_add e101 i8 (in_c 1 rfl) rfl; have oc := oc_171_46; omega) (fun h => by first | (exfalso; have a0 := oa8 h2 h1 i109x5a i8 ((in_c 1 rfl)) i80 ((in_c 4 rfl)) i129; have a8 := t_add e129 i8 (in_c 1 rfl) rfl; have a9 := in_u i109x5; have a10 := t_add e101 i8 (in_c 1 rfl) rfl; have oc := oc_171_46; omega) | (rw [show s.1 47 (w0_46_2.toInt.toNat + 1) = z109x13 from (by rw [e109x13, show z101.toNatClampNeg = w0_46_2.toInt.toNat + 1 from (by show z101.toInt.toNat = _; have a0 := oa8 h2 h1 i109x5a i8 ((in_c 1 rfl)) i80 ((in_c 4 rfl)) i129; have a8 := t_add e129 i8 (in_c 1 rfl) rfl; have a9 := in_u i109x5; have a10 := t_add e101 i8 (in_c 1 rfl) rfl; have oc := oc_171_46; omega)]; exact congrFun (hFc0.1 47 rfl).symm _)]; unfold tkD; have a0 := oa8 h2 h1 i109x5a i8 ((in_c 1 rfl)) i80 ((in_c 4 rfl)) i129; have a8 := t_add e129 i8 (in_c 1 rfl) rfl; have a9 := in_u i109x5; have a10 := t_add e101 i8 (in_c 1 rfl) rfl; have oc := oc_171_46; omega))) (by have a0 := oa8 h2 h1 i109x5a i8 ((in_c 1 rfl)) i80 ((in_c 4 rfl)) i129; have a8 := t_add e129 i8 (in_c 1 rfl) rfl; have a9 := in_u i109x5; have a10 := t_add e101 i8 (in_c 1 rfl) rfl; have oc := oc_171_46; omega) (by decide)
                                  have n181c : (z129).toInt ≤ (u_46_1).toInt := by have a0 := oa8 h2 h1 i109x5a i8 ((in_c 1 rfl)) i80 ((in_c 4 rfl)) i129; have a8 := t_add e129 i8 (in_c 1 rfl) rfl; have a9 := in_u i109x5; have a10 := t_add e101 i8 (in_c 1 rfl) rfl; have oc := oc_171_46; omega
                                  have n181d : ((sF (sF (sF (sF (sF sc0 46 4 w0_46_2) 46 3 (Int32.ofInt 0)) 46 2 z129) 46 3 (Int32.ofInt 4)) 46 5 z19).2.2.1 46 2).toInt ≤ ((sF (sF (sF (sF (sF sc0 46 4 w0_46_2) 46 3 (Int32.ofInt 0)) 46 2 z129) 46 3 (Int32.ofInt 4)) 46 5 z19).2.2.1 46 1).toInt := by have b0 : z129 = (sF (sF (sF (sF (sF sc0 46 4 w0_46_2) 46 3 (Int32.ofInt 0)) 46 2 z129) 46 3 (Int32.ofInt 4)) 46 5 z19).2.2.1 46 2 := sF_ne rfl (sF_ne rfl (sF_get)); have b1 : u_46_1 = (sF (sF (sF (sF (sF sc0 46 4 w0_46_2) 46 3 (Int32.ofInt 0)) 46 2 z129) 46 3 (Int32.ofInt 4)) 46 5 z19).2.2.1 46 1 := sF_ne rfl (sF_ne rfl (sF_ne rfl (sF_ne rfl (sF_ne rfl (fr_F e_46_1 hFc0 rfl))))); rw [← b0, ← b1]; exact n181c
                                  have n181e : (w0_46_2).toInt ≤ (z129).toInt := by have a0 := oa8 h2 h1 i109x5a i8 ((in_c 1 rfl)) i80 ((in_c 4 rfl)) i129; have a8 := t_add e129 i8 (in_c 1 rfl) rfl; have a9 := in_u i109x5; have a10 := t_add e101 i8 (in_c 1 rfl) rfl; have oc := oc_171_46; omega
                                  have n181f : ((sF (sF (sF (sF (sF sc0 46 4 w0_46_2) 46 3 (Int32.ofInt 0)) 46 2 z129) 46 3 (Int32.ofInt 4)) 46 5 z19).2.2.1 46 4).toInt ≤ ((sF (sF (sF (sF (sF sc0 46 4 w0_46_2) 46 3 (Int32.ofInt 0)) 46 2 z129) 46 3 (Int32.ofInt 4)) 46 5 z19).2.2.1 46 2).toInt := by have b0 : w0_46_2 = (sF (sF (sF (sF (sF sc0 46 4 w0_46_2) 46 3 (Int32.ofInt 0)) 46 2 z129) 46 3 (Int32.ofInt 4)) 46 5 z19).2.2.1 46 4 := sF_ne rfl (sF_ne rfl (sF_ne rfl (sF_ne rfl (sF_get)))); have b1 : z129 = (sF (sF (sF (sF (sF sc0 46 4 w0_46_2) 46 3 (Int32.ofInt 0)) 46 2 z129) 46 3 (Int32.ofInt 4)) 46 5 z19).2.2.1 46 2 := sF_ne rfl (sF_ne rfl (sF_get)); rw [← b0, ← b1]; exact n181e
                                  have n181g : (u_46_2).toInt ≤ (w0_46_2).toInt := by first | exact n0_1 | (have a0 := oa8 h2 h1 i109x5a i8 ((in_c 1 rfl)) i80 ((in_c 4 rfl)) i129; have a8 := t_add e129 i8 (in_c 1 rfl) rfl; have a9 := in_u i109x5; have a10 := t_add e101 i8 (in_c 1 rfl) rfl; have oc := oc_171_46; omega)
                                  have n181h : (s.2.2.1 46 2).toInt ≤ ((sF (sF (sF (sF (sF sc0 46 4 w0_46_2) 46 3 (Int32.ofInt 0)) 46 2 z129) 46 3 (Int32.ofInt 4)) 46 5 z19).2.2.1 46 4).toInt := by have b0 : w0_46_2 = (sF (sF (sF (sF (sF sc0 46 4 w0_46_2) 46 3 (Int32.ofInt 0)) 46 2 z129) 46 3 (Int32.ofInt 4)) 46 5 z19).2.2.1 46 4 := sF_ne rfl (sF_ne rfl (sF_ne rfl (sF_ne rfl (sF_get)))); rw [← b0, ← e_46_2]; exact n181g
                                  exact g_return (gd rfl) rfl (hP _ _ ⟨(sF (sF (sF (sF (sF sc0 46 4 w0_46_2) 46 3 (Int32.ofInt 0)) 46 2 z129) 46 3 (Int32.ofInt 4)) 46 5 z19), hI178, (fr_sF rfl (fr_sF rfl (fr_sF rfl (fr_sF rfl (fr_sF rfl hFc0))))), n181d, n181f, n181h, rfl, rfl, n181, n181a, n181b⟩)
                                · skip
                                  exact zn_ne c165 (in_c 0 rfl) rfl
                              · skip
                                exact zn_eq c162x7 h2 rfl
                          · skip
                            exact n_le c136 (in_c 97 rfl) i80 rfl
                        · skip
                          exact zn_ne c112 (in_c 0 rfl) rfl
                      · skip
                        have i109x27 := r_le1 48 57 c109x27 i109x16 (in_c 57 rfl) rfl
                        refine g_iconst 1 31 (gd rfl) rfl rfl ?_
                        refine g_goto 35 (gd rfl) rfl ?_
                        refine g_ireturn (gd rfl) rfl (nb01 (in_w 0 1 (in_c 1 rfl) rfl)) (hp109 _ _ ?_)
                        show GG _ _ _ _ _ _ _ _ [.int (Int32.ofInt 1)] _ _ _
                        refine g_if_eq 115 123 (gd rfl) rfl rfl (fun c112 => ?_) (fun c112 => ?_)
                        · skip
                          exact zn_eq c112 (in_c 1 rfl) rfl
                        · skip
                          refine g_aload_n 116 (gd rfl) rfl rfl ?_
                          refine g_iload 118 (gd rfl) rfl rfl ?_
                          refine g_iload_n 119 (gd rfl) rfl rfl ?_
                          have hA9 : w0_46_2 = (sF (sF sc0 46 4 w0_46_2) 46 3 (Int32.ofInt 0)).2.2.1 46 2 := (show w0_46_2 = (sF (sF sc0 46 4 w0_46_2) 46 3 (Int32.ofInt 0)).2.2.1 46 2 from sF_ne rfl (sF_ne rfl (v0_46_2)))
                          have hL9 : u_46_1 = (sF (sF sc0 46 4 w0_46_2) 46 3 (Int32.ofInt 0)).2.2.1 46 1 := (show u_46_1 = (sF (sF sc0 46 4 w0_46_2) 46 3 (Int32.ofInt 0)).2.2.1 46 1 from sF_ne rfl (sF_ne rfl (fr_F e_46_1 hFc0 rfl)))
                          have hX9 : (sF (sF sc0 46 4 w0_46_2) 46 3 (Int32.ofInt 0)).1 47 = s.1 47 := hFc0.1 47 rfl
                          have v119 : w0_46_2 = (sF (sF sc0 46 4 w0_46_2) 46 3 (Int32.ofInt 0)).2.2.1 46 2 := sF_ne rfl (sF_ne rfl (v0_46_2))
                          have v119a : u_46_1 = (sF (sF sc0 46 4 w0_46_2) 46 3 (Int32.ofInt 0)).2.2.1 46 1 := sF_ne rfl (sF_ne rfl (fr_F e_46_1 hFc0 rfl))
                          have n119 : (w0_46_2).toInt + ((Int32.ofInt 1)).toInt + 1 ≤ (u_46_1).toInt := by have a0 := oa8 h2 h1 i109x5a i8 ((in_c 1 rfl)) i80 ((in_c 0 rfl)) i109x5; have a8 := t_add e101 i8 (in_c 1 rfl) rfl; have oc := oc_171_46; omega
                          have p119 : 48 ≤ ((sF (sF sc0 46 4 w0_46_2) 46 3 (Int32.ofInt 0)).1 47 (((sF (sF sc0 46 4 w0_46_2) 46 3 (Int32.ofInt 0)).2.2.1 46 2).toInt + ((Int32.ofInt 1)).toInt).toNat).toInt ∧ ((sF (sF sc0 46 4 w0_46_2) 46 3 (Int32.ofInt 0)).1 47 (((sF (sF sc0 46 4 w0_46_2) 46 3 (Int32.ofInt 0)).2.2.1 46 2).toInt + ((Int32.ofInt 1)).toInt).toNat).toInt ≤ 57 := by rw [show (((sF (sF sc0 46 4 w0_46_2) 46 3 (Int32.ofInt 0)).2.2.1 46 2).toInt + ((Int32.ofInt 1)).toInt).toNat = z101.toNatClampNeg from (by rw [← (show w0_46_2 = (sF (sF sc0 46 4 w0_46_2) 46 3 (Int32.ofInt 0)).2.2.1 46 2 from sF_ne rfl (sF_ne rfl (v0_46_2)))]; show _ = z101.toInt.toNat; have a0 := oa8 h2 h1 i109x5a i8 ((in_c 1 rfl)) i80 ((in_c 0 rfl)) i109x5; have a8 := t_add e101 i8 (in_c 1 rfl) rfl; have oc := oc_171_46; omega), ← e109x13]; exact ⟨by have a0 := oa8 h2 h1 i109x5a i8 ((in_c 1 rfl)) i80 ((in_c 0 rfl)) i109x5; have a8 := t_add e101 i8 (in_c 1 rfl) rfl; have oc := oc_171_46; omega, by have a0 := oa8 h2 h1 i109x5a i8 ((in_c 1 rfl)) i80 ((in_c 0 rfl)) i109x5; have a8 := t_add e101 i8 (in_c 1 rfl) rfl; have oc := oc_171_46; omega⟩
                          refine g_callv (X := _) (As := [.int (Int32.ofInt 1), .int x1]) (r := []) (b := A 46) (q := 46) 122 (gd rfl) rfl rfl rfl rfl rfl (ww_o rfl) (Nat.le_of_ble_eq_true rfl) (Nat.zero_le _) (Nat.zero_le _) (f_173_46 (by first | exact dq1 hd rfl | exact dq0 hd rfl | exact dq2 hd rfl | exact dq3 hd rfl | omega) hI48 (in_w 0 1 (in_c 1 rfl) rfl) (in_w 6 7 h1 rfl) v119 v119a n119 p119) (fun e u h => h) (fun v u h => ?_)
                          obtain ⟨s119, hI119, hF119, n119a, n119b, rfl, rfl, p119a, p119b, p119c⟩ := h
                          obtain ⟨z119a, e119⟩ : ∃ w, w = s119.2.2.1 46 2 := ⟨_, rfl⟩
                          have i119a := inv_F hI119 0 1000 rfl e119
                          rw [← (show z119a = s119.2.2.1 46 2 from e119)] at n119a
                          rw [← (show u_46_1 = s119.2.2.1 46 1 from fr_F (s := (sF (sF sc0 46 4 w0_46_2) 46 3 (Int32.ofInt 0))) (sF_ne rfl (sF_ne rfl (fr_F e_46_1 hFc0 rfl))) hF119 rfl)] at n119a
                          rw [← (show w0_46_2 = (sF (sF sc0 46 4 w0_46_2) 46 3 (Int32.ofInt 0)).2.2.1 46 2 from sF_ne rfl (sF_ne rfl (v0_46_2)))] at n119b
                          rw [← (show z119a = s119.2.2.1 46 2 from e119)] at n119b
                          show GG _ _ _ _ _ _ _ _ [] _ _ _
                          have n122 : (x1).toInt = 6 → TK s119 := by intro h6; exfalso; have a0 := oa8 h2 h1 i109x5a i8 ((in_c 1 rfl)) i80 i119a i109x5; have a8 := t_add e101 i8 (in_c 1 rfl) rfl; have oc := oc_171_46; omega
                          have n122a : (s119.2.2.1 46 3).toInt = 1 → In (s119.2.2.1 46 5) 0 25 := by intro h1; exact absurd h1 p119a
                          have n122b : TKN (s.1 47) (s.2.2.1 46 1).toInt.toNat (s.2.2.1 46 2).toInt.toNat (s119.2.2.1 46 4).toInt.toNat (s119.2.2.1 46 2).toInt.toNat (s119.2.2.1 46 3).toInt (s119.2.2.1 46 5).toInt := by have hT0 : s.1 47 w0_46_2.toInt.toNat = z19 := (by rw [e19, hFc0.1 47 rfl]; rfl); have hS : tkS (s.1 47) (u_46_1).toInt.toNat (u_46_2).toInt.toNat w0_46_2.toInt.toNat := ⟨by have a0 := oa8 h2 h1 i109x5a i8 ((in_c 1 rfl)) i80 i119a i109x5; have a8 := t_add e101 i8 (in_c 1 rfl) rfl; have oc := oc_171_46; omega, by have a0 := oa8 h2 h1 i109x5a i8 ((in_c 1 rfl)) i80 i119a i109x5; have a8 := t_add e101 i8 (in_c 1 rfl) rfl; have oc := oc_171_46; omega, fun i a b => g0_0 i (by rw [← e_46_2]; exact a) (by have a0 := oa8 h2 h1 i109x5a i8 ((in_c 1 rfl)) i80 i119a i109x5; have a8 := t_add e101 i8 (in_c 1 rfl) rfl; have oc := oc_171_46; omega), fun _ => by rw [hT0]; have a0 := oa8 h2 h1 i109x5a i8 ((in_c 1 rfl)) i80 i119a i109x5; have a8 := t_add e101 i8 (in_c 1 rfl) rfl; have oc := oc_171_46; omega⟩; have hp := p119c (by have a0 := oa8 h2 h1 i109x5a i8 ((in_c 1 rfl)) i80 i119a i109x5; have a8 := t_add e101 i8 (in_c 1 rfl) rfl; have oc := oc_171_46; omega); rw [hX9, ← hL9, ← hA9] at hp; rw [← e_46_1, ← e_46_2, ← (show w0_46_2 = s119.2.2.1 46 4 from fr_F (s := (sF (sF sc0 46 4 w0_46_2) 46 3 (Int32.ofInt 0))) (sF_ne rfl (sF_get)) hF119 rfl)]; exact tkn_2 (q := (w0_46_2.toInt + (Int32.ofInt 1).toInt).toNat) (x := (Int32.ofInt 1).toInt) hS (Or.inr ⟨by have c1 : (Int32.ofInt 1).toInt = 1 := rfl; have a0 := oa8 h2 h1 i109x5a i8 ((in_c 1 rfl)) i80 i119a i109x5; have a8 := t_add e101 i8 (in_c 1 rfl) rfl; have oc := oc_171_46; omega, by rw [hT0]; have a0 := oa8 h2 h1 i109x5a i8 ((in_c 1 rfl)) i80 i119a i109x5; have a8 := t_add e101 i8 (in_c 1 rfl) rfl; have oc := oc_171_46; omega, by have a0 := oa8 h2 h1 i109x5a i8 ((in_c 1 rfl)) i80 i119a i109x5; have a8 := t_add e101 i8 (in_c 1 rfl) rfl; have oc := oc_171_46; omega, by rw [show s.1 47 (w0_46_2.toInt.toNat + 1) = z109x13 from (by rw [e109x13, show z101.toNatClampNeg = w0_46_2.toInt.toNat + 1 from (by show z101.toInt.toNat = _; have a0 := oa8 h2 h1 i109x5a i8 ((in_c 1 rfl)) i80 i119a i109x5; have a8 := t_add e101 i8 (in_c 1 rfl) rfl; have oc := oc_171_46; omega)]; exact congrFun (hFc0.1 47 rfl).symm _)]; exact ⟨by have a0 := oa8 h2 h1 i109x5a i8 ((in_c 1 rfl)) i80 i119a i109x5; have a8 := t_add e101 i8 (in_c 1 rfl) rfl; have oc := oc_171_46; omega, by have a0 := oa8 h2 h1 i109x5a i8 ((in_c 1 rfl)) i80 i119a i109x5; have a8 := t_add e101 i8 (in_c 1 rfl) rfl; have oc := oc_171_46; omega⟩⟩) ⟨fun h => absurd h (by decide), fun h => by exfalso; have c1 : (Int32.ofInt 1).toInt = 1 := rfl; have a0 := oa8 h2 h1 i109x5a i8 ((in_c 1 rfl)) i80 i119a i109x5; have a8 := t_add e101 i8 (in_c 1 rfl) rfl; have oc := oc_171_46; omega⟩ hp
                          have n122c : (z119a).toInt ≤ (u_46_1).toInt := by have a0 := oa8 h2 h1 i109x5a i8 ((in_c 1 rfl)) i80 i119a i109x5; have a8 := t_add e101 i8 (in_c 1 rfl) rfl; have oc := oc_171_46; omega
                          have n122d : (s119.2.2.1 46 2).toInt ≤ (s119.2.2.1 46 1).toInt := by have b0 : z119a = s119.2.2.1 46 2 := e119; have b1 : u_46_1 = s119.2.2.1 46 1 := fr_F (s := (sF (sF sc0 46 4 w0_46_2) 46 3 (Int32.ofInt 0))) (sF_ne rfl (sF_ne rfl (fr_F e_46_1 hFc0 rfl))) hF119 rfl; rw [← b0, ← b1]; exact n122c
                          have n122e : (w0_46_2).toInt ≤ (z119a).toInt := by have a0 := oa8 h2 h1 i109x5a i8 ((in_c 1 rfl)) i80 i119a i109x5; have a8 := t_add e101 i8 (in_c 1 rfl) rfl; have oc := oc_171_46; omega
                          have n122f : (s119.2.2.1 46 4).toInt ≤ (s119.2.2.1 46 2).toInt := by have b0 : w0_46_2 = s119.2.2.1 46 4 := fr_F (s := (sF (sF sc0 46 4 w0_46_2) 46 3 (Int32.ofInt 0))) (sF_ne rfl (sF_get)) hF119 rfl; have b1 : z119a = s119.2.2.1 46 2 := e119; rw [← b0, ← b1]; exact n122e
                          have n122g : (u_46_2).toInt ≤ (w0_46_2).toInt := by first | exact n0_1 | (have a0 := oa8 h2 h1 i109x5a i8 ((in_c 1 rfl)) i80 i119a i109x5; have a8 := t_add e101 i8 (in_c 1 rfl) rfl; have oc := oc_171_46; omega)
                          have n122h : (s.2.2.1 46 2).toInt ≤ (s119.2.2.1 46 4).toInt := by have b0 : w0_46_2 = s119.2.2.1 46 4 := fr_F (s := (sF (sF sc0 46 4 w0_46_2) 46 3 (Int32.ofInt 0))) (sF_ne rfl (sF_get)) hF119 rfl; rw [← b0, ← e_46_2]; exact n122g
                          exact g_return (gd rfl) rfl (hP _ _ ⟨s119, hI119, (fr_tr rfl (fr_sF rfl (fr_sF rfl hFc0)) hF119), n122d, n122f, n122h, rfl, rfl, n122, n122a, n122b⟩)
          · skip
            have i59 := r_le1 1 999 c59 i8a i8 rfl
            have i59a := r_le2 1 999 c59 i8a i8 rfl
            have n62 : (x1).toInt = 6 → TK (sF (sF sc0 46 4 w0_46_2) 46 3 (Int32.ofInt 0)) := by intro h6; exfalso; have a0 := oa5 h2 h1 i59 i59a ((in_c 0 rfl)); have oc := oc_171_46; omega
            have n62a : ((sF (sF sc0 46 4 w0_46_2) 46 3 (Int32.ofInt 0)).2.2.1 46 3).toInt = 1 → In ((sF (sF sc0 46 4 w0_46_2) 46 3 (Int32.ofInt 0)).2.2.1 46 5) 0 25 := by intro h1; rw [← (show (Int32.ofInt 0) = (sF (sF sc0 46 4 w0_46_2) 46 3 (Int32.ofInt 0)).2.2.1 46 3 from sF_get)] at h1; exact absurd h1 (by decide)
            have n62b : TKN (s.1 47) (s.2.2.1 46 1).toInt.toNat (s.2.2.1 46 2).toInt.toNat ((sF (sF sc0 46 4 w0_46_2) 46 3 (Int32.ofInt 0)).2.2.1 46 4).toInt.toNat ((sF (sF sc0 46 4 w0_46_2) 46 3 (Int32.ofInt 0)).2.2.1 46 2).toInt.toNat ((sF (sF sc0 46 4 w0_46_2) 46 3 (Int32.ofInt 0)).2.2.1 46 3).toInt ((sF (sF sc0 46 4 w0_46_2) 46 3 (Int32.ofInt 0)).2.2.1 46 5).toInt := by exfalso; have a0 := oa5 h2 h1 i59 i59a ((in_c 0 rfl)); have oc := oc_171_46; omega
            have n62c : (w0_46_2).toInt ≤ (u_46_1).toInt := by first | exact n0_0 | (have a0 := oa5 h2 h1 i59 i59a ((in_c 0 rfl)); have oc := oc_171_46; omega)
            have n62d : ((sF (sF sc0 46 4 w0_46_2) 46 3 (Int32.ofInt 0)).2.2.1 46 2).toInt ≤ ((sF (sF sc0 46 4 w0_46_2) 46 3 (Int32.ofInt 0)).2.2.1 46 1).toInt := by have b0 : w0_46_2 = (sF (sF sc0 46 4 w0_46_2) 46 3 (Int32.ofInt 0)).2.2.1 46 2 := sF_ne rfl (sF_ne rfl (v0_46_2)); have b1 : u_46_1 = (sF (sF sc0 46 4 w0_46_2) 46 3 (Int32.ofInt 0)).2.2.1 46 1 := sF_ne rfl (sF_ne rfl (fr_F e_46_1 hFc0 rfl)); rw [← b0, ← b1]; exact n62c
            have n62e : (w0_46_2).toInt ≤ (w0_46_2).toInt := by exact Int.le_refl _
            have n62f : ((sF (sF sc0 46 4 w0_46_2) 46 3 (Int32.ofInt 0)).2.2.1 46 4).toInt ≤ ((sF (sF sc0 46 4 w0_46_2) 46 3 (Int32.ofInt 0)).2.2.1 46 2).toInt := by have b0 : w0_46_2 = (sF (sF sc0 46 4 w0_46_2) 46 3 (Int32.ofInt 0)).2.2.1 46 4 := sF_ne rfl (sF_get); have b1 : w0_46_2 = (sF (sF sc0 46 4 w0_46_2) 46 3 (Int32.ofInt 0)).2.2.1 46 2 := sF_ne rfl (sF_ne rfl (v0_46_2)); rw [← b0, ← b1]; exact n62e
            have n62g : (u_46_2).toInt ≤ (w0_46_2).toInt := by first | exact n0_1 | (have a0 := oa5 h2 h1 i59 i59a ((in_c 0 rfl)); have oc := oc_171_46; omega)
            have n62h : (s.2.2.1 46 2).toInt ≤ ((sF (sF sc0 46 4 w0_46_2) 46 3 (Int32.ofInt 0)).2.2.1 46 4).toInt := by have b0 : w0_46_2 = (sF (sF sc0 46 4 w0_46_2) 46 3 (Int32.ofInt 0)).2.2.1 46 4 := sF_ne rfl (sF_get); rw [← b0, ← e_46_2]; exact n62g
            exact g_return (gd rfl) rfl (hP _ _ ⟨(sF (sF sc0 46 4 w0_46_2) 46 3 (Int32.ofInt 0)), hI48, (fr_sF rfl (fr_sF rfl hFc0)), n62d, n62f, n62h, rfl, rfl, n62, n62a, n62b⟩)
        · skip
          have i22 := r_eq1 32 32 c22 i19 (in_c 32 rfl) rfl
          refine g_aload_n 26 (gd rfl) rfl rfl ?_
          refine g_dup 27 (gd rfl) rfl rfl ?_
          refine g_getI 30 (gd rfl) rfl rfl rfl (fun z27 e27 => ?_)
          have q27 : w0_46_2 = z27 := (v0_46_2).trans e27.symm
          subst q27
          refine g_iconst 1 31 (gd rfl) rfl rfl ?_
          refine g_iadd 32 (gd rfl) rfl (fun z31 e31 => ?_)
          have i31 := in_add 1 1000 e31 i8 (in_c 1 rfl) rfl rfl
          refine g_putI 35 (gd rfl) rfl rfl rfl rfl ?_
          have hI32 := inv_sF (q := 46) (j := 2) hIc0 rfl (in_w 0 1000 i31 rfl)
          refine g_goto 0 (gd rfl) rfl ?_
          have v0 : z31 = (sF sc0 46 2 z31).2.2.1 46 2 := sF_get
          have n0 : (z31).toInt ≤ (u_46_1).toInt := by have a0 := oa5 h2 h1 i8a i8 i31; have a5 := t_add e31 i8 (in_c 1 rfl) rfl; have a6 := in_u ((in_c 1 rfl)); have oc := oc_171_46; omega
          have n0a : (u_46_2).toInt ≤ (z31).toInt := by have a0 := oa5 h2 h1 i8a i8 i31; have a5 := t_add e31 i8 (in_c 1 rfl) rfl; have a6 := in_u ((in_c 1 rfl)); have oc := oc_171_46; omega
          have n0b : ∀ i : Nat, (s.2.2.1 46 2).toInt.toNat ≤ i → (i : Int) < (z31).toInt → (s.1 47 i).toInt = 32 := by intro i a b; by_cases hc : (i : Int) < w0_46_2.toInt; (exact g0_0 i a hc); (rw [show i = w0_46_2.toNatClampNeg from (by show i = w0_46_2.toInt.toNat; have a0 := oa5 h2 h1 i8a i8 i31; have a5 := t_add e31 i8 (in_c 1 rfl) rfl; have a6 := in_u ((in_c 1 rfl)); have oc := oc_171_46; omega), show s.1 47 w0_46_2.toNatClampNeg = z19 from (by rw [e19, hFc0.1 47 rfl])]; have a0 := oa5 h2 h1 i8a i8 i31; have a5 := t_add e31 i8 (in_c 1 rfl) rfl; have a6 := in_u ((in_c 1 rfl)); have oc := oc_171_46; omega)
          have m0 : (u_46_1).toInt - (z31).toInt < ((k0 : Nat) : Int) := by have a0 := oa5 h2 h1 i8a i8 i31; have a5 := t_add e31 i8 (in_c 1 rfl) rfl; have a6 := in_u ((in_c 1 rfl)); have oc := oc_171_46; omega
          exact gg_w (by first | exact Nat.le_add_right _ _ | exact gw2 | exact gw3 | exact gwe rfl | exact gwf rfl | exact gwg rfl | exact gwh rfl | omega) (gg_f (gf_cons rfl (gf_cons rfl (gf_cons rfl gf_nil))) (ih0  (sF sc0 46 2 z31) z31 hI32 (fr_sF rfl hFc0) nz0_2 v0 n0 n0a n0b m0))
  refine g_enter2 (k := 171) (N := 901801) (by first | exact dq1 hd rfl | exact dq0 hd rfl | exact dq2 hd rfl | exact dq3 hd rfl | omega) rfl (Nat.le_of_ble_eq_true rfl) ?_
  have n0 : (u_46_2).toInt ≤ (u_46_1).toInt := by have a0 := oa4 ((inv_F hI 0 1000 rfl e_46_1)) ((inv_F hI 0 1000 rfl e_46_2)) h2 h1; have oc := oc_171_46; omega
  have n0a : (u_46_2).toInt ≤ (u_46_2).toInt := by exact Int.le_refl _
  have n0b : ∀ i : Nat, (s.2.2.1 46 2).toInt.toNat ≤ i → (i : Int) < (u_46_2).toInt → (s.1 47 i).toInt = 32 := by intro i a b; exfalso; rw [← e_46_2] at a; have a0 := oa4 ((inv_F hI 0 1000 rfl e_46_1)) ((inv_F hI 0 1000 rfl e_46_2)) h2 h1; have oc := oc_171_46; omega
  have m0 : (u_46_1).toInt - (u_46_2).toInt < ((1001 : Nat) : Int) := by have a0 := oa4 ((inv_F hI 0 1000 rfl e_46_1)) ((inv_F hI 0 1000 rfl e_46_2)) h2 h1; have oc := oc_171_46; omega
  exact gg_w (by first | exact Nat.le_of_ble_eq_true rfl | omega) (gg_f (gf_cons rfl (gf_cons rfl (gf_cons rfl gf_nil))) (ct0 1001 s u_46_2 hI fr_rf (nz_r h2 rfl) e_46_2 n0 n0a n0b m0))
end
section
/-! FUNCTIONAL CONTRACTS, by fgen.py -/
/-- GraphHouse$Script.accuse -/
theorem f_168_46 {Z : AmZ} {A : Nat → Nat} {s : GS} {ex : va_W} {d : Nat} {X : AmX} {x1 : Int32} {x2 : Int32} (hd : 1 ≤ d) (hI : Inv s) (h1 : In x1 1 5) (h2 : In x2 0 1000) : GC Z d 168 [.ref (A 46), .int x1, .int x2] (WW Z A s ++ ex) 0 0 (fun v u => ∃ t : GS, Inv t ∧ Fr fm_168_46 s t ∧ ∃ z : Int32, v = some (.int z) ∧ u = WW Z A t ++ ex ∧ In z 0 0 ∧ ((t.2.2.1 46 6) = x1 ∧ (t.2.2.1 46 7) = x2)) X := by
  intro post xp hP hX
  refine g_enter2 (k := 168) (N := 900) (by first | exact dq1 hd rfl | exact dq0 hd rfl | exact dq2 hd rfl | exact dq3 hd rfl | omega) rfl (Nat.le_of_ble_eq_true rfl) ?_
  refine g_aload_n 1 (gd rfl) rfl rfl ?_
  refine g_iload_n 2 (gd rfl) rfl rfl ?_
  refine g_putI 5 (gd rfl) rfl rfl rfl rfl ?_
  have hI2 := inv_sF (q := 46) (j := 6) hI rfl (in_w (-1) 5 h1 rfl)
  refine g_aload_n 6 (gd rfl) rfl rfl ?_
  refine g_iload_n 7 (gd rfl) rfl rfl ?_
  refine g_putI 10 (gd rfl) rfl rfl rfl rfl ?_
  have hI7 := inv_sF (q := 46) (j := 7) hI2 rfl (in_w (-1) 1000 h2 rfl)
  refine g_iconst 0 11 (gd rfl) rfl rfl ?_
  have n11 : ((sF (sF s 46 6 x1) 46 7 x2).2.2.1 46 6) = x1 ∧ ((sF (sF s 46 6 x1) 46 7 x2).2.2.1 46 7) = x2 := by exact ⟨((show x1 = (sF (sF s 46 6 x1) 46 7 x2).2.2.1 46 6 from sF_ne rfl (sF_get))).symm, ((show x2 = (sF (sF s 46 6 x1) 46 7 x2).2.2.1 46 7 from sF_get)).symm⟩
  exact g_ireturn (gd rfl) rfl (nb01 (in_w 0 1 (in_c 0 rfl) rfl)) (hP _ _ ⟨(sF (sF s 46 6 x1) 46 7 x2), hI7, (fr_sF rfl (fr_sF rfl fr_rf)), (Int32.ofInt 0), rfl, rfl, in_w 0 0 (in_c 0 rfl) rfl, n11⟩)

theorem oc_169_46 : (Int32.ofInt (-1)).toInt = (-1) ∧ (Int32.ofInt 0).toInt = 0 ∧ (Int32.ofInt 1).toInt = 1 ∧ (Int32.ofInt 4).toInt = 4 ∧ (Int32.ofInt 5).toInt = 5 := ⟨rfl, rfl, rfl, rfl, rfl⟩
/-- GraphHouse$Script.refuse -/
theorem f_169_46 {Z : AmZ} {A : Nat → Nat} {s : GS} {ex : va_W} {d : Nat} {X : AmX} {x1 : Int32} {x2 : Int32} {u_46_3 : Int32} {u_46_4 : Int32} (hd : 2 ≤ d) (hI : Inv s) (h1 : In x1 2 2) (h2 : In x2 3 3) (e_46_3 : u_46_3 = s.2.2.1 46 3) (e_46_4 : u_46_4 = s.2.2.1 46 4) : GC Z d 169 [.ref (A 46), .int x1, .int x2] (WW Z A s ++ ex) 0 0 (fun v u => ∃ t : GS, Inv t ∧ Fr fm_169_46 s t ∧ ∃ z : Int32, v = some (.int z) ∧ u = WW Z A t ++ ex ∧ In z 0 0 ∧ ((t.2.2.1 46 6).toInt = cmF (s.2.2.1 46 3).toInt ∧ (t.2.2.1 46 7) = s.2.2.1 46 4)) X := by
  intro post xp hP hX
  have ro_46_3 := inv_F hI 0 5 rfl e_46_3
  have ro_46_4 := inv_F hI 0 1000 rfl e_46_4
  refine g_enter2 (k := 169) (N := 900) (by first | exact dq1 hd rfl | exact dq0 hd rfl | exact dq2 hd rfl | exact dq3 hd rfl | omega) rfl (Nat.le_of_ble_eq_true rfl) ?_
  refine g_aload_n 1 (gd rfl) rfl rfl ?_
  refine g_getI 4 (gd rfl) rfl rfl rfl (fun z1 e1 => ?_)
  have q1 : u_46_3 = z1 := (e_46_3).trans e1.symm
  subst q1
  refine g_iconst 4 5 (gd rfl) rfl rfl ?_
  refine g_cmp_ne 8 18 (gd rfl) rfl rfl (fun c5 => ?_) (fun c5 => ?_)
  · skip
    refine g_aload_n 19 (gd rfl) rfl rfl ?_
    refine g_aload_n 20 (gd rfl) rfl rfl ?_
    refine g_getI 23 (gd rfl) rfl rfl rfl (fun z20 e20 => ?_)
    have q20 : u_46_3 = z20 := (e_46_3).trans e20.symm
    subst q20
    refine g_iconst 5 24 (gd rfl) rfl rfl ?_
    refine g_cmp_ne 27 31 (gd rfl) rfl rfl (fun c24 => ?_) (fun c24 => ?_)
    · skip
      have i24 := r_ne1 0 4 c24 (inv_F hI 0 5 rfl e_46_3) (in_c 5 rfl) rfl
      refine g_iload_n 32 (gd rfl) rfl rfl ?_
      refine g_aload_n 33 (gd rfl) rfl rfl ?_
      refine g_getI 36 (gd rfl) rfl rfl rfl (fun z33 e33 => ?_)
      have q33 : u_46_4 = z33 := (e_46_4).trans e33.symm
      subst q33
      refine g_callv (X := _) (As := [.int x1, .int u_46_4]) (r := []) (b := A 46) (q := 46) 39 (gd rfl) rfl rfl rfl rfl rfl (ww_o rfl) (Nat.le_of_ble_eq_true rfl) (Nat.zero_le _) (Nat.zero_le _) (f_168_46 (by first | exact dq1 hd rfl | exact dq0 hd rfl | exact dq2 hd rfl | exact dq3 hd rfl | omega) hI (in_w 1 5 h1 rfl) (in_w 0 1000 (inv_F hI 0 1000 rfl e_46_4) rfl)) (fun e u h => h) (fun v u h => ?_)
      obtain ⟨s36, hI36, hF36, z36, rfl, rfl, i36, p36⟩ := h
      show GG _ _ _ _ _ _ _ _ [.int z36] _ _ _
      have n39 : (s36.2.2.1 46 6).toInt = cmF (s.2.2.1 46 3).toInt ∧ (s36.2.2.1 46 7) = s.2.2.1 46 4 := by refine ⟨?_, by rw [p36.2, ← e_46_4]⟩; rw [p36.1, ← e_46_3]; unfold cmF; rw [if_neg (by have a0 := oa4 ((inv_F hI 0 1000 rfl e_46_4)) i24 h2 h1; have oc := oc_169_46; omega)]; first | (rw [if_pos (by have a0 := oa4 ((inv_F hI 0 1000 rfl e_46_4)) i24 h2 h1; have oc := oc_169_46; omega)]; have a0 := oa4 ((inv_F hI 0 1000 rfl e_46_4)) i24 h2 h1; have oc := oc_169_46; omega) | (rw [if_neg (by have a0 := oa4 ((inv_F hI 0 1000 rfl e_46_4)) i24 h2 h1; have oc := oc_169_46; omega)]; have a0 := oa4 ((inv_F hI 0 1000 rfl e_46_4)) i24 h2 h1; have oc := oc_169_46; omega)
      exact g_ireturn (gd rfl) rfl (nb01 (in_w 0 1 i36 rfl)) (hP _ _ ⟨s36, hI36, (fr_tr rfl fr_rf hF36), z36, rfl, rfl, in_w 0 0 i36 rfl, n39⟩)
    · skip
      have i24 := r_eq1 5 5 c24 (inv_F hI 0 5 rfl e_46_3) (in_c 5 rfl) rfl
      refine g_iload_n 28 (gd rfl) rfl rfl ?_
      refine g_goto 32 (gd rfl) rfl ?_
      refine g_aload_n 33 (gd rfl) rfl rfl ?_
      refine g_getI 36 (gd rfl) rfl rfl rfl (fun z33 e33 => ?_)
      have q33 : u_46_4 = z33 := (e_46_4).trans e33.symm
      subst q33
      refine g_callv (X := _) (As := [.int x2, .int u_46_4]) (r := []) (b := A 46) (q := 46) 39 (gd rfl) rfl rfl rfl rfl rfl (ww_o rfl) (Nat.le_of_ble_eq_true rfl) (Nat.zero_le _) (Nat.zero_le _) (f_168_46 (by first | exact dq1 hd rfl | exact dq0 hd rfl | exact dq2 hd rfl | exact dq3 hd rfl | omega) hI (in_w 1 5 h2 rfl) (in_w 0 1000 (inv_F hI 0 1000 rfl e_46_4) rfl)) (fun e u h => h) (fun v u h => ?_)
      obtain ⟨s36, hI36, hF36, z36, rfl, rfl, i36, p36⟩ := h
      show GG _ _ _ _ _ _ _ _ [.int z36] _ _ _
      have n39 : (s36.2.2.1 46 6).toInt = cmF (s.2.2.1 46 3).toInt ∧ (s36.2.2.1 46 7) = s.2.2.1 46 4 := by refine ⟨?_, by rw [p36.2, ← e_46_4]⟩; rw [p36.1, ← e_46_3]; unfold cmF; rw [if_neg (by have a0 := oa4 ((inv_F hI 0 1000 rfl e_46_4)) i24 h2 h1; have oc := oc_169_46; omega)]; first | (rw [if_pos (by have a0 := oa4 ((inv_F hI 0 1000 rfl e_46_4)) i24 h2 h1; have oc := oc_169_46; omega)]; have a0 := oa4 ((inv_F hI 0 1000 rfl e_46_4)) i24 h2 h1; have oc := oc_169_46; omega) | (rw [if_neg (by have a0 := oa4 ((inv_F hI 0 1000 rfl e_46_4)) i24 h2 h1; have oc := oc_169_46; omega)]; have a0 := oa4 ((inv_F hI 0 1000 rfl e_46_4)) i24 h2 h1; have oc := oc_169_46; omega)
      exact g_ireturn (gd rfl) rfl (nb01 (in_w 0 1 i36 rfl)) (hP _ _ ⟨s36, hI36, (fr_tr rfl fr_rf hF36), z36, rfl, rfl, in_w 0 0 i36 rfl, n39⟩)
  · skip
    have i5 := r_eq1 4 4 c5 (inv_F hI 0 5 rfl e_46_3) (in_c 4 rfl) rfl
    refine g_aload_n 9 (gd rfl) rfl rfl ?_
    refine g_iconst 1 10 (gd rfl) rfl rfl ?_
    refine g_aload_n 11 (gd rfl) rfl rfl ?_
    refine g_getI 14 (gd rfl) rfl rfl rfl (fun z11 e11 => ?_)
    have q11 : u_46_4 = z11 := (e_46_4).trans e11.symm
    subst q11
    refine g_callv (X := _) (As := [.int (Int32.ofInt 1), .int u_46_4]) (r := []) (b := A 46) (q := 46) 17 (gd rfl) rfl rfl rfl rfl rfl (ww_o rfl) (Nat.le_of_ble_eq_true rfl) (Nat.zero_le _) (Nat.zero_le _) (f_168_46 (by first | exact dq1 hd rfl | exact dq0 hd rfl | exact dq2 hd rfl | exact dq3 hd rfl | omega) hI (in_w 1 5 (in_c 1 rfl) rfl) (in_w 0 1000 (inv_F hI 0 1000 rfl e_46_4) rfl)) (fun e u h => h) (fun v u h => ?_)
    obtain ⟨s14, hI14, hF14, z14, rfl, rfl, i14, p14⟩ := h
    show GG _ _ _ _ _ _ _ _ [.int z14] _ _ _
    have n17 : (s14.2.2.1 46 6).toInt = cmF (s.2.2.1 46 3).toInt ∧ (s14.2.2.1 46 7) = s.2.2.1 46 4 := by refine ⟨?_, by rw [p14.2, ← e_46_4]⟩; rw [p14.1, ← e_46_3]; unfold cmF; rw [if_pos (by have a0 := oa4 ((inv_F hI 0 1000 rfl e_46_4)) i5 h2 h1; have oc := oc_169_46; omega)]; rfl
    exact g_ireturn (gd rfl) rfl (nb01 (in_w 0 1 i14 rfl)) (hP _ _ ⟨s14, hI14, (fr_tr rfl fr_rf hF14), z14, rfl, rfl, in_w 0 0 i14 rfl, n17⟩)

/-- GraphHouse$Graph.copyOf -/
theorem f_93_16_2 {Z : AmZ} {A : Nat → Nat} {s : GS} {ex : va_W} {d : Nat} {X : AmX}  (hd : 1 ≤ d) (hI : Inv s)  : GC Z d 93 [.ref (A 16), .ref (A 2)] (WW Z A s ++ ex) 0 0 (fun v u => ∃ t : GS, Inv t ∧ Fr fm_93_16_2 s t ∧ v = none ∧ u = WW Z A t ++ ex ∧ (∀ p : Nat, p < 160 → t.1 18 p = s.1 4 p) ∧ (∀ p : Nat, p < 160 → t.1 19 p = s.1 5 p) ∧ (t.2.2.1 16 0 = s.2.2.1 2 0) ∧ (t.2.2.1 16 1 = s.2.2.1 2 1) ∧ (∀ p : Nat, p < 32 → t.1 17 p = s.1 3 p) ∧ (∀ p : Nat, p < 160 → t.1 20 p = s.1 6 p) ∧ (∀ p : Nat, p < 160 → t.1 21 p = s.1 7 p) ∧ (∀ p : Nat, p < 160 → t.1 22 p = s.1 8 p) ∧ (t.2.2.1 16 3 = s.2.2.1 2 3)) X := by
  intro post xp hP hX
  obtain ⟨u_2_0, e_2_0⟩ : ∃ w, w = s.2.2.1 2 0 := ⟨_, rfl⟩
  have ro_2_0 := inv_F hI 0 4000 rfl e_2_0
  obtain ⟨u_2_1, e_2_1⟩ : ∃ w, w = s.2.2.1 2 1 := ⟨_, rfl⟩
  have ro_2_1 := inv_F hI 0 32 rfl e_2_1
  obtain ⟨u_2_2, e_2_2⟩ : ∃ w, w = s.2.2.1 2 2 := ⟨_, rfl⟩
  obtain ⟨u_2_3, e_2_3⟩ : ∃ w, w = s.2.2.1 2 3 := ⟨_, rfl⟩
  have ro_2_3 := inv_F hI 0 160 rfl e_2_3
  refine g_enter2 (k := 93) (N := 900) (by first | exact dq1 hd rfl | exact dq0 hd rfl | exact dq2 hd rfl | exact dq3 hd rfl | omega) rfl (Nat.le_of_ble_eq_true rfl) ?_
  refine g_aload_n 1 (gd rfl) rfl rfl ?_
  refine g_aload_n 2 (gd rfl) rfl rfl ?_
  refine g_getI 5 (gd rfl) rfl rfl rfl (fun z2 e2 => ?_)
  have q2 : u_2_0 = z2 := (e_2_0).trans e2.symm
  subst q2
  refine g_putI 8 (gd rfl) rfl rfl rfl rfl ?_
  have hI5 := rng_sF (q := 16) (j := 0) hI.1 rfl (in_w 0 4000 ro_2_0 rfl)
  refine g_aload_n 9 (gd rfl) rfl rfl ?_
  refine g_aload_n 10 (gd rfl) rfl rfl ?_
  refine g_getI 13 (gd rfl) rfl rfl rfl (fun z10 e10 => ?_)
  have q10 : u_2_1 = z10 := (sF_ne rfl (e_2_1)).trans e10.symm
  subst q10
  refine g_putI 16 (gd rfl) rfl rfl rfl rfl ?_
  have hI13 := rng_sF (q := 16) (j := 1) hI5 rfl (in_w 0 32 ro_2_1 rfl)
  refine g_aload_n 17 (gd rfl) rfl rfl ?_
  refine g_aload_n 18 (gd rfl) rfl rfl ?_
  refine g_getI 21 (gd rfl) rfl rfl rfl (fun z18 e18 => ?_)
  have q18 : u_2_2 = z18 := (sF_ne rfl (sF_ne rfl (e_2_2))).trans e18.symm
  subst q18
  refine g_putI 24 (gd rfl) rfl rfl rfl rfl ?_
  have hI21 := rng_sF (q := 16) (j := 2) hI13 rfl (in_w (-2147483648) 2147483647 (i_rng u_2_2) rfl)
  refine g_aload_n 25 (gd rfl) rfl rfl ?_
  refine g_aload_n 26 (gd rfl) rfl rfl ?_
  refine g_getI 29 (gd rfl) rfl rfl rfl (fun z26 e26 => ?_)
  have q26 : u_2_3 = z26 := (sF_ne rfl (sF_ne rfl (sF_ne rfl (e_2_3)))).trans e26.symm
  subst q26
  refine g_putI 32 (gd rfl) rfl rfl rfl rfl ?_
  have hI29 := rng_sF (q := 16) (j := 3) hI21 rfl (in_w 0 160 ro_2_3 rfl)
  refine g_aload_n 33 (gd rfl) rfl rfl ?_
  refine g_iconst (-1) 34 (gd rfl) rfl rfl ?_
  refine g_putI 37 (gd rfl) rfl rfl rfl rfl ?_
  have hI34 := rng_sF (q := 16) (j := 4) hI29 rfl (in_w (-1) 4000 (in_c (-1) rfl) rfl)
  refine g_aload_n 38 (gd rfl) rfl rfl ?_
  refine g_getA (q2 := 3) 41 (gd rfl) rfl rfl rfl rfl ?_
  refine g_iconst 0 42 (gd rfl) rfl rfl ?_
  refine g_aload_n 43 (gd rfl) rfl rfl ?_
  refine g_getA (q2 := 17) 46 (gd rfl) rfl rfl rfl rfl ?_
  refine g_iconst 0 47 (gd rfl) rfl rfl ?_
  refine g_bipush 32 49 (gd rfl) rfl rfl ?_
  refine g_cpIr (q2 := 3) (q := 17) (n0 := 32) (n1 := 32) 52 (gd rfl) rfl rfl rfl rfl (Nat.le_of_ble_eq_true rfl) (cp_0 (in_c 0 rfl) rfl) (cp_0 (in_c 0 rfl) rfl) (cp_0 (in_c 32 rfl) rfl) (cp_1 (in_c 0 rfl) (in_c 32 rfl) rfl) (cp_1 (in_c 0 rfl) (in_c 32 rfl) rfl) hI34 rfl rfl rfl (fun s49 hI49 hF49 cp49 => ?_)
  refine g_aload_n 53 (gd rfl) rfl rfl ?_
  refine g_getA (q2 := 4) 56 (gd rfl) rfl rfl rfl rfl ?_
  refine g_iconst 0 57 (gd rfl) rfl rfl ?_
  refine g_aload_n 58 (gd rfl) rfl rfl ?_
  refine g_getA (q2 := 18) 61 (gd rfl) rfl rfl rfl rfl ?_
  refine g_iconst 0 62 (gd rfl) rfl rfl ?_
  refine g_sipush 160 65 (gd rfl) rfl rfl ?_
  refine g_cpIr (q2 := 4) (q := 18) (n0 := 160) (n1 := 160) 68 (gd rfl) rfl rfl rfl rfl (Nat.le_of_ble_eq_true rfl) (cp_0 (in_c 0 rfl) rfl) (cp_0 (in_c 0 rfl) rfl) (cp_0 (in_c 160 rfl) rfl) (cp_1 (in_c 0 rfl) (in_c 160 rfl) rfl) (cp_1 (in_c 0 rfl) (in_c 160 rfl) rfl) hI49 rfl rfl rfl (fun s65 hI65 hF65 cp65 => ?_)
  refine g_aload_n 69 (gd rfl) rfl rfl ?_
  refine g_getA (q2 := 5) 72 (gd rfl) rfl rfl rfl rfl ?_
  refine g_iconst 0 73 (gd rfl) rfl rfl ?_
  refine g_aload_n 74 (gd rfl) rfl rfl ?_
  refine g_getA (q2 := 19) 77 (gd rfl) rfl rfl rfl rfl ?_
  refine g_iconst 0 78 (gd rfl) rfl rfl ?_
  refine g_sipush 160 81 (gd rfl) rfl rfl ?_
  refine g_cpIr (q2 := 5) (q := 19) (n0 := 160) (n1 := 160) 84 (gd rfl) rfl rfl rfl rfl (Nat.le_of_ble_eq_true rfl) (cp_0 (in_c 0 rfl) rfl) (cp_0 (in_c 0 rfl) rfl) (cp_0 (in_c 160 rfl) rfl) (cp_1 (in_c 0 rfl) (in_c 160 rfl) rfl) (cp_1 (in_c 0 rfl) (in_c 160 rfl) rfl) hI65 rfl rfl rfl (fun s81 hI81 hF81 cp81 => ?_)
  refine g_aload_n 85 (gd rfl) rfl rfl ?_
  refine g_getA (q2 := 6) 88 (gd rfl) rfl rfl rfl rfl ?_
  refine g_iconst 0 89 (gd rfl) rfl rfl ?_
  refine g_aload_n 90 (gd rfl) rfl rfl ?_
  refine g_getA (q2 := 20) 93 (gd rfl) rfl rfl rfl rfl ?_
  refine g_iconst 0 94 (gd rfl) rfl rfl ?_
  refine g_sipush 160 97 (gd rfl) rfl rfl ?_
  refine g_cpIr (q2 := 6) (q := 20) (n0 := 160) (n1 := 160) 100 (gd rfl) rfl rfl rfl rfl (Nat.le_of_ble_eq_true rfl) (cp_0 (in_c 0 rfl) rfl) (cp_0 (in_c 0 rfl) rfl) (cp_0 (in_c 160 rfl) rfl) (cp_1 (in_c 0 rfl) (in_c 160 rfl) rfl) (cp_1 (in_c 0 rfl) (in_c 160 rfl) rfl) hI81 rfl rfl rfl (fun s97 hI97 hF97 cp97 => ?_)
  refine g_aload_n 101 (gd rfl) rfl rfl ?_
  refine g_getA (q2 := 7) 104 (gd rfl) rfl rfl rfl rfl ?_
  refine g_iconst 0 105 (gd rfl) rfl rfl ?_
  refine g_aload_n 106 (gd rfl) rfl rfl ?_
  refine g_getA (q2 := 21) 109 (gd rfl) rfl rfl rfl rfl ?_
  refine g_iconst 0 110 (gd rfl) rfl rfl ?_
  refine g_sipush 160 113 (gd rfl) rfl rfl ?_
  refine g_cpIr (q2 := 7) (q := 21) (n0 := 160) (n1 := 160) 116 (gd rfl) rfl rfl rfl rfl (Nat.le_of_ble_eq_true rfl) (cp_0 (in_c 0 rfl) rfl) (cp_0 (in_c 0 rfl) rfl) (cp_0 (in_c 160 rfl) rfl) (cp_1 (in_c 0 rfl) (in_c 160 rfl) rfl) (cp_1 (in_c 0 rfl) (in_c 160 rfl) rfl) hI97 rfl rfl rfl (fun s113 hI113 hF113 cp113 => ?_)
  refine g_aload_n 117 (gd rfl) rfl rfl ?_
  refine g_getA (q2 := 8) 120 (gd rfl) rfl rfl rfl rfl ?_
  refine g_iconst 0 121 (gd rfl) rfl rfl ?_
  refine g_aload_n 122 (gd rfl) rfl rfl ?_
  refine g_getA (q2 := 22) 125 (gd rfl) rfl rfl rfl rfl ?_
  refine g_iconst 0 126 (gd rfl) rfl rfl ?_
  refine g_sipush 160 129 (gd rfl) rfl rfl ?_
  refine g_cpIr (q2 := 8) (q := 22) (n0 := 160) (n1 := 160) 132 (gd rfl) rfl rfl rfl rfl (Nat.le_of_ble_eq_true rfl) (cp_0 (in_c 0 rfl) rfl) (cp_0 (in_c 0 rfl) rfl) (cp_0 (in_c 160 rfl) rfl) (cp_1 (in_c 0 rfl) (in_c 160 rfl) rfl) (cp_1 (in_c 0 rfl) (in_c 160 rfl) rfl) hI113 rfl rfl rfl (fun s129 hI129 hF129 cp129 => ?_)
  have hI132 : Inv s129 := by have hFF : Fr fm_93_16_2 s s129 := (fr_tr rfl (fr_tr rfl (fr_tr rfl (fr_tr rfl (fr_tr rfl (fr_tr rfl (fr_sF rfl (fr_sF rfl (fr_sF rfl (fr_sF rfl (fr_sF rfl fr_rf))))) hF49) hF65) hF81) hF97) hF113) hF129); exact ⟨hI129, kk_g hI.2.1 hFF rfl rfl rfl rfl rfl, kk_g hI.2.2.1 hFF rfl rfl rfl rfl rfl, kk_s hI.2.2.2.1 hFF rfl, kk_r hI.2.2.2.2 hFF rfl⟩
  have n132 : ∀ p : Nat, p < 160 → s129.1 18 p = s.1 4 p := by exact fun p hp => by rw [hF129.1 18 rfl, hF113.1 18 rfl, hF97.1 18 rfl, hF81.1 18 rfl, cp65 p, cp_get (show p < (Int32.ofInt 160).toNatClampNeg from hp), hF49.1 4 rfl]; rfl
  have n132a : ∀ p : Nat, p < 160 → s129.1 19 p = s.1 5 p := by exact fun p hp => by rw [hF129.1 19 rfl, hF113.1 19 rfl, hF97.1 19 rfl, cp81 p, cp_get (show p < (Int32.ofInt 160).toNatClampNeg from hp), hF65.1 5 rfl, hF49.1 5 rfl]; rfl
  have n132b : s129.2.2.1 16 0 = s.2.2.1 2 0 := by exact ((show u_2_0 = s129.2.2.1 16 0 from fr_F (fr_F (fr_F (fr_F (fr_F (fr_F (s := (sF (sF (sF (sF (sF s 16 0 u_2_0) 16 1 u_2_1) 16 2 u_2_2) 16 3 u_2_3) 16 4 (Int32.ofInt (-1)))) (sF_ne rfl (sF_ne rfl (sF_ne rfl (sF_ne rfl (sF_get))))) hF49 rfl) hF65 rfl) hF81 rfl) hF97 rfl) hF113 rfl) hF129 rfl)).symm.trans e_2_0
  have n132c : s129.2.2.1 16 1 = s.2.2.1 2 1 := by exact ((show u_2_1 = s129.2.2.1 16 1 from fr_F (fr_F (fr_F (fr_F (fr_F (fr_F (s := (sF (sF (sF (sF (sF s 16 0 u_2_0) 16 1 u_2_1) 16 2 u_2_2) 16 3 u_2_3) 16 4 (Int32.ofInt (-1)))) (sF_ne rfl (sF_ne rfl (sF_ne rfl (sF_get)))) hF49 rfl) hF65 rfl) hF81 rfl) hF97 rfl) hF113 rfl) hF129 rfl)).symm.trans e_2_1
  have n132d : ∀ p : Nat, p < 32 → s129.1 17 p = s.1 3 p := by exact fun p hp => by rw [hF129.1 17 rfl, hF113.1 17 rfl, hF97.1 17 rfl, hF81.1 17 rfl, hF65.1 17 rfl, cp49 p, cp_get (show p < (Int32.ofInt 32).toNatClampNeg from hp)]; rfl
  have n132e : ∀ p : Nat, p < 160 → s129.1 20 p = s.1 6 p := by exact fun p hp => by rw [hF129.1 20 rfl, hF113.1 20 rfl, cp97 p, cp_get (show p < (Int32.ofInt 160).toNatClampNeg from hp), hF81.1 6 rfl, hF65.1 6 rfl, hF49.1 6 rfl]; rfl
  have n132f : ∀ p : Nat, p < 160 → s129.1 21 p = s.1 7 p := by exact fun p hp => by rw [hF129.1 21 rfl, cp113 p, cp_get (show p < (Int32.ofInt 160).toNatClampNeg from hp), hF97.1 7 rfl, hF81.1 7 rfl, hF65.1 7 rfl, hF49.1 7 rfl]; rfl
  have n132g : ∀ p : Nat, p < 160 → s129.1 22 p = s.1 8 p := by exact fun p hp => by rw [cp129 p, cp_get (show p < (Int32.ofInt 160).toNatClampNeg from hp), hF113.1 8 rfl, hF97.1 8 rfl, hF81.1 8 rfl, hF65.1 8 rfl, hF49.1 8 rfl]; rfl
  have n132h : s129.2.2.1 16 3 = s.2.2.1 2 3 := by exact ((show u_2_3 = s129.2.2.1 16 3 from fr_F (fr_F (fr_F (fr_F (fr_F (fr_F (s := (sF (sF (sF (sF (sF s 16 0 u_2_0) 16 1 u_2_1) 16 2 u_2_2) 16 3 u_2_3) 16 4 (Int32.ofInt (-1)))) (sF_ne rfl (sF_get)) hF49 rfl) hF65 rfl) hF81 rfl) hF97 rfl) hF113 rfl) hF129 rfl)).symm.trans e_2_3
  exact g_return (gd rfl) rfl (hP _ _ ⟨s129, hI132, (fr_tr rfl (fr_tr rfl (fr_tr rfl (fr_tr rfl (fr_tr rfl (fr_tr rfl (fr_sF rfl (fr_sF rfl (fr_sF rfl (fr_sF rfl (fr_sF rfl fr_rf))))) hF49) hF65) hF81) hF97) hF113) hF129), rfl, rfl, n132, n132a, n132b, n132c, n132d, n132e, n132f, n132g, n132h⟩)

/-- GraphHouse$Graph.copyOf -/
theorem f_93_2_16 {Z : AmZ} {A : Nat → Nat} {s : GS} {ex : va_W} {d : Nat} {X : AmX}  (hd : 1 ≤ d) (hI : Inv s)  : GC Z d 93 [.ref (A 2), .ref (A 16)] (WW Z A s ++ ex) 0 0 (fun v u => ∃ t : GS, Inv t ∧ Fr fm_93_2_16 s t ∧ v = none ∧ u = WW Z A t ++ ex ∧ (∀ p : Nat, p < 160 → t.1 4 p = s.1 18 p) ∧ (∀ p : Nat, p < 160 → t.1 5 p = s.1 19 p) ∧ (t.2.2.1 2 0 = s.2.2.1 16 0) ∧ (t.2.2.1 2 1 = s.2.2.1 16 1) ∧ (∀ p : Nat, p < 32 → t.1 3 p = s.1 17 p) ∧ (∀ p : Nat, p < 160 → t.1 6 p = s.1 20 p) ∧ (∀ p : Nat, p < 160 → t.1 7 p = s.1 21 p) ∧ (∀ p : Nat, p < 160 → t.1 8 p = s.1 22 p) ∧ (t.2.2.1 2 3 = s.2.2.1 16 3)) X := by
  intro post xp hP hX
  obtain ⟨u_16_0, e_16_0⟩ : ∃ w, w = s.2.2.1 16 0 := ⟨_, rfl⟩
  have ro_16_0 := inv_F hI 0 4000 rfl e_16_0
  obtain ⟨u_16_1, e_16_1⟩ : ∃ w, w = s.2.2.1 16 1 := ⟨_, rfl⟩
  have ro_16_1 := inv_F hI 0 32 rfl e_16_1
  obtain ⟨u_16_2, e_16_2⟩ : ∃ w, w = s.2.2.1 16 2 := ⟨_, rfl⟩
  obtain ⟨u_16_3, e_16_3⟩ : ∃ w, w = s.2.2.1 16 3 := ⟨_, rfl⟩
  have ro_16_3 := inv_F hI 0 160 rfl e_16_3
  refine g_enter2 (k := 93) (N := 900) (by first | exact dq1 hd rfl | exact dq0 hd rfl | exact dq2 hd rfl | exact dq3 hd rfl | omega) rfl (Nat.le_of_ble_eq_true rfl) ?_
  refine g_aload_n 1 (gd rfl) rfl rfl ?_
  refine g_aload_n 2 (gd rfl) rfl rfl ?_
  refine g_getI 5 (gd rfl) rfl rfl rfl (fun z2 e2 => ?_)
  have q2 : u_16_0 = z2 := (e_16_0).trans e2.symm
  subst q2
  refine g_putI 8 (gd rfl) rfl rfl rfl rfl ?_
  have hI5 := rng_sF (q := 2) (j := 0) hI.1 rfl (in_w 0 4000 ro_16_0 rfl)
  refine g_aload_n 9 (gd rfl) rfl rfl ?_
  refine g_aload_n 10 (gd rfl) rfl rfl ?_
  refine g_getI 13 (gd rfl) rfl rfl rfl (fun z10 e10 => ?_)
  have q10 : u_16_1 = z10 := (sF_ne rfl (e_16_1)).trans e10.symm
  subst q10
  refine g_putI 16 (gd rfl) rfl rfl rfl rfl ?_
  have hI13 := rng_sF (q := 2) (j := 1) hI5 rfl (in_w 0 32 ro_16_1 rfl)
  refine g_aload_n 17 (gd rfl) rfl rfl ?_
  refine g_aload_n 18 (gd rfl) rfl rfl ?_
  refine g_getI 21 (gd rfl) rfl rfl rfl (fun z18 e18 => ?_)
  have q18 : u_16_2 = z18 := (sF_ne rfl (sF_ne rfl (e_16_2))).trans e18.symm
  subst q18
  refine g_putI 24 (gd rfl) rfl rfl rfl rfl ?_
  have hI21 := rng_sF (q := 2) (j := 2) hI13 rfl (in_w (-2147483648) 2147483647 (i_rng u_16_2) rfl)
  refine g_aload_n 25 (gd rfl) rfl rfl ?_
  refine g_aload_n 26 (gd rfl) rfl rfl ?_
  refine g_getI 29 (gd rfl) rfl rfl rfl (fun z26 e26 => ?_)
  have q26 : u_16_3 = z26 := (sF_ne rfl (sF_ne rfl (sF_ne rfl (e_16_3)))).trans e26.symm
  subst q26
  refine g_putI 32 (gd rfl) rfl rfl rfl rfl ?_
  have hI29 := rng_sF (q := 2) (j := 3) hI21 rfl (in_w 0 160 ro_16_3 rfl)
  refine g_aload_n 33 (gd rfl) rfl rfl ?_
  refine g_iconst (-1) 34 (gd rfl) rfl rfl ?_
  refine g_putI 37 (gd rfl) rfl rfl rfl rfl ?_
  have hI34 := rng_sF (q := 2) (j := 4) hI29 rfl (in_w (-1) 4000 (in_c (-1) rfl) rfl)
  refine g_aload_n 38 (gd rfl) rfl rfl ?_
  refine g_getA (q2 := 17) 41 (gd rfl) rfl rfl rfl rfl ?_
  refine g_iconst 0 42 (gd rfl) rfl rfl ?_
  refine g_aload_n 43 (gd rfl) rfl rfl ?_
  refine g_getA (q2 := 3) 46 (gd rfl) rfl rfl rfl rfl ?_
  refine g_iconst 0 47 (gd rfl) rfl rfl ?_
  refine g_bipush 32 49 (gd rfl) rfl rfl ?_
  refine g_cpIr (q2 := 17) (q := 3) (n0 := 32) (n1 := 32) 52 (gd rfl) rfl rfl rfl rfl (Nat.le_of_ble_eq_true rfl) (cp_0 (in_c 0 rfl) rfl) (cp_0 (in_c 0 rfl) rfl) (cp_0 (in_c 32 rfl) rfl) (cp_1 (in_c 0 rfl) (in_c 32 rfl) rfl) (cp_1 (in_c 0 rfl) (in_c 32 rfl) rfl) hI34 rfl rfl rfl (fun s49 hI49 hF49 cp49 => ?_)
  refine g_aload_n 53 (gd rfl) rfl rfl ?_
  refine g_getA (q2 := 18) 56 (gd rfl) rfl rfl rfl rfl ?_
  refine g_iconst 0 57 (gd rfl) rfl rfl ?_
  refine g_aload_n 58 (gd rfl) rfl rfl ?_
  refine g_getA (q2 := 4) 61 (gd rfl) rfl rfl rfl rfl ?_
  refine g_iconst 0 62 (gd rfl) rfl rfl ?_
  refine g_sipush 160 65 (gd rfl) rfl rfl ?_
  refine g_cpIr (q2 := 18) (q := 4) (n0 := 160) (n1 := 160) 68 (gd rfl) rfl rfl rfl rfl (Nat.le_of_ble_eq_true rfl) (cp_0 (in_c 0 rfl) rfl) (cp_0 (in_c 0 rfl) rfl) (cp_0 (in_c 160 rfl) rfl) (cp_1 (in_c 0 rfl) (in_c 160 rfl) rfl) (cp_1 (in_c 0 rfl) (in_c 160 rfl) rfl) hI49 rfl rfl rfl (fun s65 hI65 hF65 cp65 => ?_)
  refine g_aload_n 69 (gd rfl) rfl rfl ?_
  refine g_getA (q2 := 19) 72 (gd rfl) rfl rfl rfl rfl ?_
  refine g_iconst 0 73 (gd rfl) rfl rfl ?_
  refine g_aload_n 74 (gd rfl) rfl rfl ?_
  refine g_getA (q2 := 5) 77 (gd rfl) rfl rfl rfl rfl ?_
  refine g_iconst 0 78 (gd rfl) rfl rfl ?_
  refine g_sipush 160 81 (gd rfl) rfl rfl ?_
  refine g_cpIr (q2 := 19) (q := 5) (n0 := 160) (n1 := 160) 84 (gd rfl) rfl rfl rfl rfl (Nat.le_of_ble_eq_true rfl) (cp_0 (in_c 0 rfl) rfl) (cp_0 (in_c 0 rfl) rfl) (cp_0 (in_c 160 rfl) rfl) (cp_1 (in_c 0 rfl) (in_c 160 rfl) rfl) (cp_1 (in_c 0 rfl) (in_c 160 rfl) rfl) hI65 rfl rfl rfl (fun s81 hI81 hF81 cp81 => ?_)
  refine g_aload_n 85 (gd rfl) rfl rfl ?_
  refine g_getA (q2 := 20) 88 (gd rfl) rfl rfl rfl rfl ?_
  refine g_iconst 0 89 (gd rfl) rfl rfl ?_
  refine g_aload_n 90 (gd rfl) rfl rfl ?_
  refine g_getA (q2 := 6) 93 (gd rfl) rfl rfl rfl rfl ?_
  refine g_iconst 0 94 (gd rfl) rfl rfl ?_
  refine g_sipush 160 97 (gd rfl) rfl rfl ?_
  refine g_cpIr (q2 := 20) (q := 6) (n0 := 160) (n1 := 160) 100 (gd rfl) rfl rfl rfl rfl (Nat.le_of_ble_eq_true rfl) (cp_0 (in_c 0 rfl) rfl) (cp_0 (in_c 0 rfl) rfl) (cp_0 (in_c 160 rfl) rfl) (cp_1 (in_c 0 rfl) (in_c 160 rfl) rfl) (cp_1 (in_c 0 rfl) (in_c 160 rfl) rfl) hI81 rfl rfl rfl (fun s97 hI97 hF97 cp97 => ?_)
  refine g_aload_n 101 (gd rfl) rfl rfl ?_
  refine g_getA (q2 := 21) 104 (gd rfl) rfl rfl rfl rfl ?_
  refine g_iconst 0 105 (gd rfl) rfl rfl ?_
  refine g_aload_n 106 (gd rfl) rfl rfl ?_
  refine g_getA (q2 := 7) 109 (gd rfl) rfl rfl rfl rfl ?_
  refine g_iconst 0 110 (gd rfl) rfl rfl ?_
  refine g_sipush 160 113 (gd rfl) rfl rfl ?_
  refine g_cpIr (q2 := 21) (q := 7) (n0 := 160) (n1 := 160) 116 (gd rfl) rfl rfl rfl rfl (Nat.le_of_ble_eq_true rfl) (cp_0 (in_c 0 rfl) rfl) (cp_0 (in_c 0 rfl) rfl) (cp_0 (in_c 160 rfl) rfl) (cp_1 (in_c 0 rfl) (in_c 160 rfl) rfl) (cp_1 (in_c 0 rfl) (in_c 160 rfl) rfl) hI97 rfl rfl rfl (fun s113 hI113 hF113 cp113 => ?_)
  refine g_aload_n 117 (gd rfl) rfl rfl ?_
  refine g_getA (q2 := 22) 120 (gd rfl) rfl rfl rfl rfl ?_
  refine g_iconst 0 121 (gd rfl) rfl rfl ?_
  refine g_aload_n 122 (gd rfl) rfl rfl ?_
  refine g_getA (q2 := 8) 125 (gd rfl) rfl rfl rfl rfl ?_
  refine g_iconst 0 126 (gd rfl) rfl rfl ?_
  refine g_sipush 160 129 (gd rfl) rfl rfl ?_
  refine g_cpIr (q2 := 22) (q := 8) (n0 := 160) (n1 := 160) 132 (gd rfl) rfl rfl rfl rfl (Nat.le_of_ble_eq_true rfl) (cp_0 (in_c 0 rfl) rfl) (cp_0 (in_c 0 rfl) rfl) (cp_0 (in_c 160 rfl) rfl) (cp_1 (in_c 0 rfl) (in_c 160 rfl) rfl) (cp_1 (in_c 0 rfl) (in_c 160 rfl) rfl) hI113 rfl rfl rfl (fun s129 hI129 hF129 cp129 => ?_)
  have hI132 : Inv s129 := by have hFF : Fr fm_93_2_16 s s129 := (fr_tr rfl (fr_tr rfl (fr_tr rfl (fr_tr rfl (fr_tr rfl (fr_tr rfl (fr_sF rfl (fr_sF rfl (fr_sF rfl (fr_sF rfl (fr_sF rfl fr_rf))))) hF49) hF65) hF81) hF97) hF113) hF129); exact ⟨hI129, kk_un rfl rfl (by rw [← (show (Int32.ofInt (-1)) = s129.2.2.1 2 4 from fr_F (fr_F (fr_F (fr_F (fr_F (fr_F (s := (sF (sF (sF (sF (sF s 2 0 u_16_0) 2 1 u_16_1) 2 2 u_16_2) 2 3 u_16_3) 2 4 (Int32.ofInt (-1)))) (sF_get) hF49 rfl) hF65 rfl) hF81 rfl) hF97 rfl) hF113 rfl) hF129 rfl)]; rfl) (rng_F hI129 0 4000 rfl rfl).1, kk_g hI.2.2.1 hFF rfl rfl rfl rfl rfl, kk_s hI.2.2.2.1 hFF rfl, kk_r hI.2.2.2.2 hFF rfl⟩
  have n132 : ∀ p : Nat, p < 160 → s129.1 4 p = s.1 18 p := by exact fun p hp => by rw [hF129.1 4 rfl, hF113.1 4 rfl, hF97.1 4 rfl, hF81.1 4 rfl, cp65 p, cp_get (show p < (Int32.ofInt 160).toNatClampNeg from hp), hF49.1 18 rfl]; rfl
  have n132a : ∀ p : Nat, p < 160 → s129.1 5 p = s.1 19 p := by exact fun p hp => by rw [hF129.1 5 rfl, hF113.1 5 rfl, hF97.1 5 rfl, cp81 p, cp_get (show p < (Int32.ofInt 160).toNatClampNeg from hp), hF65.1 19 rfl, hF49.1 19 rfl]; rfl
  have n132b : s129.2.2.1 2 0 = s.2.2.1 16 0 := by exact ((show u_16_0 = s129.2.2.1 2 0 from fr_F (fr_F (fr_F (fr_F (fr_F (fr_F (s := (sF (sF (sF (sF (sF s 2 0 u_16_0) 2 1 u_16_1) 2 2 u_16_2) 2 3 u_16_3) 2 4 (Int32.ofInt (-1)))) (sF_ne rfl (sF_ne rfl (sF_ne rfl (sF_ne rfl (sF_get))))) hF49 rfl) hF65 rfl) hF81 rfl) hF97 rfl) hF113 rfl) hF129 rfl)).symm.trans e_16_0
  have n132c : s129.2.2.1 2 1 = s.2.2.1 16 1 := by exact ((show u_16_1 = s129.2.2.1 2 1 from fr_F (fr_F (fr_F (fr_F (fr_F (fr_F (s := (sF (sF (sF (sF (sF s 2 0 u_16_0) 2 1 u_16_1) 2 2 u_16_2) 2 3 u_16_3) 2 4 (Int32.ofInt (-1)))) (sF_ne rfl (sF_ne rfl (sF_ne rfl (sF_get)))) hF49 rfl) hF65 rfl) hF81 rfl) hF97 rfl) hF113 rfl) hF129 rfl)).symm.trans e_16_1
  have n132d : ∀ p : Nat, p < 32 → s129.1 3 p = s.1 17 p := by exact fun p hp => by rw [hF129.1 3 rfl, hF113.1 3 rfl, hF97.1 3 rfl, hF81.1 3 rfl, hF65.1 3 rfl, cp49 p, cp_get (show p < (Int32.ofInt 32).toNatClampNeg from hp)]; rfl
  have n132e : ∀ p : Nat, p < 160 → s129.1 6 p = s.1 20 p := by exact fun p hp => by rw [hF129.1 6 rfl, hF113.1 6 rfl, cp97 p, cp_get (show p < (Int32.ofInt 160).toNatClampNeg from hp), hF81.1 20 rfl, hF65.1 20 rfl, hF49.1 20 rfl]; rfl
  have n132f : ∀ p : Nat, p < 160 → s129.1 7 p = s.1 21 p := by exact fun p hp => by rw [hF129.1 7 rfl, cp113 p, cp_get (show p < (Int32.ofInt 160).toNatClampNeg from hp), hF97.1 21 rfl, hF81.1 21 rfl, hF65.1 21 rfl, hF49.1 21 rfl]; rfl
  have n132g : ∀ p : Nat, p < 160 → s129.1 8 p = s.1 22 p := by exact fun p hp => by rw [cp129 p, cp_get (show p < (Int32.ofInt 160).toNatClampNeg from hp), hF113.1 22 rfl, hF97.1 22 rfl, hF81.1 22 rfl, hF65.1 22 rfl, hF49.1 22 rfl]; rfl
  have n132h : s129.2.2.1 2 3 = s.2.2.1 16 3 := by exact ((show u_16_3 = s129.2.2.1 2 3 from fr_F (fr_F (fr_F (fr_F (fr_F (fr_F (s := (sF (sF (sF (sF (sF s 2 0 u_16_0) 2 1 u_16_1) 2 2 u_16_2) 2 3 u_16_3) 2 4 (Int32.ofInt (-1)))) (sF_ne rfl (sF_get)) hF49 rfl) hF65 rfl) hF81 rfl) hF97 rfl) hF113 rfl) hF129 rfl)).symm.trans e_16_3
  exact g_return (gd rfl) rfl (hP _ _ ⟨s129, hI132, (fr_tr rfl (fr_tr rfl (fr_tr rfl (fr_tr rfl (fr_tr rfl (fr_tr rfl (fr_sF rfl (fr_sF rfl (fr_sF rfl (fr_sF rfl (fr_sF rfl fr_rf))))) hF49) hF65) hF81) hF97) hF113) hF129), rfl, rfl, n132, n132a, n132b, n132c, n132d, n132e, n132f, n132g, n132h⟩)

theorem oc_138_1 : (Int32.ofInt (-1000000)).toInt = (-1000000) ∧ (Int32.ofInt (-3)).toInt = (-3) ∧ (Int32.ofInt (-1)).toInt = (-1) ∧ (Int32.ofInt 0).toInt = 0 ∧ (Int32.ofInt 1).toInt = 1 ∧ (Int32.ofInt 2).toInt = 2 ∧ (Int32.ofInt 3).toInt = 3 ∧ (Int32.ofInt 4).toInt = 4 ∧ (Int32.ofInt 13).toInt = 13 ∧ (Int32.ofInt 19).toInt = 19 ∧ (Int32.ofInt 26).toInt = 26 ∧ (Int32.ofInt 32).toInt = 32 ∧ (Int32.ofInt 4000).toInt = 4000 ∧ (Int32.ofInt 1000000).toInt = 1000000 := ⟨rfl, rfl, rfl, rfl, rfl, rfl, rfl, rfl, rfl, rfl, rfl, rfl, rfl, rfl⟩
/-- GraphHouse$Ledger.doCommand -/
theorem f_138_1 {Z : AmZ} {A : Nat → Nat} {s : GS} {ex : va_W} {d : Nat} {X : AmX} {x1 : Int32} {u_2_0 : Int32} {u_2_1 : Int32} {u_30_0 : Int32} {u_2_3 : Int32} (hd : 8 ≤ d) (hI : Inv s) (h1 : In x1 (-1) 25) (e_2_0 : u_2_0 = s.2.2.1 2 0) (e_2_1 : u_2_1 = s.2.2.1 2 1) (e_30_0 : u_30_0 = s.2.2.1 30 0) (e_2_3 : u_2_3 = s.2.2.1 2 3) (q_0 : KL s) (q_1 : (x1).toInt = 13 → In (s.1 31 0) 0 25) (q_2 : cmI (x1).toInt) (q_3 : TQ s) (q_4 : (x1).toInt = 0 → In (s.1 31 4) 0 25) : GC Z d 138 [.ref (A 1), .int x1] (WW Z A s ++ ex) (lc s) (lsl s) (fun v u => ∃ a : Nat, ∃ t : GS, Inv t ∧ Fr fm_138_1 s t ∧ ((s.2.2.1 2 0).toInt ≤ (t.2.2.1 2 0).toInt) ∧ ∃ z : Int32, v = some (.int z) ∧ u = WW Z (ax A 30 a) t ++ ex ∧ In z 0 1 ∧ (KL t) ∧ ((z).toInt ≠ 0 → (t.2.2.1 30 0).toInt = nln s) ∧ ((z).toInt ≠ 0 → (s.2.2.1 2 0).toInt ≤ 3999) ∧ (∀ k : Nat, (k : Int) < 7 * (s.2.2.1 2 0).toInt → t.1 30 k = s.1 30 k) ∧ ((z).toInt ≠ 0 → dkC (gvC s) (x1).toInt (V31 s) ∧ gvC t = opC (gvC s) (x1).toInt (V31 s) ∧ TQ t) ∧ ((z).toInt = 0 → ¬ dkC (gvC s) (x1).toInt (V31 s))) X := by
  intro post xp hP hX
  refine g_enter2 (k := 138) (N := 900) (by first | exact dq1 hd rfl | exact dq0 hd rfl | exact dq2 hd rfl | exact dq3 hd rfl | omega) rfl (Nat.le_of_ble_eq_true rfl) ?_
  refine g_aload_n 1 (gd rfl) rfl rfl ?_
  refine g_callv (X := _) (As := []) (r := []) (b := A 1) (q := 1) 4 (gd rfl) rfl rfl rfl rfl rfl (ww_o rfl) (Nat.le_of_ble_eq_true rfl) (mc := 0) (ms := 0) (Nat.zero_le _) (Nat.zero_le _) (P := fun v u => _) ?_ (fun e u h => h) (fun v u h => h)
  intro po1 xx1 hp1 hx1
  refine g_enter2 (k := 122) (N := 300) (by first | exact dq1 hd rfl | exact dq0 hd rfl | exact dq2 hd rfl | exact dq3 hd rfl | omega) rfl (Nat.le_of_ble_eq_true rfl) ?_
  refine g_aload_n 1 (gd rfl) rfl rfl ?_
  refine g_getA (q2 := 2) 4 (gd rfl) rfl rfl rfl rfl ?_
  refine g_getI 7 (gd rfl) rfl rfl rfl (fun z1x4 e1x4 => ?_)
  have q1x4 : u_2_0 = z1x4 := (e_2_0).trans e1x4.symm
  subst q1x4
  refine g_sipush 4000 10 (gd rfl) rfl rfl ?_
  refine g_cmp_lt 13 17 (gd rfl) rfl rfl (fun c1x10 => ?_) (fun c1x10 => ?_)
  · skip
    have i1x10 := r_lt1 0 3999 c1x10 (inv_F hI 0 4000 rfl e_2_0) (in_c 4000 rfl) rfl
    refine g_iconst 0 18 (gd rfl) rfl rfl ?_
    refine g_ireturn (gd rfl) rfl (nb01 (in_w 0 1 (in_c 0 rfl) rfl)) (hp1 _ _ ?_)
    show GG _ _ _ _ _ _ _ _ [.int (Int32.ofInt 0)] _ _ _
    refine g_if_eq 7 9 (gd rfl) rfl rfl (fun c4 => ?_) (fun c4 => ?_)
    · skip
      refine g_iload_n 10 (gd rfl) rfl rfl ?_
      refine g_bipush 13 12 (gd rfl) rfl rfl ?_
      refine g_cmp_ne 15 46 (gd rfl) rfl rfl (fun c12 => ?_) (fun c12 => ?_)
      · skip
        refine g_iload_n 47 (gd rfl) rfl rfl ?_
        refine g_if_ne 50 132 (gd rfl) rfl rfl (fun c47 => ?_) (fun c47 => ?_)
        · skip
          refine g_aload_n 133 (gd rfl) rfl rfl ?_
          refine g_getA (q2 := 2) 136 (gd rfl) rfl rfl rfl rfl ?_
          refine g_aload_n 137 (gd rfl) rfl rfl ?_
          refine g_getA (q2 := 31) 140 (gd rfl) rfl rfl rfl rfl ?_
          refine g_iconst 0 141 (gd rfl) rfl rfl ?_
          refine g_iaload 142 (gd rfl) rfl (n := 5) rfl (in_ix (in_c 0 rfl) rfl) (fun z141 e141 => ?_)
          refine g_callv (X := _) (As := [.int z141]) (r := []) (b := A 2) (q := 2) 145 (gd rfl) rfl rfl rfl rfl rfl (ww_o rfl) (Nat.le_of_ble_eq_true rfl) (mc := 0) (ms := 0) (Nat.zero_le _) (Nat.zero_le _) (P := fun v u => _) ?_ (fun e u h => h) (fun v u h => h)
          intro po142 xx142 hp142 hx142
          refine g_enter2 (k := 96) (N := 300) (by first | exact dq1 hd rfl | exact dq0 hd rfl | exact dq2 hd rfl | exact dq3 hd rfl | omega) rfl (Nat.le_of_ble_eq_true rfl) ?_
          refine g_iload_n 1 (gd rfl) rfl rfl ?_
          refine g_if_lt 4 26 (gd rfl) rfl rfl (fun c142x1 => ?_) (fun c142x1 => ?_)
          · skip
            have i142x1 := z_lt (-2147483648) (-1) c142x1 (i_rng z141) rfl
            refine g_iconst 0 27 (gd rfl) rfl rfl ?_
            refine g_ireturn (gd rfl) rfl (nb01 (in_w 0 1 (in_c 0 rfl) rfl)) (hp142 _ _ ?_)
            show GG _ _ _ _ _ _ _ _ [.int (Int32.ofInt 0)] _ _ _
            refine g_if_ne 148 150 (gd rfl) rfl rfl (fun c145 => ?_) (fun c145 => ?_)
            · skip
              exact zn_ne c145 (in_c 0 rfl) rfl
            · skip
              refine g_iconst 0 149 (gd rfl) rfl rfl ?_
              have n149 : KL s := by exact q_0
              have n149a : ((Int32.ofInt 0)).toInt ≠ 0 → (s.2.2.1 30 0).toInt = nln s := by intro h; exact absurd rfl h
              have n149b : ((Int32.ofInt 0)).toInt ≠ 0 → (s.2.2.1 2 0).toInt ≤ 3999 := by exact fun h => absurd rfl h
              have n149c : ∀ k : Nat, (k : Int) < 7 * (s.2.2.1 2 0).toInt → s.1 30 k = s.1 30 k := by exact fun k _ => rfl
              have n149d : ((Int32.ofInt 0)).toInt ≠ 0 → dkC (gvC s) (x1).toInt (V31 s) ∧ gvC s = opC (gvC s) (x1).toInt (V31 s) ∧ TQ s := by intro h; exact absurd rfl h
              have n149e : ((Int32.ofInt 0)).toInt = 0 → ¬ dkC (gvC s) (x1).toInt (V31 s) := by intro _ h; have hg := dk_t q_2 (by have a0 := oa5 ((inv_F hI 0 160 rfl e_2_3)) ((inv_F hI 448 28000 rfl e_30_0)) ((inv_F hI 0 32 rfl e_2_1)) i1x10 h1; have oc := oc_138_1; omega) (by have a0 := oa5 ((inv_F hI 0 160 rfl e_2_3)) ((inv_F hI 448 28000 rfl e_30_0)) ((inv_F hI 0 32 rfl e_2_1)) i1x10 h1; have oc := oc_138_1; omega) h; have h7 : 0 ≤ (s.1 31 0).toInt := hg.1; have h8 : (s.1 31 0).toInt ≤ 159 := hg.2.1; have h9 : (s.1 4 (s.1 31 0).toInt.toNat).toInt ≠ -1 := hg.2.2; rw [show s.1 31 0 = z141 from e141.symm] at h7 h8 h9; have h6 := q_3 z141.toInt.toNat (by omega) h9; rw [← e_2_3] at h6; have a0 := oa5 ((inv_F hI 0 160 rfl e_2_3)) ((inv_F hI 448 28000 rfl e_30_0)) ((inv_F hI 0 32 rfl e_2_1)) i1x10 h1; have oc := oc_138_1; omega
              have n149f : (u_2_0).toInt ≤ (u_2_0).toInt := by exact Int.le_refl _
              have n149g : (s.2.2.1 2 0).toInt ≤ (s.2.2.1 2 0).toInt := by have b0 : u_2_0 = s.2.2.1 2 0 := e_2_0; first | (rw [← b0, ← e_2_0]; exact n149f) | (rw [← b0]; exact n149f)
              exact g_ireturn (gd rfl) rfl (nb01 (in_w 0 1 (in_c 0 rfl) rfl)) (hP _ _ ⟨(A 30), s, hI, fr_rf, n149g, (Int32.ofInt 0), rfl, (by rw [ax_id]), in_w 0 1 (in_c 0 rfl) rfl, n149, n149a, n149b, n149c, n149d, n149e⟩)
          · skip
            have i142x1 := z_ge 0 2147483647 c142x1 (i_rng z141) rfl
            refine g_iload_n 5 (gd rfl) rfl rfl ?_
            refine g_aload_n 6 (gd rfl) rfl rfl ?_
            refine g_getI 9 (gd rfl) rfl rfl rfl (fun z142x6 e142x6 => ?_)
            have q142x6 : u_2_3 = z142x6 := (e_2_3).trans e142x6.symm
            subst q142x6
            refine g_cmp_ge 12 26 (gd rfl) rfl rfl (fun c142x9 => ?_) (fun c142x9 => ?_)
            · skip
              refine g_iconst 0 27 (gd rfl) rfl rfl ?_
              refine g_ireturn (gd rfl) rfl (nb01 (in_w 0 1 (in_c 0 rfl) rfl)) (hp142 _ _ ?_)
              show GG _ _ _ _ _ _ _ _ [.int (Int32.ofInt 0)] _ _ _
              refine g_if_ne 148 150 (gd rfl) rfl rfl (fun c145 => ?_) (fun c145 => ?_)
              · skip
                exact zn_ne c145 (in_c 0 rfl) rfl
              · skip
                refine g_iconst 0 149 (gd rfl) rfl rfl ?_
                have n149 : KL s := by exact q_0
                have n149a : ((Int32.ofInt 0)).toInt ≠ 0 → (s.2.2.1 30 0).toInt = nln s := by intro h; exact absurd rfl h
                have n149b : ((Int32.ofInt 0)).toInt ≠ 0 → (s.2.2.1 2 0).toInt ≤ 3999 := by exact fun h => absurd rfl h
                have n149c : ∀ k : Nat, (k : Int) < 7 * (s.2.2.1 2 0).toInt → s.1 30 k = s.1 30 k := by exact fun k _ => rfl
                have n149d : ((Int32.ofInt 0)).toInt ≠ 0 → dkC (gvC s) (x1).toInt (V31 s) ∧ gvC s = opC (gvC s) (x1).toInt (V31 s) ∧ TQ s := by intro h; exact absurd rfl h
                have n149e : ((Int32.ofInt 0)).toInt = 0 → ¬ dkC (gvC s) (x1).toInt (V31 s) := by intro _ h; have hg := dk_t q_2 (by have a0 := oa5 ((inv_F hI 0 160 rfl e_2_3)) ((inv_F hI 448 28000 rfl e_30_0)) ((inv_F hI 0 32 rfl e_2_1)) i1x10 h1; have oc := oc_138_1; omega) (by have a0 := oa5 ((inv_F hI 0 160 rfl e_2_3)) ((inv_F hI 448 28000 rfl e_30_0)) ((inv_F hI 0 32 rfl e_2_1)) i1x10 h1; have oc := oc_138_1; omega) h; have h7 : 0 ≤ (s.1 31 0).toInt := hg.1; have h8 : (s.1 31 0).toInt ≤ 159 := hg.2.1; have h9 : (s.1 4 (s.1 31 0).toInt.toNat).toInt ≠ -1 := hg.2.2; rw [show s.1 31 0 = z141 from e141.symm] at h7 h8 h9; have h6 := q_3 z141.toInt.toNat (by omega) h9; rw [← e_2_3] at h6; have a0 := oa5 ((inv_F hI 0 160 rfl e_2_3)) ((inv_F hI 448 28000 rfl e_30_0)) ((inv_F hI 0 32 rfl e_2_1)) i1x10 h1; have oc := oc_138_1; omega
                have n149f : (u_2_0).toInt ≤ (u_2_0).toInt := by exact Int.le_refl _
                have n149g : (s.2.2.1 2 0).toInt ≤ (s.2.2.1 2 0).toInt := by have b0 : u_2_0 = s.2.2.1 2 0 := e_2_0; first | (rw [← b0, ← e_2_0]; exact n149f) | (rw [← b0]; exact n149f)
                exact g_ireturn (gd rfl) rfl (nb01 (in_w 0 1 (in_c 0 rfl) rfl)) (hP _ _ ⟨(A 30), s, hI, fr_rf, n149g, (Int32.ofInt 0), rfl, (by rw [ax_id]), in_w 0 1 (in_c 0 rfl) rfl, n149, n149a, n149b, n149c, n149d, n149e⟩)
            · skip
              have i142x9 := r_lt1 0 159 c142x9 i142x1 (inv_F hI 0 160 rfl e_2_3) rfl
              have i142x9a := r_lt2 1 160 c142x9 i142x1 (inv_F hI 0 160 rfl e_2_3) rfl
              refine g_aload_n 13 (gd rfl) rfl rfl ?_
              refine g_getA (q2 := 4) 16 (gd rfl) rfl rfl rfl rfl ?_
              refine g_iload_n 17 (gd rfl) rfl rfl ?_
              refine g_iaload 18 (gd rfl) rfl (n := 160) rfl (in_ix i142x9 rfl) (fun z142x17 e142x17 => ?_)
              have i142x17 := inv_I hI (n := 160) (t := 0) (-1) 31 rfl (in_ix i142x9 rfl) rfl e142x17
              refine g_iconst (-1) 19 (gd rfl) rfl rfl ?_
              refine g_cmp_eq 22 26 (gd rfl) rfl rfl (fun c142x19 => ?_) (fun c142x19 => ?_)
              · skip
                have i142x19 := r_eq1 (-1) (-1) c142x19 i142x17 (in_c (-1) rfl) rfl
                refine g_iconst 0 27 (gd rfl) rfl rfl ?_
                refine g_ireturn (gd rfl) rfl (nb01 (in_w 0 1 (in_c 0 rfl) rfl)) (hp142 _ _ ?_)
                show GG _ _ _ _ _ _ _ _ [.int (Int32.ofInt 0)] _ _ _
                refine g_if_ne 148 150 (gd rfl) rfl rfl (fun c145 => ?_) (fun c145 => ?_)
                · skip
                  exact zn_ne c145 (in_c 0 rfl) rfl
                · skip
                  refine g_iconst 0 149 (gd rfl) rfl rfl ?_
                  have n149 : KL s := by exact q_0
                  have n149a : ((Int32.ofInt 0)).toInt ≠ 0 → (s.2.2.1 30 0).toInt = nln s := by intro h; exact absurd rfl h
                  have n149b : ((Int32.ofInt 0)).toInt ≠ 0 → (s.2.2.1 2 0).toInt ≤ 3999 := by exact fun h => absurd rfl h
                  have n149c : ∀ k : Nat, (k : Int) < 7 * (s.2.2.1 2 0).toInt → s.1 30 k = s.1 30 k := by exact fun k _ => rfl
                  have n149d : ((Int32.ofInt 0)).toInt ≠ 0 → dkC (gvC s) (x1).toInt (V31 s) ∧ gvC s = opC (gvC s) (x1).toInt (V31 s) ∧ TQ s := by intro h; exact absurd rfl h
                  have n149e : ((Int32.ofInt 0)).toInt = 0 → ¬ dkC (gvC s) (x1).toInt (V31 s) := by intro _ h; have hg := dk_t q_2 (by have a0 := oa5 i142x9a ((inv_F hI 448 28000 rfl e_30_0)) ((inv_F hI 0 32 rfl e_2_1)) i1x10 h1; have oc := oc_138_1; omega) (by have a0 := oa5 i142x9a ((inv_F hI 448 28000 rfl e_30_0)) ((inv_F hI 0 32 rfl e_2_1)) i1x10 h1; have oc := oc_138_1; omega) h; have h7 : 0 ≤ (s.1 31 0).toInt := hg.1; have h8 : (s.1 31 0).toInt ≤ 159 := hg.2.1; have h9 : (s.1 4 (s.1 31 0).toInt.toNat).toInt ≠ -1 := hg.2.2; rw [show s.1 31 0 = z141 from e141.symm] at h7 h8 h9; rw [show s.1 4 z141.toInt.toNat = z142x17 from e142x17.symm] at h9; have a0 := oa5 i142x9a ((inv_F hI 448 28000 rfl e_30_0)) ((inv_F hI 0 32 rfl e_2_1)) i1x10 h1; have oc := oc_138_1; omega
                  have n149f : (u_2_0).toInt ≤ (u_2_0).toInt := by exact Int.le_refl _
                  have n149g : (s.2.2.1 2 0).toInt ≤ (s.2.2.1 2 0).toInt := by have b0 : u_2_0 = s.2.2.1 2 0 := e_2_0; first | (rw [← b0, ← e_2_0]; exact n149f) | (rw [← b0]; exact n149f)
                  exact g_ireturn (gd rfl) rfl (nb01 (in_w 0 1 (in_c 0 rfl) rfl)) (hP _ _ ⟨(A 30), s, hI, fr_rf, n149g, (Int32.ofInt 0), rfl, (by rw [ax_id]), in_w 0 1 (in_c 0 rfl) rfl, n149, n149a, n149b, n149c, n149d, n149e⟩)
              · skip
                have i142x19 := r_ne1 0 31 c142x19 i142x17 (in_c (-1) rfl) rfl
                refine g_iconst 1 23 (gd rfl) rfl rfl ?_
                refine g_goto 27 (gd rfl) rfl ?_
                refine g_ireturn (gd rfl) rfl (nb01 (in_w 0 1 (in_c 1 rfl) rfl)) (hp142 _ _ ?_)
                show GG _ _ _ _ _ _ _ _ [.int (Int32.ofInt 1)] _ _ _
                refine g_if_ne 148 150 (gd rfl) rfl rfl (fun c145 => ?_) (fun c145 => ?_)
                · skip
                  refine g_iload_n 151 (gd rfl) rfl rfl ?_
                  refine g_bipush 19 153 (gd rfl) rfl rfl ?_
                  refine g_cmp_ne 156 168 (gd rfl) rfl rfl (fun c153 => ?_) (fun c153 => ?_)
                  · skip
                    refine g_aload_n 169 (gd rfl) rfl rfl ?_
                    refine g_getA (q2 := 31) 172 (gd rfl) rfl rfl rfl rfl ?_
                    refine g_iconst 1 173 (gd rfl) rfl rfl ?_
                    refine g_iaload 174 (gd rfl) rfl (n := 5) rfl (in_ix (in_c 1 rfl) rfl) (fun z173 e173 => ?_)
                    refine g_calls (As := [.int z173]) (r := []) 177 (gd rfl) rfl rfl rfl rfl rfl (Nat.le_of_ble_eq_true rfl) (mc := 0) (ms := 0) (Nat.zero_le _) (Nat.zero_le _) (P := fun v u => _) ?_ (fun v u h => h)
                    intro po174 xx174 hp174 hx174
                    refine g_enter2 (k := 261) (N := 300) (by first | exact dq1 hd rfl | exact dq0 hd rfl | exact dq2 hd rfl | exact dq3 hd rfl | omega) rfl (Nat.le_of_ble_eq_true rfl) ?_
                    refine g_iload_n 1 (gd rfl) rfl rfl ?_
                    refine g_ldc_w (-1000000) 4 (gd rfl) rfl rfl ?_
                    refine g_cmp_lt 7 18 (gd rfl) rfl rfl (fun c174x4 => ?_) (fun c174x4 => ?_)
                    · skip
                      have i174x4 := r_lt1 (-2147483648) (-1000001) c174x4 (i_rng z173) (in_c (-1000000) rfl) rfl
                      refine g_iconst 0 19 (gd rfl) rfl rfl ?_
                      refine g_ireturn (gd rfl) rfl (nb01 (in_w 0 1 (in_c 0 rfl) rfl)) (hp174 _ _ ?_)
                      show GG _ _ _ _ _ _ _ _ [.int (Int32.ofInt 0)] _ _ _
                      refine g_if_ne 180 182 (gd rfl) rfl rfl (fun c177 => ?_) (fun c177 => ?_)
                      · skip
                        exact zn_ne c177 (in_c 0 rfl) rfl
                      · skip
                        refine g_iconst 0 181 (gd rfl) rfl rfl ?_
                        have n181 : KL s := by exact q_0
                        have n181a : ((Int32.ofInt 0)).toInt ≠ 0 → (s.2.2.1 30 0).toInt = nln s := by intro h; exact absurd rfl h
                        have n181b : ((Int32.ofInt 0)).toInt ≠ 0 → (s.2.2.1 2 0).toInt ≤ 3999 := by exact fun h => absurd rfl h
                        have n181c : ∀ k : Nat, (k : Int) < 7 * (s.2.2.1 2 0).toInt → s.1 30 k = s.1 30 k := by exact fun k _ => rfl
                        have n181d : ((Int32.ofInt 0)).toInt ≠ 0 → dkC (gvC s) (x1).toInt (V31 s) ∧ gvC s = opC (gvC s) (x1).toInt (V31 s) ∧ TQ s := by intro h; exact absurd rfl h
                        have n181e : ((Int32.ofInt 0)).toInt = 0 → ¬ dkC (gvC s) (x1).toInt (V31 s) := by intro _ h; have h9 : -1000000 ≤ (s.1 31 1).toInt ∧ (s.1 31 1).toInt ≤ 1000000 := (h.2.2.2.2 (by rcases q_2 with e | e | e | e; (have a0 := oa5 i142x9a ((inv_F hI 448 28000 rfl e_30_0)) ((inv_F hI 0 32 rfl e_2_1)) i1x10 h1; have oc := oc_138_1; omega); (have a0 := oa5 i142x9a ((inv_F hI 448 28000 rfl e_30_0)) ((inv_F hI 0 32 rfl e_2_1)) i1x10 h1; have oc := oc_138_1; omega); (have a0 := oa5 i142x9a ((inv_F hI 448 28000 rfl e_30_0)) ((inv_F hI 0 32 rfl e_2_1)) i1x10 h1; have oc := oc_138_1; omega); (exact e))).2; rw [show s.1 31 1 = z173 from e173.symm] at h9; have a0 := oa5 i142x9a ((inv_F hI 448 28000 rfl e_30_0)) ((inv_F hI 0 32 rfl e_2_1)) i1x10 h1; have oc := oc_138_1; omega
                        have n181f : (u_2_0).toInt ≤ (u_2_0).toInt := by exact Int.le_refl _
                        have n181g : (s.2.2.1 2 0).toInt ≤ (s.2.2.1 2 0).toInt := by have b0 : u_2_0 = s.2.2.1 2 0 := e_2_0; first | (rw [← b0, ← e_2_0]; exact n181f) | (rw [← b0]; exact n181f)
                        exact g_ireturn (gd rfl) rfl (nb01 (in_w 0 1 (in_c 0 rfl) rfl)) (hP _ _ ⟨(A 30), s, hI, fr_rf, n181g, (Int32.ofInt 0), rfl, (by rw [ax_id]), in_w 0 1 (in_c 0 rfl) rfl, n181, n181a, n181b, n181c, n181d, n181e⟩)
                    · skip
                      have i174x4 := r_le2 (-1000000) 2147483647 c174x4 (in_c (-1000000) rfl) (i_rng z173) rfl
                      refine g_iload_n 8 (gd rfl) rfl rfl ?_
                      refine g_ldc_w 1000000 11 (gd rfl) rfl rfl ?_
                      refine g_cmp_gt 14 18 (gd rfl) rfl rfl (fun c174x11 => ?_) (fun c174x11 => ?_)
                      · skip
                        have i174x11 := r_lt2 1000001 2147483647 c174x11 (in_c 1000000 rfl) i174x4 rfl
                        refine g_iconst 0 19 (gd rfl) rfl rfl ?_
                        refine g_ireturn (gd rfl) rfl (nb01 (in_w 0 1 (in_c 0 rfl) rfl)) (hp174 _ _ ?_)
                        show GG _ _ _ _ _ _ _ _ [.int (Int32.ofInt 0)] _ _ _
                        refine g_if_ne 180 182 (gd rfl) rfl rfl (fun c177 => ?_) (fun c177 => ?_)
                        · skip
                          exact zn_ne c177 (in_c 0 rfl) rfl
                        · skip
                          refine g_iconst 0 181 (gd rfl) rfl rfl ?_
                          have n181 : KL s := by exact q_0
                          have n181a : ((Int32.ofInt 0)).toInt ≠ 0 → (s.2.2.1 30 0).toInt = nln s := by intro h; exact absurd rfl h
                          have n181b : ((Int32.ofInt 0)).toInt ≠ 0 → (s.2.2.1 2 0).toInt ≤ 3999 := by exact fun h => absurd rfl h
                          have n181c : ∀ k : Nat, (k : Int) < 7 * (s.2.2.1 2 0).toInt → s.1 30 k = s.1 30 k := by exact fun k _ => rfl
                          have n181d : ((Int32.ofInt 0)).toInt ≠ 0 → dkC (gvC s) (x1).toInt (V31 s) ∧ gvC s = opC (gvC s) (x1).toInt (V31 s) ∧ TQ s := by intro h; exact absurd rfl h
                          have n181e : ((Int32.ofInt 0)).toInt = 0 → ¬ dkC (gvC s) (x1).toInt (V31 s) := by intro _ h; have h9 : -1000000 ≤ (s.1 31 1).toInt ∧ (s.1 31 1).toInt ≤ 1000000 := (h.2.2.2.2 (by rcases q_2 with e | e | e | e; (have a0 := oa5 i142x9a ((inv_F hI 448 28000 rfl e_30_0)) ((inv_F hI 0 32 rfl e_2_1)) i1x10 h1; have oc := oc_138_1; omega); (have a0 := oa5 i142x9a ((inv_F hI 448 28000 rfl e_30_0)) ((inv_F hI 0 32 rfl e_2_1)) i1x10 h1; have oc := oc_138_1; omega); (have a0 := oa5 i142x9a ((inv_F hI 448 28000 rfl e_30_0)) ((inv_F hI 0 32 rfl e_2_1)) i1x10 h1; have oc := oc_138_1; omega); (exact e))).2; rw [show s.1 31 1 = z173 from e173.symm] at h9; have a0 := oa5 i142x9a ((inv_F hI 448 28000 rfl e_30_0)) ((inv_F hI 0 32 rfl e_2_1)) i1x10 h1; have oc := oc_138_1; omega
                          have n181f : (u_2_0).toInt ≤ (u_2_0).toInt := by exact Int.le_refl _
                          have n181g : (s.2.2.1 2 0).toInt ≤ (s.2.2.1 2 0).toInt := by have b0 : u_2_0 = s.2.2.1 2 0 := e_2_0; first | (rw [← b0, ← e_2_0]; exact n181f) | (rw [← b0]; exact n181f)
                          exact g_ireturn (gd rfl) rfl (nb01 (in_w 0 1 (in_c 0 rfl) rfl)) (hP _ _ ⟨(A 30), s, hI, fr_rf, n181g, (Int32.ofInt 0), rfl, (by rw [ax_id]), in_w 0 1 (in_c 0 rfl) rfl, n181, n181a, n181b, n181c, n181d, n181e⟩)
                      · skip
                        have i174x11 := r_le1 (-1000000) 1000000 c174x11 i174x4 (in_c 1000000 rfl) rfl
                        refine g_iconst 1 15 (gd rfl) rfl rfl ?_
                        refine g_goto 19 (gd rfl) rfl ?_
                        refine g_ireturn (gd rfl) rfl (nb01 (in_w 0 1 (in_c 1 rfl) rfl)) (hp174 _ _ ?_)
                        show GG _ _ _ _ _ _ _ _ [.int (Int32.ofInt 1)] _ _ _
                        refine g_if_ne 180 182 (gd rfl) rfl rfl (fun c177 => ?_) (fun c177 => ?_)
                        · skip
                          refine g_aload_n 183 (gd rfl) rfl rfl ?_
                          refine g_aload_n 184 (gd rfl) rfl rfl ?_
                          refine g_getA (q2 := 31) 187 (gd rfl) rfl rfl rfl rfl ?_
                          refine g_iconst 0 188 (gd rfl) rfl rfl ?_
                          refine g_iaload 189 (gd rfl) rfl (n := 5) rfl (in_ix (in_c 0 rfl) rfl) (fun z188 e188 => ?_)
                          have q188 : z141 = z188 := (e141).trans e188.symm
                          subst q188
                          refine g_iconst 0 190 (gd rfl) rfl rfl ?_
                          refine g_aload_n 191 (gd rfl) rfl rfl ?_
                          refine g_getA (q2 := 31) 194 (gd rfl) rfl rfl rfl rfl ?_
                          refine g_iconst 1 195 (gd rfl) rfl rfl ?_
                          refine g_iaload 196 (gd rfl) rfl (n := 5) rfl (in_ix (in_c 1 rfl) rfl) (fun z195 e195 => ?_)
                          have q195 : z173 = z195 := (e173).trans e195.symm
                          subst q195
                          have p196 : KL s := by exact q_0
                          have p196a : ((Int32.ofInt 0)).toInt = 0 → In z173 (-1000000) 1000000 := by intro _; exact in_w (-1000000) 1000000 i174x11 rfl
                          have p196b : ((Int32.ofInt 0)).toInt = 1 → In z173 0 1000000 := by intro h; exact absurd h (by decide)
                          have p196c : ((Int32.ofInt 0)).toInt ≠ 0 → ((Int32.ofInt 0)).toInt ≠ 1 → In z173 0 25 := by intro h; exact absurd rfl h
                          refine g_callv (X := _) (As := [.int z141, .int (Int32.ofInt 0), .int z173]) (r := []) (b := A 1) (q := 1) 199 (gd rfl) rfl rfl rfl rfl rfl (ww_o rfl) (Nat.le_of_ble_eq_true rfl) (Nat.le_of_eq (lc_cg ((show Fr ([], [], [], []) s s from fr_rf).2.2.1 30 0 rfl) ((show Fr ([], [], [], []) s s from fr_rf).2.2.1 2 0 rfl)).1) (Nat.le_of_eq (lc_cg ((show Fr ([], [], [], []) s s from fr_rf).2.2.1 30 0 rfl) ((show Fr ([], [], [], []) s s from fr_rf).2.2.1 2 0 rfl)).2.1) (f_127_1 (by first | exact dq1 hd rfl | exact dq0 hd rfl | exact dq2 hd rfl | exact dq3 hd rfl | omega) hI (in_w 0 159 i142x9 rfl) e_2_0 e_2_1 e_30_0 (in_w 0 3999 i1x10 rfl) p196 p196a p196b p196c) (fun e u h => h) (fun v u h => ?_)
                          obtain ⟨a196, s196, hI196, hF196, n196, rfl, rfl, p196d, p196e, p196f, p196g, p196h, p196i⟩ := h
                          obtain ⟨z196a, e196⟩ : ∃ w, w = s196.2.2.1 2 0 := ⟨_, rfl⟩
                          have i196a := inv_F hI196 0 4000 rfl e196
                          rw [← (show u_2_0 = s.2.2.1 2 0 from e_2_0)] at n196
                          rw [← (show z196a = s196.2.2.1 2 0 from e196)] at n196
                          show GG _ _ _ _ _ _ _ _ [] _ _ _
                          refine g_iconst 1 200 (gd rfl) rfl rfl ?_
                          have n200 : KL s196 := by exact p196d
                          have n200a : ((Int32.ofInt 1)).toInt ≠ 0 → (s196.2.2.1 30 0).toInt = nln s := by intro _; exact p196e
                          have n200b : ((Int32.ofInt 1)).toInt ≠ 0 → (s.2.2.1 2 0).toInt ≤ 3999 := by first | (intro h; exact absurd rfl h) | (intro _; rw [← e_2_0]; have a0 := oa6 i142x9a ((inv_F hI 448 28000 rfl e_30_0)) ((inv_F hI 0 32 rfl e_2_1)) i1x10 h1 i196a; have oc := oc_138_1; omega)
                          have n200c : ∀ k : Nat, (k : Int) < 7 * (s.2.2.1 2 0).toInt → s196.1 30 k = s.1 30 k := by exact p196f
                          have n200d : ((Int32.ofInt 1)).toInt ≠ 0 → dkC (gvC s) (x1).toInt (V31 s) ∧ gvC s196 = opC (gvC s) (x1).toInt (V31 s) ∧ TQ s196 := by intro _; exact ⟨dk_22 (by rcases q_2 with e | e | e | e; (have a0 := oa6 i142x9a ((inv_F hI 448 28000 rfl e_30_0)) ((inv_F hI 0 32 rfl e_2_1)) i1x10 h1 i196a; have oc := oc_138_1; omega); (have a0 := oa6 i142x9a ((inv_F hI 448 28000 rfl e_30_0)) ((inv_F hI 0 32 rfl e_2_1)) i1x10 h1 i196a; have oc := oc_138_1; omega); (have a0 := oa6 i142x9a ((inv_F hI 448 28000 rfl e_30_0)) ((inv_F hI 0 32 rfl e_2_1)) i1x10 h1 i196a; have oc := oc_138_1; omega); (exact e)) (show (s.2.2.1 2 0).toInt ≤ 3999 from by rw [← e_2_0]; have a0 := oa6 i142x9a ((inv_F hI 448 28000 rfl e_30_0)) ((inv_F hI 0 32 rfl e_2_1)) i1x10 h1 i196a; have oc := oc_138_1; omega) (show gvT (gvC s) (V31 s 0) from ⟨show 0 ≤ (s.1 31 0).toInt from by rw [show s.1 31 0 = z141 from e141.symm]; have a0 := oa6 i142x9a ((inv_F hI 448 28000 rfl e_30_0)) ((inv_F hI 0 32 rfl e_2_1)) i1x10 h1 i196a; have oc := oc_138_1; omega, show (s.1 31 0).toInt ≤ 159 from by rw [show s.1 31 0 = z141 from e141.symm]; have a0 := oa6 i142x9a ((inv_F hI 448 28000 rfl e_30_0)) ((inv_F hI 0 32 rfl e_2_1)) i1x10 h1 i196a; have oc := oc_138_1; omega, show (s.1 4 (s.1 31 0).toInt.toNat).toInt ≠ -1 from by rw [show s.1 31 0 = z141 from e141.symm, show s.1 4 z141.toInt.toNat = z142x17 from e142x17.symm]; have a0 := oa6 i142x9a ((inv_F hI 448 28000 rfl e_30_0)) ((inv_F hI 0 32 rfl e_2_1)) i1x10 h1 i196a; have oc := oc_138_1; omega⟩) (show -1000000 ≤ (s.1 31 1).toInt ∧ (s.1 31 1).toInt ≤ 1000000 from by rw [show s.1 31 1 = z173 from e173.symm]; exact ⟨by have a0 := oa6 i142x9a ((inv_F hI 448 28000 rfl e_30_0)) ((inv_F hI 0 32 rfl e_2_1)) i1x10 h1 i196a; have oc := oc_138_1; omega, by have a0 := oa6 i142x9a ((inv_F hI 448 28000 rfl e_30_0)) ((inv_F hI 0 32 rfl e_2_1)) i1x10 h1 i196a; have oc := oc_138_1; omega⟩), by rw [p196g, opC_22 (by rcases q_2 with e | e | e | e; (have a0 := oa6 i142x9a ((inv_F hI 448 28000 rfl e_30_0)) ((inv_F hI 0 32 rfl e_2_1)) i1x10 h1 i196a; have oc := oc_138_1; omega); (have a0 := oa6 i142x9a ((inv_F hI 448 28000 rfl e_30_0)) ((inv_F hI 0 32 rfl e_2_1)) i1x10 h1 i196a; have oc := oc_138_1; omega); (have a0 := oa6 i142x9a ((inv_F hI 448 28000 rfl e_30_0)) ((inv_F hI 0 32 rfl e_2_1)) i1x10 h1 i196a; have oc := oc_138_1; omega); (exact e)), show s.1 31 0 = z141 from e141.symm, show s.1 31 1 = z173 from e173.symm], p196h q_3⟩
                          have n200e : ((Int32.ofInt 1)).toInt = 0 → ¬ dkC (gvC s) (x1).toInt (V31 s) := by intro h; exact absurd h (by decide)
                          have n200f : (u_2_0).toInt ≤ (z196a).toInt := by have a0 := oa6 i142x9a ((inv_F hI 448 28000 rfl e_30_0)) ((inv_F hI 0 32 rfl e_2_1)) i1x10 h1 i196a; have oc := oc_138_1; omega
                          have n200g : (s.2.2.1 2 0).toInt ≤ (s196.2.2.1 2 0).toInt := by have b0 : z196a = s196.2.2.1 2 0 := e196; first | (rw [← b0, ← e_2_0]; exact n200f) | (rw [← b0]; exact n200f)
                          exact g_ireturn (gd rfl) rfl (nb01 (in_w 0 1 (in_c 1 rfl) rfl)) (hP _ _ ⟨a196, s196, hI196, (fr_tr rfl fr_rf hF196), n200g, (Int32.ofInt 1), rfl, rfl, in_w 0 1 (in_c 1 rfl) rfl, n200, n200a, n200b, n200c, n200d, n200e⟩)
                        · skip
                          exact zn_eq c177 (in_c 1 rfl) rfl
                  · skip
                    have i153 := r_eq1 19 19 c153 h1 (in_c 19 rfl) rfl
                    refine g_aload_n 157 (gd rfl) rfl rfl ?_
                    refine g_aload_n 158 (gd rfl) rfl rfl ?_
                    refine g_getA (q2 := 31) 161 (gd rfl) rfl rfl rfl rfl ?_
                    refine g_iconst 0 162 (gd rfl) rfl rfl ?_
                    refine g_iaload 163 (gd rfl) rfl (n := 5) rfl (in_ix (in_c 0 rfl) rfl) (fun z162 e162 => ?_)
                    have q162 : z141 = z162 := (e141).trans e162.symm
                    subst q162
                    have p163 : KL s := by exact q_0
                    refine g_callv (X := _) (As := [.int z141]) (r := []) (b := A 1) (q := 1) 166 (gd rfl) rfl rfl rfl rfl rfl (ww_o rfl) (Nat.le_of_ble_eq_true rfl) (Nat.le_of_eq (lc_cg ((show Fr ([], [], [], []) s s from fr_rf).2.2.1 30 0 rfl) ((show Fr ([], [], [], []) s s from fr_rf).2.2.1 2 0 rfl)).1) (Nat.le_of_eq (lc_cg ((show Fr ([], [], [], []) s s from fr_rf).2.2.1 30 0 rfl) ((show Fr ([], [], [], []) s s from fr_rf).2.2.1 2 0 rfl)).2.1) (f_126_1 (by first | exact dq1 hd rfl | exact dq0 hd rfl | exact dq2 hd rfl | exact dq3 hd rfl | omega) hI (in_w 0 159 i142x9 rfl) e_2_0 e_2_1 e_30_0 (in_w 0 3999 i1x10 rfl) p163) (fun e u h => h) (fun v u h => ?_)
                    obtain ⟨a163, s163, hI163, hF163, n163, rfl, rfl, p163a, p163b, p163c, p163d, p163e, p163f⟩ := h
                    obtain ⟨z163a, e163⟩ : ∃ w, w = s163.2.2.1 2 0 := ⟨_, rfl⟩
                    have i163a := inv_F hI163 0 4000 rfl e163
                    rw [← (show u_2_0 = s.2.2.1 2 0 from e_2_0)] at n163
                    rw [← (show z163a = s163.2.2.1 2 0 from e163)] at n163
                    show GG _ _ _ _ _ _ _ _ [] _ _ _
                    refine g_iconst 1 167 (gd rfl) rfl rfl ?_
                    have n167 : KL s163 := by exact p163a
                    have n167a : ((Int32.ofInt 1)).toInt ≠ 0 → (s163.2.2.1 30 0).toInt = nln s := by intro _; exact p163b
                    have n167b : ((Int32.ofInt 1)).toInt ≠ 0 → (s.2.2.1 2 0).toInt ≤ 3999 := by first | (intro h; exact absurd rfl h) | (intro _; rw [← e_2_0]; have a0 := oa6 i142x9a ((inv_F hI 448 28000 rfl e_30_0)) ((inv_F hI 0 32 rfl e_2_1)) i1x10 i153 i163a; have oc := oc_138_1; omega)
                    have n167c : ∀ k : Nat, (k : Int) < 7 * (s.2.2.1 2 0).toInt → s163.1 30 k = s.1 30 k := by exact p163c
                    have n167d : ((Int32.ofInt 1)).toInt ≠ 0 → dkC (gvC s) (x1).toInt (V31 s) ∧ gvC s163 = opC (gvC s) (x1).toInt (V31 s) ∧ TQ s163 := by intro _; exact ⟨dk_19 (by have a0 := oa6 i142x9a ((inv_F hI 448 28000 rfl e_30_0)) ((inv_F hI 0 32 rfl e_2_1)) i1x10 i153 i163a; have oc := oc_138_1; omega) (show (s.2.2.1 2 0).toInt ≤ 3999 from by rw [← e_2_0]; have a0 := oa6 i142x9a ((inv_F hI 448 28000 rfl e_30_0)) ((inv_F hI 0 32 rfl e_2_1)) i1x10 i153 i163a; have oc := oc_138_1; omega) (show gvT (gvC s) (V31 s 0) from ⟨show 0 ≤ (s.1 31 0).toInt from by rw [show s.1 31 0 = z141 from e141.symm]; have a0 := oa6 i142x9a ((inv_F hI 448 28000 rfl e_30_0)) ((inv_F hI 0 32 rfl e_2_1)) i1x10 i153 i163a; have oc := oc_138_1; omega, show (s.1 31 0).toInt ≤ 159 from by rw [show s.1 31 0 = z141 from e141.symm]; have a0 := oa6 i142x9a ((inv_F hI 448 28000 rfl e_30_0)) ((inv_F hI 0 32 rfl e_2_1)) i1x10 i153 i163a; have oc := oc_138_1; omega, show (s.1 4 (s.1 31 0).toInt.toNat).toInt ≠ -1 from by rw [show s.1 31 0 = z141 from e141.symm, show s.1 4 z141.toInt.toNat = z142x17 from e142x17.symm]; have a0 := oa6 i142x9a ((inv_F hI 448 28000 rfl e_30_0)) ((inv_F hI 0 32 rfl e_2_1)) i1x10 i153 i163a; have oc := oc_138_1; omega⟩), by rw [p163d, opC_19 (by have a0 := oa6 i142x9a ((inv_F hI 448 28000 rfl e_30_0)) ((inv_F hI 0 32 rfl e_2_1)) i1x10 i153 i163a; have oc := oc_138_1; omega), show s.1 31 0 = z141 from e141.symm], p163e q_3⟩
                    have n167e : ((Int32.ofInt 1)).toInt = 0 → ¬ dkC (gvC s) (x1).toInt (V31 s) := by intro h; exact absurd h (by decide)
                    have n167f : (u_2_0).toInt ≤ (z163a).toInt := by have a0 := oa6 i142x9a ((inv_F hI 448 28000 rfl e_30_0)) ((inv_F hI 0 32 rfl e_2_1)) i1x10 i153 i163a; have oc := oc_138_1; omega
                    have n167g : (s.2.2.1 2 0).toInt ≤ (s163.2.2.1 2 0).toInt := by have b0 : z163a = s163.2.2.1 2 0 := e163; first | (rw [← b0, ← e_2_0]; exact n167f) | (rw [← b0]; exact n167f)
                    exact g_ireturn (gd rfl) rfl (nb01 (in_w 0 1 (in_c 1 rfl) rfl)) (hP _ _ ⟨a163, s163, hI163, (fr_tr rfl fr_rf hF163), n167g, (Int32.ofInt 1), rfl, rfl, in_w 0 1 (in_c 1 rfl) rfl, n167, n167a, n167b, n167c, n167d, n167e⟩)
                · skip
                  exact zn_eq c145 (in_c 1 rfl) rfl
        · skip
          have i47 := z_eq 0 0 c47 h1 rfl
          refine g_aload_n 51 (gd rfl) rfl rfl ?_
          refine g_aload_n 52 (gd rfl) rfl rfl ?_
          refine g_getA (q2 := 31) 55 (gd rfl) rfl rfl rfl rfl ?_
          refine g_iconst 0 56 (gd rfl) rfl rfl ?_
          refine g_iaload 57 (gd rfl) rfl (n := 5) rfl (in_ix (in_c 0 rfl) rfl) (fun z56 e56 => ?_)
          refine g_aload_n 58 (gd rfl) rfl rfl ?_
          refine g_getA (q2 := 31) 61 (gd rfl) rfl rfl rfl rfl ?_
          refine g_iconst 1 62 (gd rfl) rfl rfl ?_
          refine g_iaload 63 (gd rfl) rfl (n := 5) rfl (in_ix (in_c 1 rfl) rfl) (fun z62 e62 => ?_)
          refine g_aload_n 64 (gd rfl) rfl rfl ?_
          refine g_getA (q2 := 31) 67 (gd rfl) rfl rfl rfl rfl ?_
          refine g_iconst 2 68 (gd rfl) rfl rfl ?_
          refine g_iaload 69 (gd rfl) rfl (n := 5) rfl (in_ix (in_c 2 rfl) rfl) (fun z68 e68 => ?_)
          refine g_aload_n 70 (gd rfl) rfl rfl ?_
          refine g_getA (q2 := 31) 73 (gd rfl) rfl rfl rfl rfl ?_
          refine g_iconst 3 74 (gd rfl) rfl rfl ?_
          refine g_iaload 75 (gd rfl) rfl (n := 5) rfl (in_ix (in_c 3 rfl) rfl) (fun z74 e74 => ?_)
          refine g_aload_n 76 (gd rfl) rfl rfl ?_
          refine g_getA (q2 := 31) 79 (gd rfl) rfl rfl rfl rfl ?_
          refine g_iconst 4 80 (gd rfl) rfl rfl ?_
          refine g_iaload 81 (gd rfl) rfl (n := 5) rfl (in_ix (in_c 4 rfl) rfl) (fun z80 e80 => ?_)
          refine g_callv (X := _) (As := [.int z56, .int z62, .int z68, .int z74, .int z80]) (r := []) (b := A 1) (q := 1) 84 (gd rfl) rfl rfl rfl rfl rfl (ww_o rfl) (Nat.le_of_ble_eq_true rfl) (mc := 0) (ms := 0) (Nat.zero_le _) (Nat.zero_le _) (P := fun v u => _) ?_ (fun e u h => h) (fun v u h => h)
          intro po81 xx81 hp81 hx81
          refine g_enter2 (k := 123) (N := 300) (by first | exact dq1 hd rfl | exact dq0 hd rfl | exact dq2 hd rfl | exact dq3 hd rfl | omega) rfl (Nat.le_of_ble_eq_true rfl) ?_
          refine g_aload_n 1 (gd rfl) rfl rfl ?_
          refine g_getA (q2 := 2) 4 (gd rfl) rfl rfl rfl rfl ?_
          refine g_iload_n 5 (gd rfl) rfl rfl ?_
          refine g_callv (X := _) (As := [.int z56]) (r := []) (b := A 2) (q := 2) 8 (gd rfl) rfl rfl rfl rfl rfl (ww_o rfl) (Nat.le_of_ble_eq_true rfl) (mc := 0) (ms := 0) (Nat.zero_le _) (Nat.zero_le _) (P := fun v u => _) ?_ (fun e u h => h) (fun v u h => h)
          intro po81x5 xx81x5 hp81x5 hx81x5
          refine g_enter2 (k := 94) (N := 300) (by first | exact dq1 hd rfl | exact dq0 hd rfl | exact dq2 hd rfl | exact dq3 hd rfl | omega) rfl (Nat.le_of_ble_eq_true rfl) ?_
          refine g_iload_n 1 (gd rfl) rfl rfl ?_
          refine g_if_lt 4 16 (gd rfl) rfl rfl (fun c81x5x1 => ?_) (fun c81x5x1 => ?_)
          · skip
            have i81x5x1 := z_lt (-2147483648) (-1) c81x5x1 (i_rng z56) rfl
            refine g_iconst 0 17 (gd rfl) rfl rfl ?_
            refine g_ireturn (gd rfl) rfl (nb01 (in_w 0 1 (in_c 0 rfl) rfl)) (hp81x5 _ _ ?_)
            show GG _ _ _ _ _ _ _ _ [.int (Int32.ofInt 0)] _ _ _
            refine g_if_eq 11 49 (gd rfl) rfl rfl (fun c81x8 => ?_) (fun c81x8 => ?_)
            · skip
              refine g_iconst 0 50 (gd rfl) rfl rfl ?_
              refine g_ireturn (gd rfl) rfl (nb01 (in_w 0 1 (in_c 0 rfl) rfl)) (hp81 _ _ ?_)
              show GG _ _ _ _ _ _ _ _ [.int (Int32.ofInt 0)] _ _ _
              refine g_if_eq 87 130 (gd rfl) rfl rfl (fun c84 => ?_) (fun c84 => ?_)
              · skip
                refine g_iconst 0 131 (gd rfl) rfl rfl ?_
                have n131 : KL s := by exact q_0
                have n131a : ((Int32.ofInt 0)).toInt ≠ 0 → (s.2.2.1 30 0).toInt = nln s := by intro h; exact absurd rfl h
                have n131b : ((Int32.ofInt 0)).toInt ≠ 0 → (s.2.2.1 2 0).toInt ≤ 3999 := by exact fun h => absurd rfl h
                have n131c : ∀ k : Nat, (k : Int) < 7 * (s.2.2.1 2 0).toInt → s.1 30 k = s.1 30 k := by exact fun k _ => rfl
                have n131d : ((Int32.ofInt 0)).toInt ≠ 0 → dkC (gvC s) (x1).toInt (V31 s) ∧ gvC s = opC (gvC s) (x1).toInt (V31 s) ∧ TQ s := by intro h; exact absurd rfl h
                have n131e : ((Int32.ofInt 0)).toInt = 0 → ¬ dkC (gvC s) (x1).toInt (V31 s) := by intro _ h; have h8 : (0 ≤ (s.1 31 0).toInt ∧ (s.1 31 0).toInt < (s.2.2.1 2 1).toInt) ∧ (0 ≤ (s.1 31 1).toInt ∧ (s.1 31 1).toInt < (s.2.2.1 2 1).toInt) ∧ (-1000000 ≤ (s.1 31 2).toInt ∧ (s.1 31 2).toInt ≤ 1000000) ∧ (0 ≤ (s.1 31 3).toInt ∧ (s.1 31 3).toInt ≤ 1000000) ∧ fpl (ctg (s.1 4)) < 160 := h.2.2.1 (by have a0 := oa5 ((inv_F hI 0 160 rfl e_2_3)) ((inv_F hI 448 28000 rfl e_30_0)) ((inv_F hI 0 32 rfl e_2_1)) i1x10 i47; have oc := oc_138_1; omega); rw [show s.1 31 0 = z56 from e56.symm, show s.1 31 1 = z62 from e62.symm, show s.1 31 2 = z68 from e68.symm, show s.1 31 3 = z74 from e74.symm] at h8; rw [← e_2_1] at h8; have h5 := q_4 (by have a0 := oa5 ((inv_F hI 0 160 rfl e_2_3)) ((inv_F hI 448 28000 rfl e_30_0)) ((inv_F hI 0 32 rfl e_2_1)) i1x10 i47; have oc := oc_138_1; omega); rw [show s.1 31 4 = z80 from e80.symm] at h5; unfold In at h5; have a0 := oa5 ((inv_F hI 0 160 rfl e_2_3)) ((inv_F hI 448 28000 rfl e_30_0)) ((inv_F hI 0 32 rfl e_2_1)) i1x10 i47; have oc := oc_138_1; omega
                have n131f : (u_2_0).toInt ≤ (u_2_0).toInt := by exact Int.le_refl _
                have n131g : (s.2.2.1 2 0).toInt ≤ (s.2.2.1 2 0).toInt := by have b0 : u_2_0 = s.2.2.1 2 0 := e_2_0; first | (rw [← b0, ← e_2_0]; exact n131f) | (rw [← b0]; exact n131f)
                exact g_ireturn (gd rfl) rfl (nb01 (in_w 0 1 (in_c 0 rfl) rfl)) (hP _ _ ⟨(A 30), s, hI, fr_rf, n131g, (Int32.ofInt 0), rfl, (by rw [ax_id]), in_w 0 1 (in_c 0 rfl) rfl, n131, n131a, n131b, n131c, n131d, n131e⟩)
              · skip
                exact zn_ne c84 (in_c 0 rfl) rfl
            · skip
              exact zn_ne c81x8 (in_c 0 rfl) rfl
          · skip
            have i81x5x1 := z_ge 0 2147483647 c81x5x1 (i_rng z56) rfl
            refine g_iload_n 5 (gd rfl) rfl rfl ?_
            refine g_aload_n 6 (gd rfl) rfl rfl ?_
            refine g_getI 9 (gd rfl) rfl rfl rfl (fun z81x5x6 e81x5x6 => ?_)
            have q81x5x6 : u_2_1 = z81x5x6 := (e_2_1).trans e81x5x6.symm
            subst q81x5x6
            refine g_cmp_ge 12 16 (gd rfl) rfl rfl (fun c81x5x9 => ?_) (fun c81x5x9 => ?_)
            · skip
              refine g_iconst 0 17 (gd rfl) rfl rfl ?_
              refine g_ireturn (gd rfl) rfl (nb01 (in_w 0 1 (in_c 0 rfl) rfl)) (hp81x5 _ _ ?_)
              show GG _ _ _ _ _ _ _ _ [.int (Int32.ofInt 0)] _ _ _
              refine g_if_eq 11 49 (gd rfl) rfl rfl (fun c81x8 => ?_) (fun c81x8 => ?_)
              · skip
                refine g_iconst 0 50 (gd rfl) rfl rfl ?_
                refine g_ireturn (gd rfl) rfl (nb01 (in_w 0 1 (in_c 0 rfl) rfl)) (hp81 _ _ ?_)
                show GG _ _ _ _ _ _ _ _ [.int (Int32.ofInt 0)] _ _ _
                refine g_if_eq 87 130 (gd rfl) rfl rfl (fun c84 => ?_) (fun c84 => ?_)
                · skip
                  refine g_iconst 0 131 (gd rfl) rfl rfl ?_
                  have n131 : KL s := by exact q_0
                  have n131a : ((Int32.ofInt 0)).toInt ≠ 0 → (s.2.2.1 30 0).toInt = nln s := by intro h; exact absurd rfl h
                  have n131b : ((Int32.ofInt 0)).toInt ≠ 0 → (s.2.2.1 2 0).toInt ≤ 3999 := by exact fun h => absurd rfl h
                  have n131c : ∀ k : Nat, (k : Int) < 7 * (s.2.2.1 2 0).toInt → s.1 30 k = s.1 30 k := by exact fun k _ => rfl
                  have n131d : ((Int32.ofInt 0)).toInt ≠ 0 → dkC (gvC s) (x1).toInt (V31 s) ∧ gvC s = opC (gvC s) (x1).toInt (V31 s) ∧ TQ s := by intro h; exact absurd rfl h
                  have n131e : ((Int32.ofInt 0)).toInt = 0 → ¬ dkC (gvC s) (x1).toInt (V31 s) := by intro _ h; have h8 : (0 ≤ (s.1 31 0).toInt ∧ (s.1 31 0).toInt < (s.2.2.1 2 1).toInt) ∧ (0 ≤ (s.1 31 1).toInt ∧ (s.1 31 1).toInt < (s.2.2.1 2 1).toInt) ∧ (-1000000 ≤ (s.1 31 2).toInt ∧ (s.1 31 2).toInt ≤ 1000000) ∧ (0 ≤ (s.1 31 3).toInt ∧ (s.1 31 3).toInt ≤ 1000000) ∧ fpl (ctg (s.1 4)) < 160 := h.2.2.1 (by have a0 := oa5 ((inv_F hI 0 160 rfl e_2_3)) ((inv_F hI 448 28000 rfl e_30_0)) ((inv_F hI 0 32 rfl e_2_1)) i1x10 i47; have oc := oc_138_1; omega); rw [show s.1 31 0 = z56 from e56.symm, show s.1 31 1 = z62 from e62.symm, show s.1 31 2 = z68 from e68.symm, show s.1 31 3 = z74 from e74.symm] at h8; rw [← e_2_1] at h8; have h5 := q_4 (by have a0 := oa5 ((inv_F hI 0 160 rfl e_2_3)) ((inv_F hI 448 28000 rfl e_30_0)) ((inv_F hI 0 32 rfl e_2_1)) i1x10 i47; have oc := oc_138_1; omega); rw [show s.1 31 4 = z80 from e80.symm] at h5; unfold In at h5; have a0 := oa5 ((inv_F hI 0 160 rfl e_2_3)) ((inv_F hI 448 28000 rfl e_30_0)) ((inv_F hI 0 32 rfl e_2_1)) i1x10 i47; have oc := oc_138_1; omega
                  have n131f : (u_2_0).toInt ≤ (u_2_0).toInt := by exact Int.le_refl _
                  have n131g : (s.2.2.1 2 0).toInt ≤ (s.2.2.1 2 0).toInt := by have b0 : u_2_0 = s.2.2.1 2 0 := e_2_0; first | (rw [← b0, ← e_2_0]; exact n131f) | (rw [← b0]; exact n131f)
                  exact g_ireturn (gd rfl) rfl (nb01 (in_w 0 1 (in_c 0 rfl) rfl)) (hP _ _ ⟨(A 30), s, hI, fr_rf, n131g, (Int32.ofInt 0), rfl, (by rw [ax_id]), in_w 0 1 (in_c 0 rfl) rfl, n131, n131a, n131b, n131c, n131d, n131e⟩)
                · skip
                  exact zn_ne c84 (in_c 0 rfl) rfl
              · skip
                exact zn_ne c81x8 (in_c 0 rfl) rfl
            · skip
              have i81x5x9 := r_lt1 0 31 c81x5x9 i81x5x1 (inv_F hI 0 32 rfl e_2_1) rfl
              have i81x5x9a := r_lt2 1 32 c81x5x9 i81x5x1 (inv_F hI 0 32 rfl e_2_1) rfl
              refine g_iconst 1 13 (gd rfl) rfl rfl ?_
              refine g_goto 17 (gd rfl) rfl ?_
              refine g_ireturn (gd rfl) rfl (nb01 (in_w 0 1 (in_c 1 rfl) rfl)) (hp81x5 _ _ ?_)
              show GG _ _ _ _ _ _ _ _ [.int (Int32.ofInt 1)] _ _ _
              refine g_if_eq 11 49 (gd rfl) rfl rfl (fun c81x8 => ?_) (fun c81x8 => ?_)
              · skip
                exact zn_eq c81x8 (in_c 1 rfl) rfl
              · skip
                refine g_aload_n 12 (gd rfl) rfl rfl ?_
                refine g_getA (q2 := 2) 15 (gd rfl) rfl rfl rfl rfl ?_
                refine g_iload_n 16 (gd rfl) rfl rfl ?_
                refine g_callv (X := _) (As := [.int z62]) (r := []) (b := A 2) (q := 2) 19 (gd rfl) rfl rfl rfl rfl rfl (ww_o rfl) (Nat.le_of_ble_eq_true rfl) (mc := 0) (ms := 0) (Nat.zero_le _) (Nat.zero_le _) (P := fun v u => _) ?_ (fun e u h => h) (fun v u h => h)
                intro po81x16 xx81x16 hp81x16 hx81x16
                refine g_enter2 (k := 94) (N := 300) (by first | exact dq1 hd rfl | exact dq0 hd rfl | exact dq2 hd rfl | exact dq3 hd rfl | omega) rfl (Nat.le_of_ble_eq_true rfl) ?_
                refine g_iload_n 1 (gd rfl) rfl rfl ?_
                refine g_if_lt 4 16 (gd rfl) rfl rfl (fun c81x16x1 => ?_) (fun c81x16x1 => ?_)
                · skip
                  have i81x16x1 := z_lt (-2147483648) (-1) c81x16x1 (i_rng z62) rfl
                  refine g_iconst 0 17 (gd rfl) rfl rfl ?_
                  refine g_ireturn (gd rfl) rfl (nb01 (in_w 0 1 (in_c 0 rfl) rfl)) (hp81x16 _ _ ?_)
                  show GG _ _ _ _ _ _ _ _ [.int (Int32.ofInt 0)] _ _ _
                  refine g_if_eq 22 49 (gd rfl) rfl rfl (fun c81x19 => ?_) (fun c81x19 => ?_)
                  · skip
                    refine g_iconst 0 50 (gd rfl) rfl rfl ?_
                    refine g_ireturn (gd rfl) rfl (nb01 (in_w 0 1 (in_c 0 rfl) rfl)) (hp81 _ _ ?_)
                    show GG _ _ _ _ _ _ _ _ [.int (Int32.ofInt 0)] _ _ _
                    refine g_if_eq 87 130 (gd rfl) rfl rfl (fun c84 => ?_) (fun c84 => ?_)
                    · skip
                      refine g_iconst 0 131 (gd rfl) rfl rfl ?_
                      have n131 : KL s := by exact q_0
                      have n131a : ((Int32.ofInt 0)).toInt ≠ 0 → (s.2.2.1 30 0).toInt = nln s := by intro h; exact absurd rfl h
                      have n131b : ((Int32.ofInt 0)).toInt ≠ 0 → (s.2.2.1 2 0).toInt ≤ 3999 := by exact fun h => absurd rfl h
                      have n131c : ∀ k : Nat, (k : Int) < 7 * (s.2.2.1 2 0).toInt → s.1 30 k = s.1 30 k := by exact fun k _ => rfl
                      have n131d : ((Int32.ofInt 0)).toInt ≠ 0 → dkC (gvC s) (x1).toInt (V31 s) ∧ gvC s = opC (gvC s) (x1).toInt (V31 s) ∧ TQ s := by intro h; exact absurd rfl h
                      have n131e : ((Int32.ofInt 0)).toInt = 0 → ¬ dkC (gvC s) (x1).toInt (V31 s) := by intro _ h; have h8 : (0 ≤ (s.1 31 0).toInt ∧ (s.1 31 0).toInt < (s.2.2.1 2 1).toInt) ∧ (0 ≤ (s.1 31 1).toInt ∧ (s.1 31 1).toInt < (s.2.2.1 2 1).toInt) ∧ (-1000000 ≤ (s.1 31 2).toInt ∧ (s.1 31 2).toInt ≤ 1000000) ∧ (0 ≤ (s.1 31 3).toInt ∧ (s.1 31 3).toInt ≤ 1000000) ∧ fpl (ctg (s.1 4)) < 160 := h.2.2.1 (by have a0 := oa5 ((inv_F hI 0 160 rfl e_2_3)) ((inv_F hI 448 28000 rfl e_30_0)) i81x5x9a i1x10 i47; have oc := oc_138_1; omega); rw [show s.1 31 0 = z56 from e56.symm, show s.1 31 1 = z62 from e62.symm, show s.1 31 2 = z68 from e68.symm, show s.1 31 3 = z74 from e74.symm] at h8; rw [← e_2_1] at h8; have h5 := q_4 (by have a0 := oa5 ((inv_F hI 0 160 rfl e_2_3)) ((inv_F hI 448 28000 rfl e_30_0)) i81x5x9a i1x10 i47; have oc := oc_138_1; omega); rw [show s.1 31 4 = z80 from e80.symm] at h5; unfold In at h5; have a0 := oa5 ((inv_F hI 0 160 rfl e_2_3)) ((inv_F hI 448 28000 rfl e_30_0)) i81x5x9a i1x10 i47; have oc := oc_138_1; omega
                      have n131f : (u_2_0).toInt ≤ (u_2_0).toInt := by exact Int.le_refl _
                      have n131g : (s.2.2.1 2 0).toInt ≤ (s.2.2.1 2 0).toInt := by have b0 : u_2_0 = s.2.2.1 2 0 := e_2_0; first | (rw [← b0, ← e_2_0]; exact n131f) | (rw [← b0]; exact n131f)
                      exact g_ireturn (gd rfl) rfl (nb01 (in_w 0 1 (in_c 0 rfl) rfl)) (hP _ _ ⟨(A 30), s, hI, fr_rf, n131g, (Int32.ofInt 0), rfl, (by rw [ax_id]), in_w 0 1 (in_c 0 rfl) rfl, n131, n131a, n131b, n131c, n131d, n131e⟩)
                    · skip
                      exact zn_ne c84 (in_c 0 rfl) rfl
                  · skip
                    exact zn_ne c81x19 (in_c 0 rfl) rfl
                · skip
                  have i81x16x1 := z_ge 0 2147483647 c81x16x1 (i_rng z62) rfl
                  refine g_iload_n 5 (gd rfl) rfl rfl ?_
                  refine g_aload_n 6 (gd rfl) rfl rfl ?_
                  refine g_getI 9 (gd rfl) rfl rfl rfl (fun z81x16x6 e81x16x6 => ?_)
                  have q81x16x6 : u_2_1 = z81x16x6 := (e_2_1).trans e81x16x6.symm
                  subst q81x16x6
                  refine g_cmp_ge 12 16 (gd rfl) rfl rfl (fun c81x16x9 => ?_) (fun c81x16x9 => ?_)
                  · skip
                    have i81x16x9 := r_le2 1 2147483647 c81x16x9 i81x5x9a i81x16x1 rfl
                    refine g_iconst 0 17 (gd rfl) rfl rfl ?_
                    refine g_ireturn (gd rfl) rfl (nb01 (in_w 0 1 (in_c 0 rfl) rfl)) (hp81x16 _ _ ?_)
                    show GG _ _ _ _ _ _ _ _ [.int (Int32.ofInt 0)] _ _ _
                    refine g_if_eq 22 49 (gd rfl) rfl rfl (fun c81x19 => ?_) (fun c81x19 => ?_)
                    · skip
                      refine g_iconst 0 50 (gd rfl) rfl rfl ?_
                      refine g_ireturn (gd rfl) rfl (nb01 (in_w 0 1 (in_c 0 rfl) rfl)) (hp81 _ _ ?_)
                      show GG _ _ _ _ _ _ _ _ [.int (Int32.ofInt 0)] _ _ _
                      refine g_if_eq 87 130 (gd rfl) rfl rfl (fun c84 => ?_) (fun c84 => ?_)
                      · skip
                        refine g_iconst 0 131 (gd rfl) rfl rfl ?_
                        have n131 : KL s := by exact q_0
                        have n131a : ((Int32.ofInt 0)).toInt ≠ 0 → (s.2.2.1 30 0).toInt = nln s := by intro h; exact absurd rfl h
                        have n131b : ((Int32.ofInt 0)).toInt ≠ 0 → (s.2.2.1 2 0).toInt ≤ 3999 := by exact fun h => absurd rfl h
                        have n131c : ∀ k : Nat, (k : Int) < 7 * (s.2.2.1 2 0).toInt → s.1 30 k = s.1 30 k := by exact fun k _ => rfl
                        have n131d : ((Int32.ofInt 0)).toInt ≠ 0 → dkC (gvC s) (x1).toInt (V31 s) ∧ gvC s = opC (gvC s) (x1).toInt (V31 s) ∧ TQ s := by intro h; exact absurd rfl h
                        have n131e : ((Int32.ofInt 0)).toInt = 0 → ¬ dkC (gvC s) (x1).toInt (V31 s) := by intro _ h; have h8 : (0 ≤ (s.1 31 0).toInt ∧ (s.1 31 0).toInt < (s.2.2.1 2 1).toInt) ∧ (0 ≤ (s.1 31 1).toInt ∧ (s.1 31 1).toInt < (s.2.2.1 2 1).toInt) ∧ (-1000000 ≤ (s.1 31 2).toInt ∧ (s.1 31 2).toInt ≤ 1000000) ∧ (0 ≤ (s.1 31 3).toInt ∧ (s.1 31 3).toInt ≤ 1000000) ∧ fpl (ctg (s.1 4)) < 160 := h.2.2.1 (by have a0 := oa5 ((inv_F hI 0 160 rfl e_2_3)) ((inv_F hI 448 28000 rfl e_30_0)) i81x5x9a i1x10 i47; have oc := oc_138_1; omega); rw [show s.1 31 0 = z56 from e56.symm, show s.1 31 1 = z62 from e62.symm, show s.1 31 2 = z68 from e68.symm, show s.1 31 3 = z74 from e74.symm] at h8; rw [← e_2_1] at h8; have h5 := q_4 (by have a0 := oa5 ((inv_F hI 0 160 rfl e_2_3)) ((inv_F hI 448 28000 rfl e_30_0)) i81x5x9a i1x10 i47; have oc := oc_138_1; omega); rw [show s.1 31 4 = z80 from e80.symm] at h5; unfold In at h5; have a0 := oa5 ((inv_F hI 0 160 rfl e_2_3)) ((inv_F hI 448 28000 rfl e_30_0)) i81x5x9a i1x10 i47; have oc := oc_138_1; omega
                        have n131f : (u_2_0).toInt ≤ (u_2_0).toInt := by exact Int.le_refl _
                        have n131g : (s.2.2.1 2 0).toInt ≤ (s.2.2.1 2 0).toInt := by have b0 : u_2_0 = s.2.2.1 2 0 := e_2_0; first | (rw [← b0, ← e_2_0]; exact n131f) | (rw [← b0]; exact n131f)
                        exact g_ireturn (gd rfl) rfl (nb01 (in_w 0 1 (in_c 0 rfl) rfl)) (hP _ _ ⟨(A 30), s, hI, fr_rf, n131g, (Int32.ofInt 0), rfl, (by rw [ax_id]), in_w 0 1 (in_c 0 rfl) rfl, n131, n131a, n131b, n131c, n131d, n131e⟩)
                      · skip
                        exact zn_ne c84 (in_c 0 rfl) rfl
                    · skip
                      exact zn_ne c81x19 (in_c 0 rfl) rfl
                  · skip
                    have i81x16x9 := r_lt1 0 31 c81x16x9 i81x16x1 i81x5x9a rfl
                    refine g_iconst 1 13 (gd rfl) rfl rfl ?_
                    refine g_goto 17 (gd rfl) rfl ?_
                    refine g_ireturn (gd rfl) rfl (nb01 (in_w 0 1 (in_c 1 rfl) rfl)) (hp81x16 _ _ ?_)
                    show GG _ _ _ _ _ _ _ _ [.int (Int32.ofInt 1)] _ _ _
                    refine g_if_eq 22 49 (gd rfl) rfl rfl (fun c81x19 => ?_) (fun c81x19 => ?_)
                    · skip
                      exact zn_eq c81x19 (in_c 1 rfl) rfl
                    · skip
                      refine g_iload_n 23 (gd rfl) rfl rfl ?_
                      refine g_calls (As := [.int z68]) (r := []) 26 (gd rfl) rfl rfl rfl rfl rfl (Nat.le_of_ble_eq_true rfl) (mc := 0) (ms := 0) (Nat.zero_le _) (Nat.zero_le _) (P := fun v u => _) ?_ (fun v u h => h)
                      intro po81x23 xx81x23 hp81x23 hx81x23
                      refine g_enter2 (k := 261) (N := 300) (by first | exact dq1 hd rfl | exact dq0 hd rfl | exact dq2 hd rfl | exact dq3 hd rfl | omega) rfl (Nat.le_of_ble_eq_true rfl) ?_
                      refine g_iload_n 1 (gd rfl) rfl rfl ?_
                      refine g_ldc_w (-1000000) 4 (gd rfl) rfl rfl ?_
                      refine g_cmp_lt 7 18 (gd rfl) rfl rfl (fun c81x23x4 => ?_) (fun c81x23x4 => ?_)
                      · skip
                        have i81x23x4 := r_lt1 (-2147483648) (-1000001) c81x23x4 (i_rng z68) (in_c (-1000000) rfl) rfl
                        refine g_iconst 0 19 (gd rfl) rfl rfl ?_
                        refine g_ireturn (gd rfl) rfl (nb01 (in_w 0 1 (in_c 0 rfl) rfl)) (hp81x23 _ _ ?_)
                        show GG _ _ _ _ _ _ _ _ [.int (Int32.ofInt 0)] _ _ _
                        refine g_if_eq 29 49 (gd rfl) rfl rfl (fun c81x26 => ?_) (fun c81x26 => ?_)
                        · skip
                          refine g_iconst 0 50 (gd rfl) rfl rfl ?_
                          refine g_ireturn (gd rfl) rfl (nb01 (in_w 0 1 (in_c 0 rfl) rfl)) (hp81 _ _ ?_)
                          show GG _ _ _ _ _ _ _ _ [.int (Int32.ofInt 0)] _ _ _
                          refine g_if_eq 87 130 (gd rfl) rfl rfl (fun c84 => ?_) (fun c84 => ?_)
                          · skip
                            refine g_iconst 0 131 (gd rfl) rfl rfl ?_
                            have n131 : KL s := by exact q_0
                            have n131a : ((Int32.ofInt 0)).toInt ≠ 0 → (s.2.2.1 30 0).toInt = nln s := by intro h; exact absurd rfl h
                            have n131b : ((Int32.ofInt 0)).toInt ≠ 0 → (s.2.2.1 2 0).toInt ≤ 3999 := by exact fun h => absurd rfl h
                            have n131c : ∀ k : Nat, (k : Int) < 7 * (s.2.2.1 2 0).toInt → s.1 30 k = s.1 30 k := by exact fun k _ => rfl
                            have n131d : ((Int32.ofInt 0)).toInt ≠ 0 → dkC (gvC s) (x1).toInt (V31 s) ∧ gvC s = opC (gvC s) (x1).toInt (V31 s) ∧ TQ s := by intro h; exact absurd rfl h
                            have n131e : ((Int32.ofInt 0)).toInt = 0 → ¬ dkC (gvC s) (x1).toInt (V31 s) := by intro _ h; have h8 : (0 ≤ (s.1 31 0).toInt ∧ (s.1 31 0).toInt < (s.2.2.1 2 1).toInt) ∧ (0 ≤ (s.1 31 1).toInt ∧ (s.1 31 1).toInt < (s.2.2.1 2 1).toInt) ∧ (-1000000 ≤ (s.1 31 2).toInt ∧ (s.1 31 2).toInt ≤ 1000000) ∧ (0 ≤ (s.1 31 3).toInt ∧ (s.1 31 3).toInt ≤ 1000000) ∧ fpl (ctg (s.1 4)) < 160 := h.2.2.1 (by have a0 := oa5 ((inv_F hI 0 160 rfl e_2_3)) ((inv_F hI 448 28000 rfl e_30_0)) i81x5x9a i1x10 i47; have oc := oc_138_1; omega); rw [show s.1 31 0 = z56 from e56.symm, show s.1 31 1 = z62 from e62.symm, show s.1 31 2 = z68 from e68.symm, show s.1 31 3 = z74 from e74.symm] at h8; rw [← e_2_1] at h8; have h5 := q_4 (by have a0 := oa5 ((inv_F hI 0 160 rfl e_2_3)) ((inv_F hI 448 28000 rfl e_30_0)) i81x5x9a i1x10 i47; have oc := oc_138_1; omega); rw [show s.1 31 4 = z80 from e80.symm] at h5; unfold In at h5; have a0 := oa5 ((inv_F hI 0 160 rfl e_2_3)) ((inv_F hI 448 28000 rfl e_30_0)) i81x5x9a i1x10 i47; have oc := oc_138_1; omega
                            have n131f : (u_2_0).toInt ≤ (u_2_0).toInt := by exact Int.le_refl _
                            have n131g : (s.2.2.1 2 0).toInt ≤ (s.2.2.1 2 0).toInt := by have b0 : u_2_0 = s.2.2.1 2 0 := e_2_0; first | (rw [← b0, ← e_2_0]; exact n131f) | (rw [← b0]; exact n131f)
                            exact g_ireturn (gd rfl) rfl (nb01 (in_w 0 1 (in_c 0 rfl) rfl)) (hP _ _ ⟨(A 30), s, hI, fr_rf, n131g, (Int32.ofInt 0), rfl, (by rw [ax_id]), in_w 0 1 (in_c 0 rfl) rfl, n131, n131a, n131b, n131c, n131d, n131e⟩)
                          · skip
                            exact zn_ne c84 (in_c 0 rfl) rfl
                        · skip
                          exact zn_ne c81x26 (in_c 0 rfl) rfl
                      · skip
                        have i81x23x4 := r_le2 (-1000000) 2147483647 c81x23x4 (in_c (-1000000) rfl) (i_rng z68) rfl
                        refine g_iload_n 8 (gd rfl) rfl rfl ?_
                        refine g_ldc_w 1000000 11 (gd rfl) rfl rfl ?_
                        refine g_cmp_gt 14 18 (gd rfl) rfl rfl (fun c81x23x11 => ?_) (fun c81x23x11 => ?_)
                        · skip
                          have i81x23x11 := r_lt2 1000001 2147483647 c81x23x11 (in_c 1000000 rfl) i81x23x4 rfl
                          refine g_iconst 0 19 (gd rfl) rfl rfl ?_
                          refine g_ireturn (gd rfl) rfl (nb01 (in_w 0 1 (in_c 0 rfl) rfl)) (hp81x23 _ _ ?_)
                          show GG _ _ _ _ _ _ _ _ [.int (Int32.ofInt 0)] _ _ _
                          refine g_if_eq 29 49 (gd rfl) rfl rfl (fun c81x26 => ?_) (fun c81x26 => ?_)
                          · skip
                            refine g_iconst 0 50 (gd rfl) rfl rfl ?_
                            refine g_ireturn (gd rfl) rfl (nb01 (in_w 0 1 (in_c 0 rfl) rfl)) (hp81 _ _ ?_)
                            show GG _ _ _ _ _ _ _ _ [.int (Int32.ofInt 0)] _ _ _
                            refine g_if_eq 87 130 (gd rfl) rfl rfl (fun c84 => ?_) (fun c84 => ?_)
                            · skip
                              refine g_iconst 0 131 (gd rfl) rfl rfl ?_
                              have n131 : KL s := by exact q_0
                              have n131a : ((Int32.ofInt 0)).toInt ≠ 0 → (s.2.2.1 30 0).toInt = nln s := by intro h; exact absurd rfl h
                              have n131b : ((Int32.ofInt 0)).toInt ≠ 0 → (s.2.2.1 2 0).toInt ≤ 3999 := by exact fun h => absurd rfl h
                              have n131c : ∀ k : Nat, (k : Int) < 7 * (s.2.2.1 2 0).toInt → s.1 30 k = s.1 30 k := by exact fun k _ => rfl
                              have n131d : ((Int32.ofInt 0)).toInt ≠ 0 → dkC (gvC s) (x1).toInt (V31 s) ∧ gvC s = opC (gvC s) (x1).toInt (V31 s) ∧ TQ s := by intro h; exact absurd rfl h
                              have n131e : ((Int32.ofInt 0)).toInt = 0 → ¬ dkC (gvC s) (x1).toInt (V31 s) := by intro _ h; have h8 : (0 ≤ (s.1 31 0).toInt ∧ (s.1 31 0).toInt < (s.2.2.1 2 1).toInt) ∧ (0 ≤ (s.1 31 1).toInt ∧ (s.1 31 1).toInt < (s.2.2.1 2 1).toInt) ∧ (-1000000 ≤ (s.1 31 2).toInt ∧ (s.1 31 2).toInt ≤ 1000000) ∧ (0 ≤ (s.1 31 3).toInt ∧ (s.1 31 3).toInt ≤ 1000000) ∧ fpl (ctg (s.1 4)) < 160 := h.2.2.1 (by have a0 := oa5 ((inv_F hI 0 160 rfl e_2_3)) ((inv_F hI 448 28000 rfl e_30_0)) i81x5x9a i1x10 i47; have oc := oc_138_1; omega); rw [show s.1 31 0 = z56 from e56.symm, show s.1 31 1 = z62 from e62.symm, show s.1 31 2 = z68 from e68.symm, show s.1 31 3 = z74 from e74.symm] at h8; rw [← e_2_1] at h8; have h5 := q_4 (by have a0 := oa5 ((inv_F hI 0 160 rfl e_2_3)) ((inv_F hI 448 28000 rfl e_30_0)) i81x5x9a i1x10 i47; have oc := oc_138_1; omega); rw [show s.1 31 4 = z80 from e80.symm] at h5; unfold In at h5; have a0 := oa5 ((inv_F hI 0 160 rfl e_2_3)) ((inv_F hI 448 28000 rfl e_30_0)) i81x5x9a i1x10 i47; have oc := oc_138_1; omega
                              have n131f : (u_2_0).toInt ≤ (u_2_0).toInt := by exact Int.le_refl _
                              have n131g : (s.2.2.1 2 0).toInt ≤ (s.2.2.1 2 0).toInt := by have b0 : u_2_0 = s.2.2.1 2 0 := e_2_0; first | (rw [← b0, ← e_2_0]; exact n131f) | (rw [← b0]; exact n131f)
                              exact g_ireturn (gd rfl) rfl (nb01 (in_w 0 1 (in_c 0 rfl) rfl)) (hP _ _ ⟨(A 30), s, hI, fr_rf, n131g, (Int32.ofInt 0), rfl, (by rw [ax_id]), in_w 0 1 (in_c 0 rfl) rfl, n131, n131a, n131b, n131c, n131d, n131e⟩)
                            · skip
                              exact zn_ne c84 (in_c 0 rfl) rfl
                          · skip
                            exact zn_ne c81x26 (in_c 0 rfl) rfl
                        · skip
                          have i81x23x11 := r_le1 (-1000000) 1000000 c81x23x11 i81x23x4 (in_c 1000000 rfl) rfl
                          refine g_iconst 1 15 (gd rfl) rfl rfl ?_
                          refine g_goto 19 (gd rfl) rfl ?_
                          refine g_ireturn (gd rfl) rfl (nb01 (in_w 0 1 (in_c 1 rfl) rfl)) (hp81x23 _ _ ?_)
                          show GG _ _ _ _ _ _ _ _ [.int (Int32.ofInt 1)] _ _ _
                          refine g_if_eq 29 49 (gd rfl) rfl rfl (fun c81x26 => ?_) (fun c81x26 => ?_)
                          · skip
                            exact zn_eq c81x26 (in_c 1 rfl) rfl
                          · skip
                            refine g_iload 31 (gd rfl) rfl rfl ?_
                            refine g_calls (As := [.int z74]) (r := []) 34 (gd rfl) rfl rfl rfl rfl rfl (Nat.le_of_ble_eq_true rfl) (mc := 0) (ms := 0) (Nat.zero_le _) (Nat.zero_le _) (P := fun v u => _) ?_ (fun v u h => h)
                            intro po81x31 xx81x31 hp81x31 hx81x31
                            refine g_enter2 (k := 262) (N := 300) (by first | exact dq1 hd rfl | exact dq0 hd rfl | exact dq2 hd rfl | exact dq3 hd rfl | omega) rfl (Nat.le_of_ble_eq_true rfl) ?_
                            refine g_iload_n 1 (gd rfl) rfl rfl ?_
                            refine g_if_lt 4 15 (gd rfl) rfl rfl (fun c81x31x1 => ?_) (fun c81x31x1 => ?_)
                            · skip
                              have i81x31x1 := z_lt (-2147483648) (-1) c81x31x1 (i_rng z74) rfl
                              refine g_iconst 0 16 (gd rfl) rfl rfl ?_
                              refine g_ireturn (gd rfl) rfl (nb01 (in_w 0 1 (in_c 0 rfl) rfl)) (hp81x31 _ _ ?_)
                              show GG _ _ _ _ _ _ _ _ [.int (Int32.ofInt 0)] _ _ _
                              refine g_if_eq 37 49 (gd rfl) rfl rfl (fun c81x34 => ?_) (fun c81x34 => ?_)
                              · skip
                                refine g_iconst 0 50 (gd rfl) rfl rfl ?_
                                refine g_ireturn (gd rfl) rfl (nb01 (in_w 0 1 (in_c 0 rfl) rfl)) (hp81 _ _ ?_)
                                show GG _ _ _ _ _ _ _ _ [.int (Int32.ofInt 0)] _ _ _
                                refine g_if_eq 87 130 (gd rfl) rfl rfl (fun c84 => ?_) (fun c84 => ?_)
                                · skip
                                  refine g_iconst 0 131 (gd rfl) rfl rfl ?_
                                  have n131 : KL s := by exact q_0
                                  have n131a : ((Int32.ofInt 0)).toInt ≠ 0 → (s.2.2.1 30 0).toInt = nln s := by intro h; exact absurd rfl h
                                  have n131b : ((Int32.ofInt 0)).toInt ≠ 0 → (s.2.2.1 2 0).toInt ≤ 3999 := by exact fun h => absurd rfl h
                                  have n131c : ∀ k : Nat, (k : Int) < 7 * (s.2.2.1 2 0).toInt → s.1 30 k = s.1 30 k := by exact fun k _ => rfl
                                  have n131d : ((Int32.ofInt 0)).toInt ≠ 0 → dkC (gvC s) (x1).toInt (V31 s) ∧ gvC s = opC (gvC s) (x1).toInt (V31 s) ∧ TQ s := by intro h; exact absurd rfl h
                                  have n131e : ((Int32.ofInt 0)).toInt = 0 → ¬ dkC (gvC s) (x1).toInt (V31 s) := by intro _ h; have h8 : (0 ≤ (s.1 31 0).toInt ∧ (s.1 31 0).toInt < (s.2.2.1 2 1).toInt) ∧ (0 ≤ (s.1 31 1).toInt ∧ (s.1 31 1).toInt < (s.2.2.1 2 1).toInt) ∧ (-1000000 ≤ (s.1 31 2).toInt ∧ (s.1 31 2).toInt ≤ 1000000) ∧ (0 ≤ (s.1 31 3).toInt ∧ (s.1 31 3).toInt ≤ 1000000) ∧ fpl (ctg (s.1 4)) < 160 := h.2.2.1 (by have a0 := oa5 ((inv_F hI 0 160 rfl e_2_3)) ((inv_F hI 448 28000 rfl e_30_0)) i81x5x9a i1x10 i47; have oc := oc_138_1; omega); rw [show s.1 31 0 = z56 from e56.symm, show s.1 31 1 = z62 from e62.symm, show s.1 31 2 = z68 from e68.symm, show s.1 31 3 = z74 from e74.symm] at h8; rw [← e_2_1] at h8; have h5 := q_4 (by have a0 := oa5 ((inv_F hI 0 160 rfl e_2_3)) ((inv_F hI 448 28000 rfl e_30_0)) i81x5x9a i1x10 i47; have oc := oc_138_1; omega); rw [show s.1 31 4 = z80 from e80.symm] at h5; unfold In at h5; have a0 := oa5 ((inv_F hI 0 160 rfl e_2_3)) ((inv_F hI 448 28000 rfl e_30_0)) i81x5x9a i1x10 i47; have oc := oc_138_1; omega
                                  have n131f : (u_2_0).toInt ≤ (u_2_0).toInt := by exact Int.le_refl _
                                  have n131g : (s.2.2.1 2 0).toInt ≤ (s.2.2.1 2 0).toInt := by have b0 : u_2_0 = s.2.2.1 2 0 := e_2_0; first | (rw [← b0, ← e_2_0]; exact n131f) | (rw [← b0]; exact n131f)
                                  exact g_ireturn (gd rfl) rfl (nb01 (in_w 0 1 (in_c 0 rfl) rfl)) (hP _ _ ⟨(A 30), s, hI, fr_rf, n131g, (Int32.ofInt 0), rfl, (by rw [ax_id]), in_w 0 1 (in_c 0 rfl) rfl, n131, n131a, n131b, n131c, n131d, n131e⟩)
                                · skip
                                  exact zn_ne c84 (in_c 0 rfl) rfl
                              · skip
                                exact zn_ne c81x34 (in_c 0 rfl) rfl
                            · skip
                              have i81x31x1 := z_ge 0 2147483647 c81x31x1 (i_rng z74) rfl
                              refine g_iload_n 5 (gd rfl) rfl rfl ?_
                              refine g_ldc_w 1000000 8 (gd rfl) rfl rfl ?_
                              refine g_cmp_gt 11 15 (gd rfl) rfl rfl (fun c81x31x8 => ?_) (fun c81x31x8 => ?_)
                              · skip
                                have i81x31x8 := r_lt2 1000001 2147483647 c81x31x8 (in_c 1000000 rfl) i81x31x1 rfl
                                refine g_iconst 0 16 (gd rfl) rfl rfl ?_
                                refine g_ireturn (gd rfl) rfl (nb01 (in_w 0 1 (in_c 0 rfl) rfl)) (hp81x31 _ _ ?_)
                                show GG _ _ _ _ _ _ _ _ [.int (Int32.ofInt 0)] _ _ _
                                refine g_if_eq 37 49 (gd rfl) rfl rfl (fun c81x34 => ?_) (fun c81x34 => ?_)
                                · skip
                                  refine g_iconst 0 50 (gd rfl) rfl rfl ?_
                                  refine g_ireturn (gd rfl) rfl (nb01 (in_w 0 1 (in_c 0 rfl) rfl)) (hp81 _ _ ?_)
                                  show GG _ _ _ _ _ _ _ _ [.int (Int32.ofInt 0)] _ _ _
                                  refine g_if_eq 87 130 (gd rfl) rfl rfl (fun c84 => ?_) (fun c84 => ?_)
                                  · skip
                                    refine g_iconst 0 131 (gd rfl) rfl rfl ?_
                                    have n131 : KL s := by exact q_0
                                    have n131a : ((Int32.ofInt 0)).toInt ≠ 0 → (s.2.2.1 30 0).toInt = nln s := by intro h; exact absurd rfl h
                                    have n131b : ((Int32.ofInt 0)).toInt ≠ 0 → (s.2.2.1 2 0).toInt ≤ 3999 := by exact fun h => absurd rfl h
                                    have n131c : ∀ k : Nat, (k : Int) < 7 * (s.2.2.1 2 0).toInt → s.1 30 k = s.1 30 k := by exact fun k _ => rfl
                                    have n131d : ((Int32.ofInt 0)).toInt ≠ 0 → dkC (gvC s) (x1).toInt (V31 s) ∧ gvC s = opC (gvC s) (x1).toInt (V31 s) ∧ TQ s := by intro h; exact absurd rfl h
                                    have n131e : ((Int32.ofInt 0)).toInt = 0 → ¬ dkC (gvC s) (x1).toInt (V31 s) := by intro _ h; have h8 : (0 ≤ (s.1 31 0).toInt ∧ (s.1 31 0).toInt < (s.2.2.1 2 1).toInt) ∧ (0 ≤ (s.1 31 1).toInt ∧ (s.1 31 1).toInt < (s.2.2.1 2 1).toInt) ∧ (-1000000 ≤ (s.1 31 2).toInt ∧ (s.1 31 2).toInt ≤ 1000000) ∧ (0 ≤ (s.1 31 3).toInt ∧ (s.1 31 3).toInt ≤ 1000000) ∧ fpl (ctg (s.1 4)) < 160 := h.2.2.1 (by have a0 := oa5 ((inv_F hI 0 160 rfl e_2_3)) ((inv_F hI 448 28000 rfl e_30_0)) i81x5x9a i1x10 i47; have oc := oc_138_1; omega); rw [show s.1 31 0 = z56 from e56.symm, show s.1 31 1 = z62 from e62.symm, show s.1 31 2 = z68 from e68.symm, show s.1 31 3 = z74 from e74.symm] at h8; rw [← e_2_1] at h8; have h5 := q_4 (by have a0 := oa5 ((inv_F hI 0 160 rfl e_2_3)) ((inv_F hI 448 28000 rfl e_30_0)) i81x5x9a i1x10 i47; have oc := oc_138_1; omega); rw [show s.1 31 4 = z80 from e80.symm] at h5; unfold In at h5; have a0 := oa5 ((inv_F hI 0 160 rfl e_2_3)) ((inv_F hI 448 28000 rfl e_30_0)) i81x5x9a i1x10 i47; have oc := oc_138_1; omega
                                    have n131f : (u_2_0).toInt ≤ (u_2_0).toInt := by exact Int.le_refl _
                                    have n131g : (s.2.2.1 2 0).toInt ≤ (s.2.2.1 2 0).toInt := by have b0 : u_2_0 = s.2.2.1 2 0 := e_2_0; first | (rw [← b0, ← e_2_0]; exact n131f) | (rw [← b0]; exact n131f)
                                    exact g_ireturn (gd rfl) rfl (nb01 (in_w 0 1 (in_c 0 rfl) rfl)) (hP _ _ ⟨(A 30), s, hI, fr_rf, n131g, (Int32.ofInt 0), rfl, (by rw [ax_id]), in_w 0 1 (in_c 0 rfl) rfl, n131, n131a, n131b, n131c, n131d, n131e⟩)
                                  · skip
                                    exact zn_ne c84 (in_c 0 rfl) rfl
                                · skip
                                  exact zn_ne c81x34 (in_c 0 rfl) rfl
                              · skip
                                have i81x31x8 := r_le1 0 1000000 c81x31x8 i81x31x1 (in_c 1000000 rfl) rfl
                                refine g_iconst 1 12 (gd rfl) rfl rfl ?_
                                refine g_goto 16 (gd rfl) rfl ?_
                                refine g_ireturn (gd rfl) rfl (nb01 (in_w 0 1 (in_c 1 rfl) rfl)) (hp81x31 _ _ ?_)
                                show GG _ _ _ _ _ _ _ _ [.int (Int32.ofInt 1)] _ _ _
                                refine g_if_eq 37 49 (gd rfl) rfl rfl (fun c81x34 => ?_) (fun c81x34 => ?_)
                                · skip
                                  exact zn_eq c81x34 (in_c 1 rfl) rfl
                                · skip
                                  refine g_iload 39 (gd rfl) rfl rfl ?_
                                  refine g_calls (As := [.int z80]) (r := []) 42 (gd rfl) rfl rfl rfl rfl rfl (Nat.le_of_ble_eq_true rfl) (mc := 0) (ms := 0) (Nat.zero_le _) (Nat.zero_le _) (P := fun v u => _) ?_ (fun v u h => h)
                                  intro po81x39 xx81x39 hp81x39 hx81x39
                                  refine g_enter2 (k := 260) (N := 300) (by first | exact dq1 hd rfl | exact dq0 hd rfl | exact dq2 hd rfl | exact dq3 hd rfl | omega) rfl (Nat.le_of_ble_eq_true rfl) ?_
                                  refine g_iload_n 1 (gd rfl) rfl rfl ?_
                                  refine g_if_lt 4 14 (gd rfl) rfl rfl (fun c81x39x1 => ?_) (fun c81x39x1 => ?_)
                                  · skip
                                    have i81x39x1 := z_lt (-2147483648) (-1) c81x39x1 (i_rng z80) rfl
                                    refine g_iconst 0 15 (gd rfl) rfl rfl ?_
                                    refine g_ireturn (gd rfl) rfl (nb01 (in_w 0 1 (in_c 0 rfl) rfl)) (hp81x39 _ _ ?_)
                                    show GG _ _ _ _ _ _ _ _ [.int (Int32.ofInt 0)] _ _ _
                                    refine g_if_eq 45 49 (gd rfl) rfl rfl (fun c81x42 => ?_) (fun c81x42 => ?_)
                                    · skip
                                      refine g_iconst 0 50 (gd rfl) rfl rfl ?_
                                      refine g_ireturn (gd rfl) rfl (nb01 (in_w 0 1 (in_c 0 rfl) rfl)) (hp81 _ _ ?_)
                                      show GG _ _ _ _ _ _ _ _ [.int (Int32.ofInt 0)] _ _ _
                                      refine g_if_eq 87 130 (gd rfl) rfl rfl (fun c84 => ?_) (fun c84 => ?_)
                                      · skip
                                        refine g_iconst 0 131 (gd rfl) rfl rfl ?_
                                        have n131 : KL s := by exact q_0
                                        have n131a : ((Int32.ofInt 0)).toInt ≠ 0 → (s.2.2.1 30 0).toInt = nln s := by intro h; exact absurd rfl h
                                        have n131b : ((Int32.ofInt 0)).toInt ≠ 0 → (s.2.2.1 2 0).toInt ≤ 3999 := by exact fun h => absurd rfl h
                                        have n131c : ∀ k : Nat, (k : Int) < 7 * (s.2.2.1 2 0).toInt → s.1 30 k = s.1 30 k := by exact fun k _ => rfl
                                        have n131d : ((Int32.ofInt 0)).toInt ≠ 0 → dkC (gvC s) (x1).toInt (V31 s) ∧ gvC s = opC (gvC s) (x1).toInt (V31 s) ∧ TQ s := by intro h; exact absurd rfl h
                                        have n131e : ((Int32.ofInt 0)).toInt = 0 → ¬ dkC (gvC s) (x1).toInt (V31 s) := by intro _ h; have h8 : (0 ≤ (s.1 31 0).toInt ∧ (s.1 31 0).toInt < (s.2.2.1 2 1).toInt) ∧ (0 ≤ (s.1 31 1).toInt ∧ (s.1 31 1).toInt < (s.2.2.1 2 1).toInt) ∧ (-1000000 ≤ (s.1 31 2).toInt ∧ (s.1 31 2).toInt ≤ 1000000) ∧ (0 ≤ (s.1 31 3).toInt ∧ (s.1 31 3).toInt ≤ 1000000) ∧ fpl (ctg (s.1 4)) < 160 := h.2.2.1 (by have a0 := oa5 ((inv_F hI 0 160 rfl e_2_3)) ((inv_F hI 448 28000 rfl e_30_0)) i81x5x9a i1x10 i47; have oc := oc_138_1; omega); rw [show s.1 31 0 = z56 from e56.symm, show s.1 31 1 = z62 from e62.symm, show s.1 31 2 = z68 from e68.symm, show s.1 31 3 = z74 from e74.symm] at h8; rw [← e_2_1] at h8; have h5 := q_4 (by have a0 := oa5 ((inv_F hI 0 160 rfl e_2_3)) ((inv_F hI 448 28000 rfl e_30_0)) i81x5x9a i1x10 i47; have oc := oc_138_1; omega); rw [show s.1 31 4 = z80 from e80.symm] at h5; unfold In at h5; have a0 := oa5 ((inv_F hI 0 160 rfl e_2_3)) ((inv_F hI 448 28000 rfl e_30_0)) i81x5x9a i1x10 i47; have oc := oc_138_1; omega
                                        have n131f : (u_2_0).toInt ≤ (u_2_0).toInt := by exact Int.le_refl _
                                        have n131g : (s.2.2.1 2 0).toInt ≤ (s.2.2.1 2 0).toInt := by have b0 : u_2_0 = s.2.2.1 2 0 := e_2_0; first | (rw [← b0, ← e_2_0]; exact n131f) | (rw [← b0]; exact n131f)
                                        exact g_ireturn (gd rfl) rfl (nb01 (in_w 0 1 (in_c 0 rfl) rfl)) (hP _ _ ⟨(A 30), s, hI, fr_rf, n131g, (Int32.ofInt 0), rfl, (by rw [ax_id]), in_w 0 1 (in_c 0 rfl) rfl, n131, n131a, n131b, n131c, n131d, n131e⟩)
                                      · skip
                                        exact zn_ne c84 (in_c 0 rfl) rfl
                                    · skip
                                      exact zn_ne c81x42 (in_c 0 rfl) rfl
                                  · skip
                                    have i81x39x1 := z_ge 0 2147483647 c81x39x1 (i_rng z80) rfl
                                    refine g_iload_n 5 (gd rfl) rfl rfl ?_
                                    refine g_bipush 26 7 (gd rfl) rfl rfl ?_
                                    refine g_cmp_ge 10 14 (gd rfl) rfl rfl (fun c81x39x7 => ?_) (fun c81x39x7 => ?_)
                                    · skip
                                      have i81x39x7 := r_le2 26 2147483647 c81x39x7 (in_c 26 rfl) i81x39x1 rfl
                                      refine g_iconst 0 15 (gd rfl) rfl rfl ?_
                                      refine g_ireturn (gd rfl) rfl (nb01 (in_w 0 1 (in_c 0 rfl) rfl)) (hp81x39 _ _ ?_)
                                      show GG _ _ _ _ _ _ _ _ [.int (Int32.ofInt 0)] _ _ _
                                      refine g_if_eq 45 49 (gd rfl) rfl rfl (fun c81x42 => ?_) (fun c81x42 => ?_)
                                      · skip
                                        refine g_iconst 0 50 (gd rfl) rfl rfl ?_
                                        refine g_ireturn (gd rfl) rfl (nb01 (in_w 0 1 (in_c 0 rfl) rfl)) (hp81 _ _ ?_)
                                        show GG _ _ _ _ _ _ _ _ [.int (Int32.ofInt 0)] _ _ _
                                        refine g_if_eq 87 130 (gd rfl) rfl rfl (fun c84 => ?_) (fun c84 => ?_)
                                        · skip
                                          refine g_iconst 0 131 (gd rfl) rfl rfl ?_
                                          have n131 : KL s := by exact q_0
                                          have n131a : ((Int32.ofInt 0)).toInt ≠ 0 → (s.2.2.1 30 0).toInt = nln s := by intro h; exact absurd rfl h
                                          have n131b : ((Int32.ofInt 0)).toInt ≠ 0 → (s.2.2.1 2 0).toInt ≤ 3999 := by exact fun h => absurd rfl h
                                          have n131c : ∀ k : Nat, (k : Int) < 7 * (s.2.2.1 2 0).toInt → s.1 30 k = s.1 30 k := by exact fun k _ => rfl
                                          have n131d : ((Int32.ofInt 0)).toInt ≠ 0 → dkC (gvC s) (x1).toInt (V31 s) ∧ gvC s = opC (gvC s) (x1).toInt (V31 s) ∧ TQ s := by intro h; exact absurd rfl h
                                          have n131e : ((Int32.ofInt 0)).toInt = 0 → ¬ dkC (gvC s) (x1).toInt (V31 s) := by intro _ h; have h8 : (0 ≤ (s.1 31 0).toInt ∧ (s.1 31 0).toInt < (s.2.2.1 2 1).toInt) ∧ (0 ≤ (s.1 31 1).toInt ∧ (s.1 31 1).toInt < (s.2.2.1 2 1).toInt) ∧ (-1000000 ≤ (s.1 31 2).toInt ∧ (s.1 31 2).toInt ≤ 1000000) ∧ (0 ≤ (s.1 31 3).toInt ∧ (s.1 31 3).toInt ≤ 1000000) ∧ fpl (ctg (s.1 4)) < 160 := h.2.2.1 (by have a0 := oa5 ((inv_F hI 0 160 rfl e_2_3)) ((inv_F hI 448 28000 rfl e_30_0)) i81x5x9a i1x10 i47; have oc := oc_138_1; omega); rw [show s.1 31 0 = z56 from e56.symm, show s.1 31 1 = z62 from e62.symm, show s.1 31 2 = z68 from e68.symm, show s.1 31 3 = z74 from e74.symm] at h8; rw [← e_2_1] at h8; have h5 := q_4 (by have a0 := oa5 ((inv_F hI 0 160 rfl e_2_3)) ((inv_F hI 448 28000 rfl e_30_0)) i81x5x9a i1x10 i47; have oc := oc_138_1; omega); rw [show s.1 31 4 = z80 from e80.symm] at h5; unfold In at h5; have a0 := oa5 ((inv_F hI 0 160 rfl e_2_3)) ((inv_F hI 448 28000 rfl e_30_0)) i81x5x9a i1x10 i47; have oc := oc_138_1; omega
                                          have n131f : (u_2_0).toInt ≤ (u_2_0).toInt := by exact Int.le_refl _
                                          have n131g : (s.2.2.1 2 0).toInt ≤ (s.2.2.1 2 0).toInt := by have b0 : u_2_0 = s.2.2.1 2 0 := e_2_0; first | (rw [← b0, ← e_2_0]; exact n131f) | (rw [← b0]; exact n131f)
                                          exact g_ireturn (gd rfl) rfl (nb01 (in_w 0 1 (in_c 0 rfl) rfl)) (hP _ _ ⟨(A 30), s, hI, fr_rf, n131g, (Int32.ofInt 0), rfl, (by rw [ax_id]), in_w 0 1 (in_c 0 rfl) rfl, n131, n131a, n131b, n131c, n131d, n131e⟩)
                                        · skip
                                          exact zn_ne c84 (in_c 0 rfl) rfl
                                      · skip
                                        exact zn_ne c81x42 (in_c 0 rfl) rfl
                                    · skip
                                      have i81x39x7 := r_lt1 0 25 c81x39x7 i81x39x1 (in_c 26 rfl) rfl
                                      refine g_iconst 1 11 (gd rfl) rfl rfl ?_
                                      refine g_goto 15 (gd rfl) rfl ?_
                                      refine g_ireturn (gd rfl) rfl (nb01 (in_w 0 1 (in_c 1 rfl) rfl)) (hp81x39 _ _ ?_)
                                      show GG _ _ _ _ _ _ _ _ [.int (Int32.ofInt 1)] _ _ _
                                      refine g_if_eq 45 49 (gd rfl) rfl rfl (fun c81x42 => ?_) (fun c81x42 => ?_)
                                      · skip
                                        exact zn_eq c81x42 (in_c 1 rfl) rfl
                                      · skip
                                        refine g_iconst 1 46 (gd rfl) rfl rfl ?_
                                        refine g_goto 50 (gd rfl) rfl ?_
                                        refine g_ireturn (gd rfl) rfl (nb01 (in_w 0 1 (in_c 1 rfl) rfl)) (hp81 _ _ ?_)
                                        show GG _ _ _ _ _ _ _ _ [.int (Int32.ofInt 1)] _ _ _
                                        refine g_if_eq 87 130 (gd rfl) rfl rfl (fun c84 => ?_) (fun c84 => ?_)
                                        · skip
                                          exact zn_eq c84 (in_c 1 rfl) rfl
                                        · skip
                                          refine g_aload_n 88 (gd rfl) rfl rfl ?_
                                          refine g_aload_n 89 (gd rfl) rfl rfl ?_
                                          refine g_getA (q2 := 31) 92 (gd rfl) rfl rfl rfl rfl ?_
                                          refine g_iconst 0 93 (gd rfl) rfl rfl ?_
                                          refine g_iaload 94 (gd rfl) rfl (n := 5) rfl (in_ix (in_c 0 rfl) rfl) (fun z93 e93 => ?_)
                                          have q93 : z56 = z93 := (e56).trans e93.symm
                                          subst q93
                                          refine g_aload_n 95 (gd rfl) rfl rfl ?_
                                          refine g_getA (q2 := 31) 98 (gd rfl) rfl rfl rfl rfl ?_
                                          refine g_iconst 1 99 (gd rfl) rfl rfl ?_
                                          refine g_iaload 100 (gd rfl) rfl (n := 5) rfl (in_ix (in_c 1 rfl) rfl) (fun z99 e99 => ?_)
                                          have q99 : z62 = z99 := (e62).trans e99.symm
                                          subst q99
                                          refine g_aload_n 101 (gd rfl) rfl rfl ?_
                                          refine g_getA (q2 := 31) 104 (gd rfl) rfl rfl rfl rfl ?_
                                          refine g_iconst 2 105 (gd rfl) rfl rfl ?_
                                          refine g_iaload 106 (gd rfl) rfl (n := 5) rfl (in_ix (in_c 2 rfl) rfl) (fun z105 e105 => ?_)
                                          have q105 : z68 = z105 := (e68).trans e105.symm
                                          subst q105
                                          refine g_aload_n 107 (gd rfl) rfl rfl ?_
                                          refine g_getA (q2 := 31) 110 (gd rfl) rfl rfl rfl rfl ?_
                                          refine g_iconst 3 111 (gd rfl) rfl rfl ?_
                                          refine g_iaload 112 (gd rfl) rfl (n := 5) rfl (in_ix (in_c 3 rfl) rfl) (fun z111 e111 => ?_)
                                          have q111 : z74 = z111 := (e74).trans e111.symm
                                          subst q111
                                          refine g_aload_n 113 (gd rfl) rfl rfl ?_
                                          refine g_getA (q2 := 31) 116 (gd rfl) rfl rfl rfl rfl ?_
                                          refine g_iconst 4 117 (gd rfl) rfl rfl ?_
                                          refine g_iaload 118 (gd rfl) rfl (n := 5) rfl (in_ix (in_c 4 rfl) rfl) (fun z117 e117 => ?_)
                                          have q117 : z80 = z117 := (e80).trans e117.symm
                                          subst q117
                                          have n118 : (z56).toInt < (u_2_1).toInt := by have a0 := oa6 ((inv_F hI 0 160 rfl e_2_3)) ((inv_F hI 448 28000 rfl e_30_0)) i81x5x9a i1x10 i47 i81x5x9; have oc := oc_138_1; omega
                                          have n118a : (z62).toInt < (u_2_1).toInt := by have a0 := oa6 ((inv_F hI 0 160 rfl e_2_3)) ((inv_F hI 448 28000 rfl e_30_0)) i81x5x9a i1x10 i47 i81x16x9; have oc := oc_138_1; omega
                                          have p118 : KL s := by exact q_0
                                          refine g_callv (X := _) (As := [.int z56, .int z62, .int z68, .int z74, .int z80]) (r := []) (b := A 1) (q := 1) 121 (gd rfl) rfl rfl rfl rfl rfl (ww_o rfl) (Nat.le_of_ble_eq_true rfl) (Nat.le_of_eq (lc_cg ((show Fr ([], [], [], []) s s from fr_rf).2.2.1 30 0 rfl) ((show Fr ([], [], [], []) s s from fr_rf).2.2.1 2 0 rfl)).1) (Nat.le_of_eq (lc_cg ((show Fr ([], [], [], []) s s from fr_rf).2.2.1 30 0 rfl) ((show Fr ([], [], [], []) s s from fr_rf).2.2.1 2 0 rfl)).2.1) (f_125_1 (by first | exact dq1 hd rfl | exact dq0 hd rfl | exact dq2 hd rfl | exact dq3 hd rfl | omega) hI (in_w 0 31 i81x5x9 rfl) (in_w 0 31 i81x16x9 rfl) (in_w (-1000000) 1000000 i81x23x11 rfl) (in_w 0 1000000 i81x31x8 rfl) (in_w 0 25 i81x39x7 rfl) e_2_0 e_2_1 e_30_0 (in_w 0 3999 i1x10 rfl) n118 n118a p118) (fun e u h => h) (fun v u h => ?_)
                                          obtain ⟨a118, s118, hI118, hF118, n118b, z118, rfl, rfl, i118, p118a, p118b, p118c, p118d, p118e, p118f, p118g, p118h⟩ := h
                                          obtain ⟨z118a, e118⟩ : ∃ w, w = s118.2.2.1 2 0 := ⟨_, rfl⟩
                                          have i118a := inv_F hI118 0 4000 rfl e118
                                          rw [← (show u_2_0 = s.2.2.1 2 0 from e_2_0)] at n118b
                                          rw [← (show z118a = s118.2.2.1 2 0 from e118)] at n118b
                                          show GG _ _ _ _ _ _ _ _ [.int z118] _ _ _
                                          refine g_bipush (-3) 123 (gd rfl) rfl rfl ?_
                                          refine g_cmp_eq 126 130 (gd rfl) rfl rfl (fun c123 => ?_) (fun c123 => ?_)
                                          · skip
                                            have i123 := r_eq1 (-3) (-3) c123 i118 (in_c (-3) rfl) rfl
                                            refine g_iconst 0 131 (gd rfl) rfl rfl ?_
                                            have n131 : KL s118 := by exact p118a
                                            have n131a : ((Int32.ofInt 0)).toInt ≠ 0 → (s118.2.2.1 30 0).toInt = nln s := by exact fun h => absurd rfl h
                                            have n131b : ((Int32.ofInt 0)).toInt ≠ 0 → (s.2.2.1 2 0).toInt ≤ 3999 := by exact fun h => absurd rfl h
                                            have n131c : ∀ k : Nat, (k : Int) < 7 * (s.2.2.1 2 0).toInt → s118.1 30 k = s.1 30 k := by exact p118d
                                            have n131d : ((Int32.ofInt 0)).toInt ≠ 0 → dkC (gvC s) (x1).toInt (V31 s) ∧ gvC s118 = opC (gvC s) (x1).toInt (V31 s) ∧ TQ s118 := by exact fun h => absurd rfl h
                                            have n131e : ((Int32.ofInt 0)).toInt = 0 → ¬ dkC (gvC s) (x1).toInt (V31 s) := by first | (intro h; exact absurd h (by decide)) | (intro _ h; have h8 : (0 ≤ (s.1 31 0).toInt ∧ (s.1 31 0).toInt < (s.2.2.1 2 1).toInt) ∧ (0 ≤ (s.1 31 1).toInt ∧ (s.1 31 1).toInt < (s.2.2.1 2 1).toInt) ∧ (-1000000 ≤ (s.1 31 2).toInt ∧ (s.1 31 2).toInt ≤ 1000000) ∧ (0 ≤ (s.1 31 3).toInt ∧ (s.1 31 3).toInt ≤ 1000000) ∧ fpl (ctg (s.1 4)) < 160 := h.2.2.1 (by have a0 := oa6 ((inv_F hI 0 160 rfl e_2_3)) ((inv_F hI 448 28000 rfl e_30_0)) i81x5x9a i1x10 i47 i118a; have oc := oc_138_1; omega); rw [(p118e (by have a0 := oa6 ((inv_F hI 0 160 rfl e_2_3)) ((inv_F hI 448 28000 rfl e_30_0)) i81x5x9a i1x10 i47 i118a; have oc := oc_138_1; omega)).2] at h8; exact absurd h8.2.2.2.2 (by decide))
                                            have n131f : (u_2_0).toInt ≤ (z118a).toInt := by have a0 := oa6 ((inv_F hI 0 160 rfl e_2_3)) ((inv_F hI 448 28000 rfl e_30_0)) i81x5x9a i1x10 i47 i118a; have oc := oc_138_1; omega
                                            have n131g : (s.2.2.1 2 0).toInt ≤ (s118.2.2.1 2 0).toInt := by have b0 : z118a = s118.2.2.1 2 0 := e118; first | (rw [← b0, ← e_2_0]; exact n131f) | (rw [← b0]; exact n131f)
                                            exact g_ireturn (gd rfl) rfl (nb01 (in_w 0 1 (in_c 0 rfl) rfl)) (hP _ _ ⟨a118, s118, hI118, (fr_tr rfl fr_rf hF118), n131g, (Int32.ofInt 0), rfl, rfl, in_w 0 1 (in_c 0 rfl) rfl, n131, n131a, n131b, n131c, n131d, n131e⟩)
                                          · skip
                                            have i123 := r_ne1 (-2) 159 c123 i118 (in_c (-3) rfl) rfl
                                            refine g_iconst 1 127 (gd rfl) rfl rfl ?_
                                            refine g_goto 131 (gd rfl) rfl ?_
                                            have n131 : KL s118 := by exact p118a
                                            have n131a : ((Int32.ofInt 1)).toInt ≠ 0 → (s118.2.2.1 30 0).toInt = nln s := by first | (intro h; exact absurd rfl h) | (intro _; exact p118b (by have c3 : (Int32.ofInt (-3)).toInt = -3 := (by decide); omega))
                                            have n131b : ((Int32.ofInt 1)).toInt ≠ 0 → (s.2.2.1 2 0).toInt ≤ 3999 := by first | (intro h; exact absurd rfl h) | (intro _; rw [← e_2_0]; have a0 := oa6 ((inv_F hI 0 160 rfl e_2_3)) ((inv_F hI 448 28000 rfl e_30_0)) i81x5x9a i1x10 i47 i118a; have oc := oc_138_1; omega)
                                            have n131c : ∀ k : Nat, (k : Int) < 7 * (s.2.2.1 2 0).toInt → s118.1 30 k = s.1 30 k := by exact p118d
                                            have n131d : ((Int32.ofInt 1)).toInt ≠ 0 → dkC (gvC s) (x1).toInt (V31 s) ∧ gvC s118 = opC (gvC s) (x1).toInt (V31 s) ∧ TQ s118 := by first | (intro h; exact absurd rfl h) | (intro _; exact ⟨dk_0 (by have a0 := oa6 ((inv_F hI 0 160 rfl e_2_3)) ((inv_F hI 448 28000 rfl e_30_0)) i81x5x9a i1x10 i47 i118a; have oc := oc_138_1; omega) (show (s.2.2.1 2 0).toInt ≤ 3999 from by rw [← e_2_0]; have a0 := oa6 ((inv_F hI 0 160 rfl e_2_3)) ((inv_F hI 448 28000 rfl e_30_0)) i81x5x9a i1x10 i47 i118a; have oc := oc_138_1; omega) (show (0 ≤ (s.1 31 0).toInt ∧ (s.1 31 0).toInt < (s.2.2.1 2 1).toInt) ∧ (0 ≤ (s.1 31 1).toInt ∧ (s.1 31 1).toInt < (s.2.2.1 2 1).toInt) ∧ (-1000000 ≤ (s.1 31 2).toInt ∧ (s.1 31 2).toInt ≤ 1000000) ∧ (0 ≤ (s.1 31 3).toInt ∧ (s.1 31 3).toInt ≤ 1000000) ∧ fpl (ctg (s.1 4)) < 160 from by rw [show s.1 31 0 = z56 from e56.symm, show s.1 31 1 = z62 from e62.symm, show s.1 31 2 = z68 from e68.symm, show s.1 31 3 = z74 from e74.symm, ← e_2_1, (p118f (by have a0 := oa6 ((inv_F hI 0 160 rfl e_2_3)) ((inv_F hI 448 28000 rfl e_30_0)) i81x5x9a i1x10 i47 i118a; have oc := oc_138_1; omega)).2.1]; refine ⟨⟨by have a0 := oa6 ((inv_F hI 0 160 rfl e_2_3)) ((inv_F hI 448 28000 rfl e_30_0)) i81x5x9a i1x10 i47 i118a; have oc := oc_138_1; omega, by have a0 := oa6 ((inv_F hI 0 160 rfl e_2_3)) ((inv_F hI 448 28000 rfl e_30_0)) i81x5x9a i1x10 i47 i118a; have oc := oc_138_1; omega⟩, ⟨by have a0 := oa6 ((inv_F hI 0 160 rfl e_2_3)) ((inv_F hI 448 28000 rfl e_30_0)) i81x5x9a i1x10 i47 i118a; have oc := oc_138_1; omega, by have a0 := oa6 ((inv_F hI 0 160 rfl e_2_3)) ((inv_F hI 448 28000 rfl e_30_0)) i81x5x9a i1x10 i47 i118a; have oc := oc_138_1; omega⟩, ⟨by have a0 := oa6 ((inv_F hI 0 160 rfl e_2_3)) ((inv_F hI 448 28000 rfl e_30_0)) i81x5x9a i1x10 i47 i118a; have oc := oc_138_1; omega, by have a0 := oa6 ((inv_F hI 0 160 rfl e_2_3)) ((inv_F hI 448 28000 rfl e_30_0)) i81x5x9a i1x10 i47 i118a; have oc := oc_138_1; omega⟩, ⟨by have a0 := oa6 ((inv_F hI 0 160 rfl e_2_3)) ((inv_F hI 448 28000 rfl e_30_0)) i81x5x9a i1x10 i47 i118a; have oc := oc_138_1; omega, by have a0 := oa6 ((inv_F hI 0 160 rfl e_2_3)) ((inv_F hI 448 28000 rfl e_30_0)) i81x5x9a i1x10 i47 i118a; have oc := oc_138_1; omega⟩, ?_⟩; have h18 := i118; unfold In at h18; show z118.toInt.toNat < 160; omega), by rw [(p118f (by have a0 := oa6 ((inv_F hI 0 160 rfl e_2_3)) ((inv_F hI 448 28000 rfl e_30_0)) i81x5x9a i1x10 i47 i118a; have oc := oc_138_1; omega)).1, opC_0 (by have a0 := oa6 ((inv_F hI 0 160 rfl e_2_3)) ((inv_F hI 448 28000 rfl e_30_0)) i81x5x9a i1x10 i47 i118a; have oc := oc_138_1; omega) (p118f (by have a0 := oa6 ((inv_F hI 0 160 rfl e_2_3)) ((inv_F hI 448 28000 rfl e_30_0)) i81x5x9a i1x10 i47 i118a; have oc := oc_138_1; omega)).2.1, show s.1 31 0 = z56 from e56.symm, show s.1 31 1 = z62 from e62.symm, show s.1 31 2 = z68 from e68.symm, show s.1 31 3 = z74 from e74.symm, show s.1 31 4 = z80 from e80.symm], p118g q_3⟩)
                                            have n131e : ((Int32.ofInt 1)).toInt = 0 → ¬ dkC (gvC s) (x1).toInt (V31 s) := by exact fun h => absurd h (by decide)
                                            have n131f : (u_2_0).toInt ≤ (z118a).toInt := by have a0 := oa6 ((inv_F hI 0 160 rfl e_2_3)) ((inv_F hI 448 28000 rfl e_30_0)) i81x5x9a i1x10 i47 i118a; have oc := oc_138_1; omega
                                            have n131g : (s.2.2.1 2 0).toInt ≤ (s118.2.2.1 2 0).toInt := by have b0 : z118a = s118.2.2.1 2 0 := e118; first | (rw [← b0, ← e_2_0]; exact n131f) | (rw [← b0]; exact n131f)
                                            exact g_ireturn (gd rfl) rfl (nb01 (in_w 0 1 (in_c 1 rfl) rfl)) (hP _ _ ⟨a118, s118, hI118, (fr_tr rfl fr_rf hF118), n131g, (Int32.ofInt 1), rfl, rfl, in_w 0 1 (in_c 1 rfl) rfl, n131, n131a, n131b, n131c, n131d, n131e⟩)
      · skip
        have i12 := r_eq1 13 13 c12 h1 (in_c 13 rfl) rfl
        refine g_aload_n 16 (gd rfl) rfl rfl ?_
        refine g_getA (q2 := 2) 19 (gd rfl) rfl rfl rfl rfl ?_
        refine g_getI 22 (gd rfl) rfl rfl rfl (fun z19 e19 => ?_)
        have q19 : u_2_1 = z19 := (e_2_1).trans e19.symm
        subst q19
        refine g_bipush 32 24 (gd rfl) rfl rfl ?_
        refine g_cmp_ge 27 44 (gd rfl) rfl rfl (fun c24 => ?_) (fun c24 => ?_)
        · skip
          have i24 := r_le2 32 32 c24 (in_c 32 rfl) (inv_F hI 0 32 rfl e_2_1) rfl
          refine g_iconst 0 45 (gd rfl) rfl rfl ?_
          have n45 : KL s := by exact q_0
          have n45a : ((Int32.ofInt 0)).toInt ≠ 0 → (s.2.2.1 30 0).toInt = nln s := by intro h; exact absurd rfl h
          have n45b : ((Int32.ofInt 0)).toInt ≠ 0 → (s.2.2.1 2 0).toInt ≤ 3999 := by exact fun h => absurd rfl h
          have n45c : ∀ k : Nat, (k : Int) < 7 * (s.2.2.1 2 0).toInt → s.1 30 k = s.1 30 k := by exact fun k _ => rfl
          have n45d : ((Int32.ofInt 0)).toInt ≠ 0 → dkC (gvC s) (x1).toInt (V31 s) ∧ gvC s = opC (gvC s) (x1).toInt (V31 s) ∧ TQ s := by intro h; exact absurd rfl h
          have n45e : ((Int32.ofInt 0)).toInt = 0 → ¬ dkC (gvC s) (x1).toInt (V31 s) := by intro _ h; first | (have h9 : (s.2.2.1 2 0).toInt ≤ 3999 := h.1; rw [← e_2_0] at h9; have a0 := oa5 ((inv_F hI 0 160 rfl e_2_3)) ((inv_F hI 448 28000 rfl e_30_0)) i24 i1x10 i12; have oc := oc_138_1; omega) | (have h9 : (s.2.2.1 2 1).toInt ≤ 31 := h.2.1 (by have a0 := oa5 ((inv_F hI 0 160 rfl e_2_3)) ((inv_F hI 448 28000 rfl e_30_0)) i24 i1x10 i12; have oc := oc_138_1; omega); rw [← e_2_1] at h9; have a0 := oa5 ((inv_F hI 0 160 rfl e_2_3)) ((inv_F hI 448 28000 rfl e_30_0)) i24 i1x10 i12; have oc := oc_138_1; omega)
          have n45f : (u_2_0).toInt ≤ (u_2_0).toInt := by exact Int.le_refl _
          have n45g : (s.2.2.1 2 0).toInt ≤ (s.2.2.1 2 0).toInt := by have b0 : u_2_0 = s.2.2.1 2 0 := e_2_0; first | (rw [← b0, ← e_2_0]; exact n45f) | (rw [← b0]; exact n45f)
          exact g_ireturn (gd rfl) rfl (nb01 (in_w 0 1 (in_c 0 rfl) rfl)) (hP _ _ ⟨(A 30), s, hI, fr_rf, n45g, (Int32.ofInt 0), rfl, (by rw [ax_id]), in_w 0 1 (in_c 0 rfl) rfl, n45, n45a, n45b, n45c, n45d, n45e⟩)
        · skip
          have i24 := r_lt1 0 31 c24 (inv_F hI 0 32 rfl e_2_1) (in_c 32 rfl) rfl
          refine g_aload_n 28 (gd rfl) rfl rfl ?_
          refine g_aload_n 29 (gd rfl) rfl rfl ?_
          refine g_getA (q2 := 31) 32 (gd rfl) rfl rfl rfl rfl ?_
          refine g_iconst 0 33 (gd rfl) rfl rfl ?_
          refine g_iaload 34 (gd rfl) rfl (n := 5) rfl (in_ix (in_c 0 rfl) rfl) (fun z33 e33 => ?_)
          have i34 : In z33 0 25 := by rw [e33]; exact q_1 (c12.trans (by decide))
          have p34 : KL s := by exact q_0
          refine g_callv (X := _) (As := [.int z33]) (r := []) (b := A 1) (q := 1) 37 (gd rfl) rfl rfl rfl rfl rfl (ww_o rfl) (Nat.le_of_ble_eq_true rfl) (Nat.le_of_eq (lc_cg ((show Fr ([], [], [], []) s s from fr_rf).2.2.1 30 0 rfl) ((show Fr ([], [], [], []) s s from fr_rf).2.2.1 2 0 rfl)).1) (Nat.le_of_eq (lc_cg ((show Fr ([], [], [], []) s s from fr_rf).2.2.1 30 0 rfl) ((show Fr ([], [], [], []) s s from fr_rf).2.2.1 2 0 rfl)).2.1) (f_124_1 (by first | exact dq1 hd rfl | exact dq0 hd rfl | exact dq2 hd rfl | exact dq3 hd rfl | omega) hI (in_w 0 25 i34 rfl) e_2_0 e_2_1 e_30_0 (in_w 0 3999 i1x10 rfl) (in_w 0 31 i24 rfl) p34) (fun e u h => h) (fun v u h => ?_)
          obtain ⟨a34, s34, hI34, hF34, n34, z34, rfl, rfl, i34a, p34a, p34b, p34c, p34d, p34e, p34f, p34g⟩ := h
          obtain ⟨z34a, e34⟩ : ∃ w, w = s34.2.2.1 2 0 := ⟨_, rfl⟩
          have i34b := inv_F hI34 0 4000 rfl e34
          rw [← (show u_2_0 = s.2.2.1 2 0 from e_2_0)] at n34
          rw [← (show z34a = s34.2.2.1 2 0 from e34)] at n34
          show GG _ _ _ _ _ _ _ _ [.int z34] _ _ _
          refine g_if_lt 40 44 (gd rfl) rfl rfl (fun c37 => ?_) (fun c37 => ?_)
          · skip
            have i37 := z_lt (-1) (-1) c37 i34a rfl
            refine g_iconst 0 45 (gd rfl) rfl rfl ?_
            have n45 : KL s34 := by exact p34a
            have n45a : ((Int32.ofInt 0)).toInt ≠ 0 → (s34.2.2.1 30 0).toInt = nln s := by intro _; exact p34b
            have n45b : ((Int32.ofInt 0)).toInt ≠ 0 → (s.2.2.1 2 0).toInt ≤ 3999 := by exact fun h => absurd rfl h
            have n45c : ∀ k : Nat, (k : Int) < 7 * (s.2.2.1 2 0).toInt → s34.1 30 k = s.1 30 k := by exact p34d
            have n45d : ((Int32.ofInt 0)).toInt ≠ 0 → dkC (gvC s) (x1).toInt (V31 s) ∧ gvC s34 = opC (gvC s) (x1).toInt (V31 s) ∧ TQ s34 := by exact fun h => absurd rfl h
            have n45e : ((Int32.ofInt 0)).toInt = 0 → ¬ dkC (gvC s) (x1).toInt (V31 s) := by first | (intro h; exact absurd h (by decide)) | (intro _ h; have hn : (s34.2.2.1 2 1).toInt = (s.2.2.1 2 1).toInt + 1 := congrArg (fun g : GVW => g.2.2.2.2.2.2.1) p34e; rw [← e_2_1] at hn; have a0 := oa6 ((inv_F hI 0 160 rfl e_2_3)) ((inv_F hI 448 28000 rfl e_30_0)) i24 i1x10 i12 i34b; have oc := oc_138_1; omega)
            have n45f : (u_2_0).toInt ≤ (z34a).toInt := by have a0 := oa6 ((inv_F hI 0 160 rfl e_2_3)) ((inv_F hI 448 28000 rfl e_30_0)) i24 i1x10 i12 i34b; have oc := oc_138_1; omega
            have n45g : (s.2.2.1 2 0).toInt ≤ (s34.2.2.1 2 0).toInt := by have b0 : z34a = s34.2.2.1 2 0 := e34; first | (rw [← b0, ← e_2_0]; exact n45f) | (rw [← b0]; exact n45f)
            exact g_ireturn (gd rfl) rfl (nb01 (in_w 0 1 (in_c 0 rfl) rfl)) (hP _ _ ⟨a34, s34, hI34, (fr_tr rfl fr_rf hF34), n45g, (Int32.ofInt 0), rfl, rfl, in_w 0 1 (in_c 0 rfl) rfl, n45, n45a, n45b, n45c, n45d, n45e⟩)
          · skip
            have i37 := z_ge 0 31 c37 i34a rfl
            refine g_iconst 1 41 (gd rfl) rfl rfl ?_
            refine g_goto 45 (gd rfl) rfl ?_
            have n45 : KL s34 := by exact p34a
            have n45a : ((Int32.ofInt 1)).toInt ≠ 0 → (s34.2.2.1 30 0).toInt = nln s := by intro _; exact p34b
            have n45b : ((Int32.ofInt 1)).toInt ≠ 0 → (s.2.2.1 2 0).toInt ≤ 3999 := by first | (intro h; exact absurd rfl h) | (intro _; rw [← e_2_0]; have a0 := oa6 ((inv_F hI 0 160 rfl e_2_3)) ((inv_F hI 448 28000 rfl e_30_0)) i24 i1x10 i12 i34b; have oc := oc_138_1; omega)
            have n45c : ∀ k : Nat, (k : Int) < 7 * (s.2.2.1 2 0).toInt → s34.1 30 k = s.1 30 k := by exact p34d
            have n45d : ((Int32.ofInt 1)).toInt ≠ 0 → dkC (gvC s) (x1).toInt (V31 s) ∧ gvC s34 = opC (gvC s) (x1).toInt (V31 s) ∧ TQ s34 := by first | (intro h; exact absurd rfl h) | (intro _; exact ⟨dk_13 (by have a0 := oa6 ((inv_F hI 0 160 rfl e_2_3)) ((inv_F hI 448 28000 rfl e_30_0)) i24 i1x10 i12 i34b; have oc := oc_138_1; omega) (show (s.2.2.1 2 0).toInt ≤ 3999 from by rw [← e_2_0]; have a0 := oa6 ((inv_F hI 0 160 rfl e_2_3)) ((inv_F hI 448 28000 rfl e_30_0)) i24 i1x10 i12 i34b; have oc := oc_138_1; omega) (show (s.2.2.1 2 1).toInt ≤ 31 from by rw [← e_2_1]; have a0 := oa6 ((inv_F hI 0 160 rfl e_2_3)) ((inv_F hI 448 28000 rfl e_30_0)) i24 i1x10 i12 i34b; have oc := oc_138_1; omega), by rw [p34e, opC_13 (by have a0 := oa6 ((inv_F hI 0 160 rfl e_2_3)) ((inv_F hI 448 28000 rfl e_30_0)) i24 i1x10 i12 i34b; have oc := oc_138_1; omega), show s.1 31 0 = z33 from e33.symm], p34f q_3⟩)
            have n45e : ((Int32.ofInt 1)).toInt = 0 → ¬ dkC (gvC s) (x1).toInt (V31 s) := by exact fun h => absurd h (by decide)
            have n45f : (u_2_0).toInt ≤ (z34a).toInt := by have a0 := oa6 ((inv_F hI 0 160 rfl e_2_3)) ((inv_F hI 448 28000 rfl e_30_0)) i24 i1x10 i12 i34b; have oc := oc_138_1; omega
            have n45g : (s.2.2.1 2 0).toInt ≤ (s34.2.2.1 2 0).toInt := by have b0 : z34a = s34.2.2.1 2 0 := e34; first | (rw [← b0, ← e_2_0]; exact n45f) | (rw [← b0]; exact n45f)
            exact g_ireturn (gd rfl) rfl (nb01 (in_w 0 1 (in_c 1 rfl) rfl)) (hP _ _ ⟨a34, s34, hI34, (fr_tr rfl fr_rf hF34), n45g, (Int32.ofInt 1), rfl, rfl, in_w 0 1 (in_c 1 rfl) rfl, n45, n45a, n45b, n45c, n45d, n45e⟩)
    · skip
      exact zn_ne c4 (in_c 0 rfl) rfl
  · skip
    have i1x10 := r_le2 4000 4000 c1x10 (in_c 4000 rfl) (inv_F hI 0 4000 rfl e_2_0) rfl
    refine g_iconst 1 14 (gd rfl) rfl rfl ?_
    refine g_goto 18 (gd rfl) rfl ?_
    refine g_ireturn (gd rfl) rfl (nb01 (in_w 0 1 (in_c 1 rfl) rfl)) (hp1 _ _ ?_)
    show GG _ _ _ _ _ _ _ _ [.int (Int32.ofInt 1)] _ _ _
    refine g_if_eq 7 9 (gd rfl) rfl rfl (fun c4 => ?_) (fun c4 => ?_)
    · skip
      exact zn_eq c4 (in_c 1 rfl) rfl
    · skip
      refine g_iconst 0 8 (gd rfl) rfl rfl ?_
      have n8 : KL s := by exact q_0
      have n8a : ((Int32.ofInt 0)).toInt ≠ 0 → (s.2.2.1 30 0).toInt = nln s := by intro h; exact absurd rfl h
      have n8b : ((Int32.ofInt 0)).toInt ≠ 0 → (s.2.2.1 2 0).toInt ≤ 3999 := by exact fun h => absurd rfl h
      have n8c : ∀ k : Nat, (k : Int) < 7 * (s.2.2.1 2 0).toInt → s.1 30 k = s.1 30 k := by exact fun k _ => rfl
      have n8d : ((Int32.ofInt 0)).toInt ≠ 0 → dkC (gvC s) (x1).toInt (V31 s) ∧ gvC s = opC (gvC s) (x1).toInt (V31 s) ∧ TQ s := by intro h; exact absurd rfl h
      have n8e : ((Int32.ofInt 0)).toInt = 0 → ¬ dkC (gvC s) (x1).toInt (V31 s) := by intro _ h; first | (have h9 : (s.2.2.1 2 0).toInt ≤ 3999 := h.1; rw [← e_2_0] at h9; have a0 := oa5 ((inv_F hI 0 160 rfl e_2_3)) ((inv_F hI 448 28000 rfl e_30_0)) ((inv_F hI 0 32 rfl e_2_1)) i1x10 h1; have oc := oc_138_1; omega) | (have h9 : (s.2.2.1 2 1).toInt ≤ 31 := h.2.1 (by have a0 := oa5 ((inv_F hI 0 160 rfl e_2_3)) ((inv_F hI 448 28000 rfl e_30_0)) ((inv_F hI 0 32 rfl e_2_1)) i1x10 h1; have oc := oc_138_1; omega); rw [← e_2_1] at h9; have a0 := oa5 ((inv_F hI 0 160 rfl e_2_3)) ((inv_F hI 448 28000 rfl e_30_0)) ((inv_F hI 0 32 rfl e_2_1)) i1x10 h1; have oc := oc_138_1; omega)
      have n8f : (u_2_0).toInt ≤ (u_2_0).toInt := by exact Int.le_refl _
      have n8g : (s.2.2.1 2 0).toInt ≤ (s.2.2.1 2 0).toInt := by have b0 : u_2_0 = s.2.2.1 2 0 := e_2_0; first | (rw [← b0, ← e_2_0]; exact n8f) | (rw [← b0]; exact n8f)
      exact g_ireturn (gd rfl) rfl (nb01 (in_w 0 1 (in_c 0 rfl) rfl)) (hP _ _ ⟨(A 30), s, hI, fr_rf, n8g, (Int32.ofInt 0), rfl, (by rw [ax_id]), in_w 0 1 (in_c 0 rfl) rfl, n8, n8a, n8b, n8c, n8d, n8e⟩)
end
