/-! FUNCTIONAL CONTRACTS, by fgen.py -/
theorem ocj_171_46 : (Int32.ofInt (-1)).toInt = (-1) ∧ (Int32.ofInt 0).toInt = 0 ∧ (Int32.ofInt 1).toInt = 1 ∧ (Int32.ofInt 3).toInt = 3 ∧ (Int32.ofInt 4).toInt = 4 ∧ (Int32.ofInt 32).toInt = 32 ∧ (Int32.ofInt 48).toInt = 48 ∧ (Int32.ofInt 57).toInt = 57 ∧ (Int32.ofInt 59).toInt = 59 ∧ (Int32.ofInt 97).toInt = 97 ∧ (Int32.ofInt 122).toInt = 122 := ⟨rfl, rfl, rfl, rfl, rfl, rfl, rfl, rfl, rfl, rfl, rfl⟩
/-- GraphHouse$Script.next -/
theorem j_171_46 {Z : AmZ} {A : Nat → Nat} {s : GS} {ex : va_W} {d : Nat} {X : AmX} {x1 : Int32} {x2 : Int32} {u_46_2 : Int32} {u_46_1 : Int32} (hd : 7 ≤ d) (hI : Inv s) (h1 : In x1 6 6) (h2 : In x2 0 0) (e_46_2 : u_46_2 = s.2.2.1 46 2) (e_46_1 : u_46_1 = s.2.2.1 46 1) (p_0 : (u_46_2).toInt ≤ (u_46_1).toInt) : GC Z d 171 [.ref (A 46), .int x1, .int x2] (WW Z A s ++ ex) 0 0 (fun v u => ∃ t : GS, Inv t ∧ Fr fm_171_46 s t ∧ ((t.2.2.1 46 2).toInt ≤ (t.2.2.1 46 1).toInt) ∧ ((t.2.2.1 46 4).toInt ≤ (t.2.2.1 46 2).toInt) ∧ ((s.2.2.1 46 2).toInt ≤ (t.2.2.1 46 4).toInt) ∧ v = none ∧ u = WW Z A t ++ ex ∧ ((x1).toInt = 6 → TK t) ∧ ((t.2.2.1 46 3).toInt = 1 → In (t.2.2.1 46 5) 0 25) ∧ (PKN (s.1 47) (s.2.2.1 46 1).toInt.toNat (s.2.2.1 46 2).toInt.toNat (t.2.2.1 46 4).toInt.toNat (t.2.2.1 46 2).toInt.toNat (t.2.2.1 46 3).toInt (t.2.2.1 46 5).toInt)) X := by
  intro post xp hP hX
  have ro_46_1 := inv_F hI 0 1000 rfl e_46_1
  have ct123 : ∀ (sc123 : GS) (y123_3 : Int32) (y123_4 : Int32) (w123_46_2 : Int32) (w123_46_4 : Int32), Inv sc123 → Fr fm_171_46 s sc123 → (In y123_3 0 65535) → (In y123_4 0 0) → (w123_46_2 = sc123.2.2.1 46 2) → (w123_46_4 = sc123.2.2.1 46 4) → ((w123_46_2).toInt + 1 ≤ (u_46_1).toInt) → ((w123_46_4).toInt = (w123_46_2).toInt) → ((u_46_2).toInt ≤ (w123_46_2).toInt) → (tkS (s.1 47) (s.2.2.1 46 1).toInt.toNat (s.2.2.1 46 2).toInt.toNat (w123_46_4).toInt.toNat) → ((y123_3) = s.1 47 (w123_46_4).toInt.toNat ∧ ¬ tkD (y123_3)) → GG Z (d - 1) 171 post (gx xp) (901) 123 (fun j => xlook j [(0, .ref (A 46)), (1, .int x1), (2, .int x2), (3, .int y123_3), (4, .int y123_4)]) [] (WW Z A sc123 ++ ex) 0 0 := by
    intro sc123 y123_3 y123_4 w123_46_2 w123_46_4 hIc123 hFc123 j123_3 j123_4 v123_46_2 v123_46_4 n123_0 n123_1 n123_2 g123_0 g123_1
    refine g_aload_n 124 (gd rfl) rfl rfl ?_
    refine g_dup 125 (gd rfl) rfl rfl ?_
    refine g_getI 128 (gd rfl) rfl rfl rfl (fun z125 e125 => ?_)
    have q125 : w123_46_2 = z125 := (v123_46_2).trans e125.symm
    subst q125
    refine g_iconst 1 129 (gd rfl) rfl rfl ?_
    refine g_iadd 130 (gd rfl) rfl (fun z129 e129 => ?_)
    have i129 := in_add 1 1001 e129 (inv_F hIc123 0 1000 rfl v123_46_2) (in_c 1 rfl) rfl rfl
    have i130 : In z129 0 1000 := by have a0 := oa8 h2 h1 ro_46_1 ((inv_F hIc123 0 1000 rfl v123_46_4)) ((inv_F hIc123 0 1000 rfl v123_46_2)) j123_4 j123_3 i129; have a8 := t_add e129 (inv_F hIc123 0 1000 rfl v123_46_2) (in_c 1 rfl) rfl; have a9 := in_u ((in_c 1 rfl)); have oc := ocj_171_46; exact ⟨by omega, by omega⟩
    refine g_putI 133 (gd rfl) rfl rfl rfl rfl ?_
    have hI130 := inv_sF (q := 46) (j := 2) hIc123 rfl (in_w 0 1000 i130 rfl)
    refine g_iload_n 134 (gd rfl) rfl rfl ?_
    refine g_bipush 97 136 (gd rfl) rfl rfl ?_
    refine g_cmp_lt 139 159 (gd rfl) rfl rfl (fun c136 => ?_) (fun c136 => ?_)
    · skip
      have i136 := r_lt1 0 96 c136 j123_3 (in_c 97 rfl) rfl
      refine g_aload_n 160 (gd rfl) rfl rfl ?_
      refine g_iload_n 161 (gd rfl) rfl rfl ?_
      refine g_iload_n 162 (gd rfl) rfl rfl ?_
      refine g_calls (As := [.int y123_3, .int x2]) (r := [.ref (A 46)]) 165 (gd rfl) rfl rfl rfl rfl rfl (Nat.le_of_ble_eq_true rfl) (mc := 0) (ms := 0) (Nat.zero_le _) (Nat.zero_le _) (P := fun v u => _) ?_ (fun v u h => h)
      intro po162 xx162 hp162 hx162
      refine g_enter2 (k := 174) (N := 300) (by first | exact dq1 hd rfl | exact dq0 hd rfl | exact dq2 hd rfl | exact dq3 hd rfl | omega) rfl (Nat.le_of_ble_eq_true rfl) ?_
      refine g_iload_n 1 (gd rfl) rfl rfl ?_
      refine g_bipush 59 3 (gd rfl) rfl rfl ?_
      refine g_cmp_eq 6 19 (gd rfl) rfl rfl (fun c162x3 => ?_) (fun c162x3 => ?_)
      · skip
        have i162x3 := r_eq1 59 59 c162x3 i136 (in_c 59 rfl) rfl
        refine g_iconst 1 20 (gd rfl) rfl rfl ?_
        refine g_goto 24 (gd rfl) rfl ?_
        refine g_ireturn (gd rfl) rfl (nb01 (in_w 0 1 (in_c 1 rfl) rfl)) (hp162 _ _ ?_)
        show GG _ _ _ _ _ _ _ _ [.int (Int32.ofInt 1), .ref (A 46)] _ _ _
        refine g_if_eq 168 172 (gd rfl) rfl rfl (fun c165 => ?_) (fun c165 => ?_)
        · skip
          exact zn_eq c165 (in_c 1 rfl) rfl
        · skip
          refine g_iconst 3 169 (gd rfl) rfl rfl ?_
          refine g_goto 173 (gd rfl) rfl ?_
          refine g_putI 176 (gd rfl) rfl rfl rfl rfl ?_
          have hI173 := inv_sF (q := 46) (j := 3) hI130 rfl (in_w 0 5 (in_c 3 rfl) rfl)
          refine g_aload_n 177 (gd rfl) rfl rfl ?_
          refine g_iload_n 178 (gd rfl) rfl rfl ?_
          refine g_putI 181 (gd rfl) rfl rfl rfl rfl ?_
          have hI178 := inv_sF (q := 46) (j := 5) hI173 rfl (in_w (-2147483648) 2147483647 i162x3 rfl)
          have n181 : (x1).toInt = 6 → TK (sF (sF (sF sc123 46 2 z129) 46 3 (Int32.ofInt 3)) 46 5 y123_3) := by intro h6; exact ⟨(Or.inr (by rw [← (show w123_46_4 = (sF (sF (sF sc123 46 2 z129) 46 3 (Int32.ofInt 3)) 46 5 y123_3).2.2.1 46 4 from sF_ne rfl (sF_ne rfl (sF_ne rfl (v123_46_4)))), ← (show z129 = (sF (sF (sF sc123 46 2 z129) 46 3 (Int32.ofInt 3)) 46 5 y123_3).2.2.1 46 2 from sF_ne rfl (sF_ne rfl (sF_get)))]; have a0 := h2; unfold In at a0; have a1 := oa8 h1 ro_46_1 ((inv_F hIc123 0 1000 rfl v123_46_4)) ((inv_F hIc123 0 1000 rfl v123_46_2)) j123_4 i162x3 ((in_c 3 rfl)) i130; have a9 := t_add e129 (inv_F hIc123 0 1000 rfl v123_46_2) (in_c 1 rfl) rfl; have a10 := in_u ((in_c 1 rfl)); have oc := ocj_171_46; omega)), (fun h2 => absurd h2 (by rw [← (show (Int32.ofInt 3) = (sF (sF (sF sc123 46 2 z129) 46 3 (Int32.ofInt 3)) 46 5 y123_3).2.2.1 46 3 from sF_ne rfl (sF_get))]; decide))⟩
          have n181a : ((sF (sF (sF sc123 46 2 z129) 46 3 (Int32.ofInt 3)) 46 5 y123_3).2.2.1 46 3).toInt = 1 → In ((sF (sF (sF sc123 46 2 z129) 46 3 (Int32.ofInt 3)) 46 5 y123_3).2.2.1 46 5) 0 25 := by intro h1; rw [← (show (Int32.ofInt 3) = (sF (sF (sF sc123 46 2 z129) 46 3 (Int32.ofInt 3)) 46 5 y123_3).2.2.1 46 3 from sF_ne rfl (sF_get))] at h1; exact absurd h1 (by decide)
          have n181b : PKN (s.1 47) (s.2.2.1 46 1).toInt.toNat (s.2.2.1 46 2).toInt.toNat ((sF (sF (sF sc123 46 2 z129) 46 3 (Int32.ofInt 3)) 46 5 y123_3).2.2.1 46 4).toInt.toNat ((sF (sF (sF sc123 46 2 z129) 46 3 (Int32.ofInt 3)) 46 5 y123_3).2.2.1 46 2).toInt.toNat ((sF (sF (sF sc123 46 2 z129) 46 3 (Int32.ofInt 3)) 46 5 y123_3).2.2.1 46 3).toInt ((sF (sF (sF sc123 46 2 z129) 46 3 (Int32.ofInt 3)) 46 5 y123_3).2.2.1 46 5).toInt := by rw [← (show z129 = (sF (sF (sF sc123 46 2 z129) 46 3 (Int32.ofInt 3)) 46 5 y123_3).2.2.1 46 2 from sF_ne rfl (sF_ne rfl (sF_get))), ← (show w123_46_4 = (sF (sF (sF sc123 46 2 z129) 46 3 (Int32.ofInt 3)) 46 5 y123_3).2.2.1 46 4 from sF_ne rfl (sF_ne rfl (sF_ne rfl (v123_46_4)))), ← (show (Int32.ofInt 3) = (sF (sF (sF sc123 46 2 z129) 46 3 (Int32.ofInt 3)) 46 5 y123_3).2.2.1 46 3 from sF_ne rfl (sF_get)), ← (show y123_3 = (sF (sF (sF sc123 46 2 z129) 46 3 (Int32.ofInt 3)) 46 5 y123_3).2.2.1 46 5 from sF_get)]; exact pkn_3 g123_0 (by rw [← e_46_1]; have a0 := oa9 h2 h1 ro_46_1 ((inv_F hIc123 0 1000 rfl v123_46_4)) ((inv_F hIc123 0 1000 rfl v123_46_2)) j123_4 i162x3 ((in_c 3 rfl)) i130; have a9 := t_add e129 (inv_F hIc123 0 1000 rfl v123_46_2) (in_c 1 rfl) rfl; have a10 := in_u ((in_c 1 rfl)); have oc := ocj_171_46; omega) (by rw [← g123_1.1]; unfold pgS; have a0 := oa9 h2 h1 ro_46_1 ((inv_F hIc123 0 1000 rfl v123_46_4)) ((inv_F hIc123 0 1000 rfl v123_46_2)) j123_4 i162x3 ((in_c 3 rfl)) i130; have a9 := t_add e129 (inv_F hIc123 0 1000 rfl v123_46_2) (in_c 1 rfl) rfl; have a10 := in_u ((in_c 1 rfl)); have oc := ocj_171_46; omega) (by have a0 := oa9 h2 h1 ro_46_1 ((inv_F hIc123 0 1000 rfl v123_46_4)) ((inv_F hIc123 0 1000 rfl v123_46_2)) j123_4 i162x3 ((in_c 3 rfl)) i130; have a9 := t_add e129 (inv_F hIc123 0 1000 rfl v123_46_2) (in_c 1 rfl) rfl; have a10 := in_u ((in_c 1 rfl)); have oc := ocj_171_46; omega) (by decide) (by rw [← g123_1.1])
          have n181c : (z129).toInt ≤ (u_46_1).toInt := by have a0 := oa9 h2 h1 ro_46_1 ((inv_F hIc123 0 1000 rfl v123_46_4)) ((inv_F hIc123 0 1000 rfl v123_46_2)) j123_4 i162x3 ((in_c 3 rfl)) i130; have a9 := t_add e129 (inv_F hIc123 0 1000 rfl v123_46_2) (in_c 1 rfl) rfl; have a10 := in_u ((in_c 1 rfl)); have oc := ocj_171_46; omega
          have n181d : ((sF (sF (sF sc123 46 2 z129) 46 3 (Int32.ofInt 3)) 46 5 y123_3).2.2.1 46 2).toInt ≤ ((sF (sF (sF sc123 46 2 z129) 46 3 (Int32.ofInt 3)) 46 5 y123_3).2.2.1 46 1).toInt := by have b0 : z129 = (sF (sF (sF sc123 46 2 z129) 46 3 (Int32.ofInt 3)) 46 5 y123_3).2.2.1 46 2 := sF_ne rfl (sF_ne rfl (sF_get)); have b1 : u_46_1 = (sF (sF (sF sc123 46 2 z129) 46 3 (Int32.ofInt 3)) 46 5 y123_3).2.2.1 46 1 := sF_ne rfl (sF_ne rfl (sF_ne rfl (fr_F e_46_1 hFc123 rfl))); rw [← b0, ← b1]; exact n181c
          have n181e : (w123_46_4).toInt ≤ (z129).toInt := by have a0 := oa9 h2 h1 ro_46_1 ((inv_F hIc123 0 1000 rfl v123_46_4)) ((inv_F hIc123 0 1000 rfl v123_46_2)) j123_4 i162x3 ((in_c 3 rfl)) i130; have a9 := t_add e129 (inv_F hIc123 0 1000 rfl v123_46_2) (in_c 1 rfl) rfl; have a10 := in_u ((in_c 1 rfl)); have oc := ocj_171_46; omega
          have n181f : ((sF (sF (sF sc123 46 2 z129) 46 3 (Int32.ofInt 3)) 46 5 y123_3).2.2.1 46 4).toInt ≤ ((sF (sF (sF sc123 46 2 z129) 46 3 (Int32.ofInt 3)) 46 5 y123_3).2.2.1 46 2).toInt := by have b0 : w123_46_4 = (sF (sF (sF sc123 46 2 z129) 46 3 (Int32.ofInt 3)) 46 5 y123_3).2.2.1 46 4 := sF_ne rfl (sF_ne rfl (sF_ne rfl (v123_46_4))); have b1 : z129 = (sF (sF (sF sc123 46 2 z129) 46 3 (Int32.ofInt 3)) 46 5 y123_3).2.2.1 46 2 := sF_ne rfl (sF_ne rfl (sF_get)); rw [← b0, ← b1]; exact n181e
          have n181g : (u_46_2).toInt ≤ (w123_46_4).toInt := by have a0 := oa9 h2 h1 ro_46_1 ((inv_F hIc123 0 1000 rfl v123_46_4)) ((inv_F hIc123 0 1000 rfl v123_46_2)) j123_4 i162x3 ((in_c 3 rfl)) i130; have a9 := t_add e129 (inv_F hIc123 0 1000 rfl v123_46_2) (in_c 1 rfl) rfl; have a10 := in_u ((in_c 1 rfl)); have oc := ocj_171_46; omega
          have n181h : (s.2.2.1 46 2).toInt ≤ ((sF (sF (sF sc123 46 2 z129) 46 3 (Int32.ofInt 3)) 46 5 y123_3).2.2.1 46 4).toInt := by have b0 : w123_46_4 = (sF (sF (sF sc123 46 2 z129) 46 3 (Int32.ofInt 3)) 46 5 y123_3).2.2.1 46 4 := sF_ne rfl (sF_ne rfl (sF_ne rfl (v123_46_4))); rw [← b0, ← e_46_2]; exact n181g
          exact g_return (gd rfl) rfl (hP _ _ ⟨(sF (sF (sF sc123 46 2 z129) 46 3 (Int32.ofInt 3)) 46 5 y123_3), hI178, (fr_sF rfl (fr_sF rfl (fr_sF rfl hFc123))), n181d, n181f, n181h, rfl, rfl, n181, n181a, n181b⟩)
      · skip
        refine g_iload_n 7 (gd rfl) rfl rfl ?_
        refine g_if_ne 10 23 (gd rfl) rfl rfl (fun c162x7 => ?_) (fun c162x7 => ?_)
        · skip
          exact zn_ne c162x7 h2 rfl
        · skip
          refine g_ldcs 0 12 (gd rfl) rfl rfl ?_
          refine g_iload_n 13 (gd rfl) rfl rfl ?_
          have i162x13 : In (Int32.ofInt 0) 0 6 := in_w 0 6 (in_c 0 rfl) rfl
          refine g_callS (X := _) (As := [.int y123_3]) (r := []) (x := (Int32.ofInt 0)) 16 (gd rfl) rfl rfl rfl zm_430 rfl rfl rfl i162x13 (Nat.le_of_ble_eq_true rfl) (f_430 i162x13 (by omega)) (fun e u h => h) (fun v u h => ?_)
          obtain ⟨z162x13, rfl, rfl, p162x13, p162x13a⟩ := h
          have i162x13a : In z162x13 (-1) 8 := by have a := zn_9 i162x13; unfold In at p162x13; exact ⟨by omega, by omega⟩
          show GG _ _ _ _ _ _ _ _ [.int z162x13] _ _ _
          refine g_if_lt 19 23 (gd rfl) rfl rfl (fun c162x16 => ?_) (fun c162x16 => ?_)
          · skip
            have i162x16 := z_lt (-1) (-1) c162x16 i162x13a rfl
            refine g_iconst 0 24 (gd rfl) rfl rfl ?_
            refine g_ireturn (gd rfl) rfl (nb01 (in_w 0 1 (in_c 0 rfl) rfl)) (hp162 _ _ ?_)
            show GG _ _ _ _ _ _ _ _ [.int (Int32.ofInt 0), .ref (A 46)] _ _ _
            refine g_if_eq 168 172 (gd rfl) rfl rfl (fun c165 => ?_) (fun c165 => ?_)
            · skip
              refine g_iconst 4 173 (gd rfl) rfl rfl ?_
              refine g_putI 176 (gd rfl) rfl rfl rfl rfl ?_
              have hI173 := inv_sF (q := 46) (j := 3) hI130 rfl (in_w 0 5 (in_c 4 rfl) rfl)
              refine g_aload_n 177 (gd rfl) rfl rfl ?_
              refine g_iload_n 178 (gd rfl) rfl rfl ?_
              refine g_putI 181 (gd rfl) rfl rfl rfl rfl ?_
              have hI178 := inv_sF (q := 46) (j := 5) hI173 rfl (in_w (-2147483648) 2147483647 i136 rfl)
              have n181 : (x1).toInt = 6 → TK (sF (sF (sF sc123 46 2 z129) 46 3 (Int32.ofInt 4)) 46 5 y123_3) := by intro h6; exact ⟨(Or.inr (by rw [← (show w123_46_4 = (sF (sF (sF sc123 46 2 z129) 46 3 (Int32.ofInt 4)) 46 5 y123_3).2.2.1 46 4 from sF_ne rfl (sF_ne rfl (sF_ne rfl (v123_46_4)))), ← (show z129 = (sF (sF (sF sc123 46 2 z129) 46 3 (Int32.ofInt 4)) 46 5 y123_3).2.2.1 46 2 from sF_ne rfl (sF_ne rfl (sF_get)))]; have a0 := h2; unfold In at a0; have a1 := oa8 h1 ro_46_1 ((inv_F hIc123 0 1000 rfl v123_46_4)) ((inv_F hIc123 0 1000 rfl v123_46_2)) j123_4 i136 ((in_c 4 rfl)) i130; have a9 := t_add e129 (inv_F hIc123 0 1000 rfl v123_46_2) (in_c 1 rfl) rfl; have a10 := in_u ((in_c 1 rfl)); have oc := ocj_171_46; omega)), (fun h2 => absurd h2 (by rw [← (show (Int32.ofInt 4) = (sF (sF (sF sc123 46 2 z129) 46 3 (Int32.ofInt 4)) 46 5 y123_3).2.2.1 46 3 from sF_ne rfl (sF_get))]; decide))⟩
              have n181a : ((sF (sF (sF sc123 46 2 z129) 46 3 (Int32.ofInt 4)) 46 5 y123_3).2.2.1 46 3).toInt = 1 → In ((sF (sF (sF sc123 46 2 z129) 46 3 (Int32.ofInt 4)) 46 5 y123_3).2.2.1 46 5) 0 25 := by intro h1; rw [← (show (Int32.ofInt 4) = (sF (sF (sF sc123 46 2 z129) 46 3 (Int32.ofInt 4)) 46 5 y123_3).2.2.1 46 3 from sF_ne rfl (sF_get))] at h1; exact absurd h1 (by decide)
              have n181b : PKN (s.1 47) (s.2.2.1 46 1).toInt.toNat (s.2.2.1 46 2).toInt.toNat ((sF (sF (sF sc123 46 2 z129) 46 3 (Int32.ofInt 4)) 46 5 y123_3).2.2.1 46 4).toInt.toNat ((sF (sF (sF sc123 46 2 z129) 46 3 (Int32.ofInt 4)) 46 5 y123_3).2.2.1 46 2).toInt.toNat ((sF (sF (sF sc123 46 2 z129) 46 3 (Int32.ofInt 4)) 46 5 y123_3).2.2.1 46 3).toInt ((sF (sF (sF sc123 46 2 z129) 46 3 (Int32.ofInt 4)) 46 5 y123_3).2.2.1 46 5).toInt := by have hz := zix_0 p162x13a; rw [← (show z129 = (sF (sF (sF sc123 46 2 z129) 46 3 (Int32.ofInt 4)) 46 5 y123_3).2.2.1 46 2 from sF_ne rfl (sF_ne rfl (sF_get))), ← (show w123_46_4 = (sF (sF (sF sc123 46 2 z129) 46 3 (Int32.ofInt 4)) 46 5 y123_3).2.2.1 46 4 from sF_ne rfl (sF_ne rfl (sF_ne rfl (v123_46_4)))), ← (show (Int32.ofInt 4) = (sF (sF (sF sc123 46 2 z129) 46 3 (Int32.ofInt 4)) 46 5 y123_3).2.2.1 46 3 from sF_ne rfl (sF_get)), ← (show y123_3 = (sF (sF (sF sc123 46 2 z129) 46 3 (Int32.ofInt 4)) 46 5 y123_3).2.2.1 46 5 from sF_get)]; first | exact pkn_3 g123_0 (by rw [← e_46_1]; have a0 := oa9 h2 h1 ro_46_1 ((inv_F hIc123 0 1000 rfl v123_46_4)) ((inv_F hIc123 0 1000 rfl v123_46_2)) j123_4 i136 ((in_c 4 rfl)) i130; have a9 := t_add e129 (inv_F hIc123 0 1000 rfl v123_46_2) (in_c 1 rfl) rfl; have a10 := in_u ((in_c 1 rfl)); have oc := ocj_171_46; omega) (by rw [← g123_1.1]; unfold pgS; have hz1 := hz.1 (by have a0 := oa9 h2 h1 ro_46_1 ((inv_F hIc123 0 1000 rfl v123_46_4)) ((inv_F hIc123 0 1000 rfl v123_46_2)) j123_4 i136 ((in_c 4 rfl)) i130; have a9 := t_add e129 (inv_F hIc123 0 1000 rfl v123_46_2) (in_c 1 rfl) rfl; have a10 := in_u ((in_c 1 rfl)); have oc := ocj_171_46; omega); omega) (by have a0 := oa9 h2 h1 ro_46_1 ((inv_F hIc123 0 1000 rfl v123_46_4)) ((inv_F hIc123 0 1000 rfl v123_46_2)) j123_4 i136 ((in_c 4 rfl)) i130; have a9 := t_add e129 (inv_F hIc123 0 1000 rfl v123_46_2) (in_c 1 rfl) rfl; have a10 := in_u ((in_c 1 rfl)); have oc := ocj_171_46; omega) (by decide) (by rw [← g123_1.1]) | exact pkn_4 g123_0 (by rw [← e_46_1]; have a0 := oa9 h2 h1 ro_46_1 ((inv_F hIc123 0 1000 rfl v123_46_4)) ((inv_F hIc123 0 1000 rfl v123_46_2)) j123_4 i136 ((in_c 4 rfl)) i130; have a9 := t_add e129 (inv_F hIc123 0 1000 rfl v123_46_2) (in_c 1 rfl) rfl; have a10 := in_u ((in_c 1 rfl)); have oc := ocj_171_46; omega) (by rw [← g123_1.1]; unfold tkL; have a0 := oa9 h2 h1 ro_46_1 ((inv_F hIc123 0 1000 rfl v123_46_4)) ((inv_F hIc123 0 1000 rfl v123_46_2)) j123_4 i136 ((in_c 4 rfl)) i130; have a9 := t_add e129 (inv_F hIc123 0 1000 rfl v123_46_2) (in_c 1 rfl) rfl; have a10 := in_u ((in_c 1 rfl)); have oc := ocj_171_46; omega) (by rw [← g123_1.1]; exact g123_1.2) (by rw [← g123_1.1]; unfold pgS; have hz1 := hz.2 (by have a0 := oa9 h2 h1 ro_46_1 ((inv_F hIc123 0 1000 rfl v123_46_4)) ((inv_F hIc123 0 1000 rfl v123_46_2)) j123_4 i136 ((in_c 4 rfl)) i130; have a9 := t_add e129 (inv_F hIc123 0 1000 rfl v123_46_2) (in_c 1 rfl) rfl; have a10 := in_u ((in_c 1 rfl)); have oc := ocj_171_46; omega); have a0 := oa9 h2 h1 ro_46_1 ((inv_F hIc123 0 1000 rfl v123_46_4)) ((inv_F hIc123 0 1000 rfl v123_46_2)) j123_4 i136 ((in_c 4 rfl)) i130; have a9 := t_add e129 (inv_F hIc123 0 1000 rfl v123_46_2) (in_c 1 rfl) rfl; have a10 := in_u ((in_c 1 rfl)); have oc := ocj_171_46; omega) (by have a0 := oa9 h2 h1 ro_46_1 ((inv_F hIc123 0 1000 rfl v123_46_4)) ((inv_F hIc123 0 1000 rfl v123_46_2)) j123_4 i136 ((in_c 4 rfl)) i130; have a9 := t_add e129 (inv_F hIc123 0 1000 rfl v123_46_2) (in_c 1 rfl) rfl; have a10 := in_u ((in_c 1 rfl)); have oc := ocj_171_46; omega) (by decide)
              have n181c : (z129).toInt ≤ (u_46_1).toInt := by have a0 := oa9 h2 h1 ro_46_1 ((inv_F hIc123 0 1000 rfl v123_46_4)) ((inv_F hIc123 0 1000 rfl v123_46_2)) j123_4 i136 ((in_c 4 rfl)) i130; have a9 := t_add e129 (inv_F hIc123 0 1000 rfl v123_46_2) (in_c 1 rfl) rfl; have a10 := in_u ((in_c 1 rfl)); have oc := ocj_171_46; omega
              have n181d : ((sF (sF (sF sc123 46 2 z129) 46 3 (Int32.ofInt 4)) 46 5 y123_3).2.2.1 46 2).toInt ≤ ((sF (sF (sF sc123 46 2 z129) 46 3 (Int32.ofInt 4)) 46 5 y123_3).2.2.1 46 1).toInt := by have b0 : z129 = (sF (sF (sF sc123 46 2 z129) 46 3 (Int32.ofInt 4)) 46 5 y123_3).2.2.1 46 2 := sF_ne rfl (sF_ne rfl (sF_get)); have b1 : u_46_1 = (sF (sF (sF sc123 46 2 z129) 46 3 (Int32.ofInt 4)) 46 5 y123_3).2.2.1 46 1 := sF_ne rfl (sF_ne rfl (sF_ne rfl (fr_F e_46_1 hFc123 rfl))); rw [← b0, ← b1]; exact n181c
              have n181e : (w123_46_4).toInt ≤ (z129).toInt := by have a0 := oa9 h2 h1 ro_46_1 ((inv_F hIc123 0 1000 rfl v123_46_4)) ((inv_F hIc123 0 1000 rfl v123_46_2)) j123_4 i136 ((in_c 4 rfl)) i130; have a9 := t_add e129 (inv_F hIc123 0 1000 rfl v123_46_2) (in_c 1 rfl) rfl; have a10 := in_u ((in_c 1 rfl)); have oc := ocj_171_46; omega
              have n181f : ((sF (sF (sF sc123 46 2 z129) 46 3 (Int32.ofInt 4)) 46 5 y123_3).2.2.1 46 4).toInt ≤ ((sF (sF (sF sc123 46 2 z129) 46 3 (Int32.ofInt 4)) 46 5 y123_3).2.2.1 46 2).toInt := by have b0 : w123_46_4 = (sF (sF (sF sc123 46 2 z129) 46 3 (Int32.ofInt 4)) 46 5 y123_3).2.2.1 46 4 := sF_ne rfl (sF_ne rfl (sF_ne rfl (v123_46_4))); have b1 : z129 = (sF (sF (sF sc123 46 2 z129) 46 3 (Int32.ofInt 4)) 46 5 y123_3).2.2.1 46 2 := sF_ne rfl (sF_ne rfl (sF_get)); rw [← b0, ← b1]; exact n181e
              have n181g : (u_46_2).toInt ≤ (w123_46_4).toInt := by have a0 := oa9 h2 h1 ro_46_1 ((inv_F hIc123 0 1000 rfl v123_46_4)) ((inv_F hIc123 0 1000 rfl v123_46_2)) j123_4 i136 ((in_c 4 rfl)) i130; have a9 := t_add e129 (inv_F hIc123 0 1000 rfl v123_46_2) (in_c 1 rfl) rfl; have a10 := in_u ((in_c 1 rfl)); have oc := ocj_171_46; omega
              have n181h : (s.2.2.1 46 2).toInt ≤ ((sF (sF (sF sc123 46 2 z129) 46 3 (Int32.ofInt 4)) 46 5 y123_3).2.2.1 46 4).toInt := by have b0 : w123_46_4 = (sF (sF (sF sc123 46 2 z129) 46 3 (Int32.ofInt 4)) 46 5 y123_3).2.2.1 46 4 := sF_ne rfl (sF_ne rfl (sF_ne rfl (v123_46_4))); rw [← b0, ← e_46_2]; exact n181g
              exact g_return (gd rfl) rfl (hP _ _ ⟨(sF (sF (sF sc123 46 2 z129) 46 3 (Int32.ofInt 4)) 46 5 y123_3), hI178, (fr_sF rfl (fr_sF rfl (fr_sF rfl hFc123))), n181d, n181f, n181h, rfl, rfl, n181, n181a, n181b⟩)
            · skip
              exact zn_ne c165 (in_c 0 rfl) rfl
          · skip
            have i162x16 := z_ge 0 8 c162x16 i162x13a rfl
            refine g_iconst 1 20 (gd rfl) rfl rfl ?_
            refine g_goto 24 (gd rfl) rfl ?_
            refine g_ireturn (gd rfl) rfl (nb01 (in_w 0 1 (in_c 1 rfl) rfl)) (hp162 _ _ ?_)
            show GG _ _ _ _ _ _ _ _ [.int (Int32.ofInt 1), .ref (A 46)] _ _ _
            refine g_if_eq 168 172 (gd rfl) rfl rfl (fun c165 => ?_) (fun c165 => ?_)
            · skip
              exact zn_eq c165 (in_c 1 rfl) rfl
            · skip
              refine g_iconst 3 169 (gd rfl) rfl rfl ?_
              refine g_goto 173 (gd rfl) rfl ?_
              refine g_putI 176 (gd rfl) rfl rfl rfl rfl ?_
              have hI173 := inv_sF (q := 46) (j := 3) hI130 rfl (in_w 0 5 (in_c 3 rfl) rfl)
              refine g_aload_n 177 (gd rfl) rfl rfl ?_
              refine g_iload_n 178 (gd rfl) rfl rfl ?_
              refine g_putI 181 (gd rfl) rfl rfl rfl rfl ?_
              have hI178 := inv_sF (q := 46) (j := 5) hI173 rfl (in_w (-2147483648) 2147483647 i136 rfl)
              have n181 : (x1).toInt = 6 → TK (sF (sF (sF sc123 46 2 z129) 46 3 (Int32.ofInt 3)) 46 5 y123_3) := by intro h6; exact ⟨(Or.inr (by rw [← (show w123_46_4 = (sF (sF (sF sc123 46 2 z129) 46 3 (Int32.ofInt 3)) 46 5 y123_3).2.2.1 46 4 from sF_ne rfl (sF_ne rfl (sF_ne rfl (v123_46_4)))), ← (show z129 = (sF (sF (sF sc123 46 2 z129) 46 3 (Int32.ofInt 3)) 46 5 y123_3).2.2.1 46 2 from sF_ne rfl (sF_ne rfl (sF_get)))]; have a0 := h2; unfold In at a0; have a1 := oa8 h1 ro_46_1 ((inv_F hIc123 0 1000 rfl v123_46_4)) ((inv_F hIc123 0 1000 rfl v123_46_2)) j123_4 i136 ((in_c 3 rfl)) i130; have a9 := t_add e129 (inv_F hIc123 0 1000 rfl v123_46_2) (in_c 1 rfl) rfl; have a10 := in_u ((in_c 1 rfl)); have oc := ocj_171_46; omega)), (fun h2 => absurd h2 (by rw [← (show (Int32.ofInt 3) = (sF (sF (sF sc123 46 2 z129) 46 3 (Int32.ofInt 3)) 46 5 y123_3).2.2.1 46 3 from sF_ne rfl (sF_get))]; decide))⟩
              have n181a : ((sF (sF (sF sc123 46 2 z129) 46 3 (Int32.ofInt 3)) 46 5 y123_3).2.2.1 46 3).toInt = 1 → In ((sF (sF (sF sc123 46 2 z129) 46 3 (Int32.ofInt 3)) 46 5 y123_3).2.2.1 46 5) 0 25 := by intro h1; rw [← (show (Int32.ofInt 3) = (sF (sF (sF sc123 46 2 z129) 46 3 (Int32.ofInt 3)) 46 5 y123_3).2.2.1 46 3 from sF_ne rfl (sF_get))] at h1; exact absurd h1 (by decide)
              have n181b : PKN (s.1 47) (s.2.2.1 46 1).toInt.toNat (s.2.2.1 46 2).toInt.toNat ((sF (sF (sF sc123 46 2 z129) 46 3 (Int32.ofInt 3)) 46 5 y123_3).2.2.1 46 4).toInt.toNat ((sF (sF (sF sc123 46 2 z129) 46 3 (Int32.ofInt 3)) 46 5 y123_3).2.2.1 46 2).toInt.toNat ((sF (sF (sF sc123 46 2 z129) 46 3 (Int32.ofInt 3)) 46 5 y123_3).2.2.1 46 3).toInt ((sF (sF (sF sc123 46 2 z129) 46 3 (Int32.ofInt 3)) 46 5 y123_3).2.2.1 46 5).toInt := by have hz := zix_0 p162x13a; rw [← (show z129 = (sF (sF (sF sc123 46 2 z129) 46 3 (Int32.ofInt 3)) 46 5 y123_3).2.2.1 46 2 from sF_ne rfl (sF_ne rfl (sF_get))), ← (show w123_46_4 = (sF (sF (sF sc123 46 2 z129) 46 3 (Int32.ofInt 3)) 46 5 y123_3).2.2.1 46 4 from sF_ne rfl (sF_ne rfl (sF_ne rfl (v123_46_4)))), ← (show (Int32.ofInt 3) = (sF (sF (sF sc123 46 2 z129) 46 3 (Int32.ofInt 3)) 46 5 y123_3).2.2.1 46 3 from sF_ne rfl (sF_get)), ← (show y123_3 = (sF (sF (sF sc123 46 2 z129) 46 3 (Int32.ofInt 3)) 46 5 y123_3).2.2.1 46 5 from sF_get)]; first | exact pkn_3 g123_0 (by rw [← e_46_1]; have a0 := oa9 h2 h1 ro_46_1 ((inv_F hIc123 0 1000 rfl v123_46_4)) ((inv_F hIc123 0 1000 rfl v123_46_2)) j123_4 i136 ((in_c 3 rfl)) i130; have a9 := t_add e129 (inv_F hIc123 0 1000 rfl v123_46_2) (in_c 1 rfl) rfl; have a10 := in_u ((in_c 1 rfl)); have oc := ocj_171_46; omega) (by rw [← g123_1.1]; unfold pgS; have hz1 := hz.1 (by have a0 := oa9 h2 h1 ro_46_1 ((inv_F hIc123 0 1000 rfl v123_46_4)) ((inv_F hIc123 0 1000 rfl v123_46_2)) j123_4 i136 ((in_c 3 rfl)) i130; have a9 := t_add e129 (inv_F hIc123 0 1000 rfl v123_46_2) (in_c 1 rfl) rfl; have a10 := in_u ((in_c 1 rfl)); have oc := ocj_171_46; omega); omega) (by have a0 := oa9 h2 h1 ro_46_1 ((inv_F hIc123 0 1000 rfl v123_46_4)) ((inv_F hIc123 0 1000 rfl v123_46_2)) j123_4 i136 ((in_c 3 rfl)) i130; have a9 := t_add e129 (inv_F hIc123 0 1000 rfl v123_46_2) (in_c 1 rfl) rfl; have a10 := in_u ((in_c 1 rfl)); have oc := ocj_171_46; omega) (by decide) (by rw [← g123_1.1]) | exact pkn_4 g123_0 (by rw [← e_46_1]; have a0 := oa9 h2 h1 ro_46_1 ((inv_F hIc123 0 1000 rfl v123_46_4)) ((inv_F hIc123 0 1000 rfl v123_46_2)) j123_4 i136 ((in_c 3 rfl)) i130; have a9 := t_add e129 (inv_F hIc123 0 1000 rfl v123_46_2) (in_c 1 rfl) rfl; have a10 := in_u ((in_c 1 rfl)); have oc := ocj_171_46; omega) (by rw [← g123_1.1]; unfold tkL; have a0 := oa9 h2 h1 ro_46_1 ((inv_F hIc123 0 1000 rfl v123_46_4)) ((inv_F hIc123 0 1000 rfl v123_46_2)) j123_4 i136 ((in_c 3 rfl)) i130; have a9 := t_add e129 (inv_F hIc123 0 1000 rfl v123_46_2) (in_c 1 rfl) rfl; have a10 := in_u ((in_c 1 rfl)); have oc := ocj_171_46; omega) (by rw [← g123_1.1]; exact g123_1.2) (by rw [← g123_1.1]; unfold pgS; have hz1 := hz.2 (by have a0 := oa9 h2 h1 ro_46_1 ((inv_F hIc123 0 1000 rfl v123_46_4)) ((inv_F hIc123 0 1000 rfl v123_46_2)) j123_4 i136 ((in_c 3 rfl)) i130; have a9 := t_add e129 (inv_F hIc123 0 1000 rfl v123_46_2) (in_c 1 rfl) rfl; have a10 := in_u ((in_c 1 rfl)); have oc := ocj_171_46; omega); have a0 := oa9 h2 h1 ro_46_1 ((inv_F hIc123 0 1000 rfl v123_46_4)) ((inv_F hIc123 0 1000 rfl v123_46_2)) j123_4 i136 ((in_c 3 rfl)) i130; have a9 := t_add e129 (inv_F hIc123 0 1000 rfl v123_46_2) (in_c 1 rfl) rfl; have a10 := in_u ((in_c 1 rfl)); have oc := ocj_171_46; omega) (by have a0 := oa9 h2 h1 ro_46_1 ((inv_F hIc123 0 1000 rfl v123_46_4)) ((inv_F hIc123 0 1000 rfl v123_46_2)) j123_4 i136 ((in_c 3 rfl)) i130; have a9 := t_add e129 (inv_F hIc123 0 1000 rfl v123_46_2) (in_c 1 rfl) rfl; have a10 := in_u ((in_c 1 rfl)); have oc := ocj_171_46; omega) (by decide)
              have n181c : (z129).toInt ≤ (u_46_1).toInt := by have a0 := oa9 h2 h1 ro_46_1 ((inv_F hIc123 0 1000 rfl v123_46_4)) ((inv_F hIc123 0 1000 rfl v123_46_2)) j123_4 i136 ((in_c 3 rfl)) i130; have a9 := t_add e129 (inv_F hIc123 0 1000 rfl v123_46_2) (in_c 1 rfl) rfl; have a10 := in_u ((in_c 1 rfl)); have oc := ocj_171_46; omega
              have n181d : ((sF (sF (sF sc123 46 2 z129) 46 3 (Int32.ofInt 3)) 46 5 y123_3).2.2.1 46 2).toInt ≤ ((sF (sF (sF sc123 46 2 z129) 46 3 (Int32.ofInt 3)) 46 5 y123_3).2.2.1 46 1).toInt := by have b0 : z129 = (sF (sF (sF sc123 46 2 z129) 46 3 (Int32.ofInt 3)) 46 5 y123_3).2.2.1 46 2 := sF_ne rfl (sF_ne rfl (sF_get)); have b1 : u_46_1 = (sF (sF (sF sc123 46 2 z129) 46 3 (Int32.ofInt 3)) 46 5 y123_3).2.2.1 46 1 := sF_ne rfl (sF_ne rfl (sF_ne rfl (fr_F e_46_1 hFc123 rfl))); rw [← b0, ← b1]; exact n181c
              have n181e : (w123_46_4).toInt ≤ (z129).toInt := by have a0 := oa9 h2 h1 ro_46_1 ((inv_F hIc123 0 1000 rfl v123_46_4)) ((inv_F hIc123 0 1000 rfl v123_46_2)) j123_4 i136 ((in_c 3 rfl)) i130; have a9 := t_add e129 (inv_F hIc123 0 1000 rfl v123_46_2) (in_c 1 rfl) rfl; have a10 := in_u ((in_c 1 rfl)); have oc := ocj_171_46; omega
              have n181f : ((sF (sF (sF sc123 46 2 z129) 46 3 (Int32.ofInt 3)) 46 5 y123_3).2.2.1 46 4).toInt ≤ ((sF (sF (sF sc123 46 2 z129) 46 3 (Int32.ofInt 3)) 46 5 y123_3).2.2.1 46 2).toInt := by have b0 : w123_46_4 = (sF (sF (sF sc123 46 2 z129) 46 3 (Int32.ofInt 3)) 46 5 y123_3).2.2.1 46 4 := sF_ne rfl (sF_ne rfl (sF_ne rfl (v123_46_4))); have b1 : z129 = (sF (sF (sF sc123 46 2 z129) 46 3 (Int32.ofInt 3)) 46 5 y123_3).2.2.1 46 2 := sF_ne rfl (sF_ne rfl (sF_get)); rw [← b0, ← b1]; exact n181e
              have n181g : (u_46_2).toInt ≤ (w123_46_4).toInt := by have a0 := oa9 h2 h1 ro_46_1 ((inv_F hIc123 0 1000 rfl v123_46_4)) ((inv_F hIc123 0 1000 rfl v123_46_2)) j123_4 i136 ((in_c 3 rfl)) i130; have a9 := t_add e129 (inv_F hIc123 0 1000 rfl v123_46_2) (in_c 1 rfl) rfl; have a10 := in_u ((in_c 1 rfl)); have oc := ocj_171_46; omega
              have n181h : (s.2.2.1 46 2).toInt ≤ ((sF (sF (sF sc123 46 2 z129) 46 3 (Int32.ofInt 3)) 46 5 y123_3).2.2.1 46 4).toInt := by have b0 : w123_46_4 = (sF (sF (sF sc123 46 2 z129) 46 3 (Int32.ofInt 3)) 46 5 y123_3).2.2.1 46 4 := sF_ne rfl (sF_ne rfl (sF_ne rfl (v123_46_4))); rw [← b0, ← e_46_2]; exact n181g
              exact g_return (gd rfl) rfl (hP _ _ ⟨(sF (sF (sF sc123 46 2 z129) 46 3 (Int32.ofInt 3)) 46 5 y123_3), hI178, (fr_sF rfl (fr_sF rfl (fr_sF rfl hFc123))), n181d, n181f, n181h, rfl, rfl, n181, n181a, n181b⟩)
    · skip
      have i136 := r_le2 97 65535 c136 (in_c 97 rfl) j123_3 rfl
      refine g_iload_n 140 (gd rfl) rfl rfl ?_
      refine g_bipush 122 142 (gd rfl) rfl rfl ?_
      refine g_cmp_gt 145 159 (gd rfl) rfl rfl (fun c142 => ?_) (fun c142 => ?_)
      · skip
        have i142 := r_lt2 123 65535 c142 (in_c 122 rfl) i136 rfl
        refine g_aload_n 160 (gd rfl) rfl rfl ?_
        refine g_iload_n 161 (gd rfl) rfl rfl ?_
        refine g_iload_n 162 (gd rfl) rfl rfl ?_
        refine g_calls (As := [.int y123_3, .int x2]) (r := [.ref (A 46)]) 165 (gd rfl) rfl rfl rfl rfl rfl (Nat.le_of_ble_eq_true rfl) (mc := 0) (ms := 0) (Nat.zero_le _) (Nat.zero_le _) (P := fun v u => _) ?_ (fun v u h => h)
        intro po162 xx162 hp162 hx162
        refine g_enter2 (k := 174) (N := 300) (by first | exact dq1 hd rfl | exact dq0 hd rfl | exact dq2 hd rfl | exact dq3 hd rfl | omega) rfl (Nat.le_of_ble_eq_true rfl) ?_
        refine g_iload_n 1 (gd rfl) rfl rfl ?_
        refine g_bipush 59 3 (gd rfl) rfl rfl ?_
        refine g_cmp_eq 6 19 (gd rfl) rfl rfl (fun c162x3 => ?_) (fun c162x3 => ?_)
        · skip
          exact n_eq c162x3 i142 (in_c 59 rfl) rfl
        · skip
          refine g_iload_n 7 (gd rfl) rfl rfl ?_
          refine g_if_ne 10 23 (gd rfl) rfl rfl (fun c162x7 => ?_) (fun c162x7 => ?_)
          · skip
            exact zn_ne c162x7 h2 rfl
          · skip
            refine g_ldcs 0 12 (gd rfl) rfl rfl ?_
            refine g_iload_n 13 (gd rfl) rfl rfl ?_
            have i162x13 : In (Int32.ofInt 0) 0 6 := in_w 0 6 (in_c 0 rfl) rfl
            refine g_callS (X := _) (As := [.int y123_3]) (r := []) (x := (Int32.ofInt 0)) 16 (gd rfl) rfl rfl rfl zm_430 rfl rfl rfl i162x13 (Nat.le_of_ble_eq_true rfl) (f_430 i162x13 (by omega)) (fun e u h => h) (fun v u h => ?_)
            obtain ⟨z162x13, rfl, rfl, p162x13, p162x13a⟩ := h
            have i162x13a : In z162x13 (-1) 8 := by have a := zn_9 i162x13; unfold In at p162x13; exact ⟨by omega, by omega⟩
            show GG _ _ _ _ _ _ _ _ [.int z162x13] _ _ _
            refine g_if_lt 19 23 (gd rfl) rfl rfl (fun c162x16 => ?_) (fun c162x16 => ?_)
            · skip
              have i162x16 := z_lt (-1) (-1) c162x16 i162x13a rfl
              refine g_iconst 0 24 (gd rfl) rfl rfl ?_
              refine g_ireturn (gd rfl) rfl (nb01 (in_w 0 1 (in_c 0 rfl) rfl)) (hp162 _ _ ?_)
              show GG _ _ _ _ _ _ _ _ [.int (Int32.ofInt 0), .ref (A 46)] _ _ _
              refine g_if_eq 168 172 (gd rfl) rfl rfl (fun c165 => ?_) (fun c165 => ?_)
              · skip
                refine g_iconst 4 173 (gd rfl) rfl rfl ?_
                refine g_putI 176 (gd rfl) rfl rfl rfl rfl ?_
                have hI173 := inv_sF (q := 46) (j := 3) hI130 rfl (in_w 0 5 (in_c 4 rfl) rfl)
                refine g_aload_n 177 (gd rfl) rfl rfl ?_
                refine g_iload_n 178 (gd rfl) rfl rfl ?_
                refine g_putI 181 (gd rfl) rfl rfl rfl rfl ?_
                have hI178 := inv_sF (q := 46) (j := 5) hI173 rfl (in_w (-2147483648) 2147483647 i142 rfl)
                have n181 : (x1).toInt = 6 → TK (sF (sF (sF sc123 46 2 z129) 46 3 (Int32.ofInt 4)) 46 5 y123_3) := by intro h6; exact ⟨(Or.inr (by rw [← (show w123_46_4 = (sF (sF (sF sc123 46 2 z129) 46 3 (Int32.ofInt 4)) 46 5 y123_3).2.2.1 46 4 from sF_ne rfl (sF_ne rfl (sF_ne rfl (v123_46_4)))), ← (show z129 = (sF (sF (sF sc123 46 2 z129) 46 3 (Int32.ofInt 4)) 46 5 y123_3).2.2.1 46 2 from sF_ne rfl (sF_ne rfl (sF_get)))]; have a0 := h2; unfold In at a0; have a1 := oa8 h1 ro_46_1 ((inv_F hIc123 0 1000 rfl v123_46_4)) ((inv_F hIc123 0 1000 rfl v123_46_2)) j123_4 i142 ((in_c 4 rfl)) i130; have a9 := t_add e129 (inv_F hIc123 0 1000 rfl v123_46_2) (in_c 1 rfl) rfl; have a10 := in_u ((in_c 1 rfl)); have oc := ocj_171_46; omega)), (fun h2 => absurd h2 (by rw [← (show (Int32.ofInt 4) = (sF (sF (sF sc123 46 2 z129) 46 3 (Int32.ofInt 4)) 46 5 y123_3).2.2.1 46 3 from sF_ne rfl (sF_get))]; decide))⟩
                have n181a : ((sF (sF (sF sc123 46 2 z129) 46 3 (Int32.ofInt 4)) 46 5 y123_3).2.2.1 46 3).toInt = 1 → In ((sF (sF (sF sc123 46 2 z129) 46 3 (Int32.ofInt 4)) 46 5 y123_3).2.2.1 46 5) 0 25 := by intro h1; rw [← (show (Int32.ofInt 4) = (sF (sF (sF sc123 46 2 z129) 46 3 (Int32.ofInt 4)) 46 5 y123_3).2.2.1 46 3 from sF_ne rfl (sF_get))] at h1; exact absurd h1 (by decide)
                have n181b : PKN (s.1 47) (s.2.2.1 46 1).toInt.toNat (s.2.2.1 46 2).toInt.toNat ((sF (sF (sF sc123 46 2 z129) 46 3 (Int32.ofInt 4)) 46 5 y123_3).2.2.1 46 4).toInt.toNat ((sF (sF (sF sc123 46 2 z129) 46 3 (Int32.ofInt 4)) 46 5 y123_3).2.2.1 46 2).toInt.toNat ((sF (sF (sF sc123 46 2 z129) 46 3 (Int32.ofInt 4)) 46 5 y123_3).2.2.1 46 3).toInt ((sF (sF (sF sc123 46 2 z129) 46 3 (Int32.ofInt 4)) 46 5 y123_3).2.2.1 46 5).toInt := by have hz := zix_0 p162x13a; rw [← (show z129 = (sF (sF (sF sc123 46 2 z129) 46 3 (Int32.ofInt 4)) 46 5 y123_3).2.2.1 46 2 from sF_ne rfl (sF_ne rfl (sF_get))), ← (show w123_46_4 = (sF (sF (sF sc123 46 2 z129) 46 3 (Int32.ofInt 4)) 46 5 y123_3).2.2.1 46 4 from sF_ne rfl (sF_ne rfl (sF_ne rfl (v123_46_4)))), ← (show (Int32.ofInt 4) = (sF (sF (sF sc123 46 2 z129) 46 3 (Int32.ofInt 4)) 46 5 y123_3).2.2.1 46 3 from sF_ne rfl (sF_get)), ← (show y123_3 = (sF (sF (sF sc123 46 2 z129) 46 3 (Int32.ofInt 4)) 46 5 y123_3).2.2.1 46 5 from sF_get)]; first | exact pkn_3 g123_0 (by rw [← e_46_1]; have a0 := oa9 h2 h1 ro_46_1 ((inv_F hIc123 0 1000 rfl v123_46_4)) ((inv_F hIc123 0 1000 rfl v123_46_2)) j123_4 i142 ((in_c 4 rfl)) i130; have a9 := t_add e129 (inv_F hIc123 0 1000 rfl v123_46_2) (in_c 1 rfl) rfl; have a10 := in_u ((in_c 1 rfl)); have oc := ocj_171_46; omega) (by rw [← g123_1.1]; unfold pgS; have hz1 := hz.1 (by have a0 := oa9 h2 h1 ro_46_1 ((inv_F hIc123 0 1000 rfl v123_46_4)) ((inv_F hIc123 0 1000 rfl v123_46_2)) j123_4 i142 ((in_c 4 rfl)) i130; have a9 := t_add e129 (inv_F hIc123 0 1000 rfl v123_46_2) (in_c 1 rfl) rfl; have a10 := in_u ((in_c 1 rfl)); have oc := ocj_171_46; omega); omega) (by have a0 := oa9 h2 h1 ro_46_1 ((inv_F hIc123 0 1000 rfl v123_46_4)) ((inv_F hIc123 0 1000 rfl v123_46_2)) j123_4 i142 ((in_c 4 rfl)) i130; have a9 := t_add e129 (inv_F hIc123 0 1000 rfl v123_46_2) (in_c 1 rfl) rfl; have a10 := in_u ((in_c 1 rfl)); have oc := ocj_171_46; omega) (by decide) (by rw [← g123_1.1]) | exact pkn_4 g123_0 (by rw [← e_46_1]; have a0 := oa9 h2 h1 ro_46_1 ((inv_F hIc123 0 1000 rfl v123_46_4)) ((inv_F hIc123 0 1000 rfl v123_46_2)) j123_4 i142 ((in_c 4 rfl)) i130; have a9 := t_add e129 (inv_F hIc123 0 1000 rfl v123_46_2) (in_c 1 rfl) rfl; have a10 := in_u ((in_c 1 rfl)); have oc := ocj_171_46; omega) (by rw [← g123_1.1]; unfold tkL; have a0 := oa9 h2 h1 ro_46_1 ((inv_F hIc123 0 1000 rfl v123_46_4)) ((inv_F hIc123 0 1000 rfl v123_46_2)) j123_4 i142 ((in_c 4 rfl)) i130; have a9 := t_add e129 (inv_F hIc123 0 1000 rfl v123_46_2) (in_c 1 rfl) rfl; have a10 := in_u ((in_c 1 rfl)); have oc := ocj_171_46; omega) (by rw [← g123_1.1]; exact g123_1.2) (by rw [← g123_1.1]; unfold pgS; have hz1 := hz.2 (by have a0 := oa9 h2 h1 ro_46_1 ((inv_F hIc123 0 1000 rfl v123_46_4)) ((inv_F hIc123 0 1000 rfl v123_46_2)) j123_4 i142 ((in_c 4 rfl)) i130; have a9 := t_add e129 (inv_F hIc123 0 1000 rfl v123_46_2) (in_c 1 rfl) rfl; have a10 := in_u ((in_c 1 rfl)); have oc := ocj_171_46; omega); have a0 := oa9 h2 h1 ro_46_1 ((inv_F hIc123 0 1000 rfl v123_46_4)) ((inv_F hIc123 0 1000 rfl v123_46_2)) j123_4 i142 ((in_c 4 rfl)) i130; have a9 := t_add e129 (inv_F hIc123 0 1000 rfl v123_46_2) (in_c 1 rfl) rfl; have a10 := in_u ((in_c 1 rfl)); have oc := ocj_171_46; omega) (by have a0 := oa9 h2 h1 ro_46_1 ((inv_F hIc123 0 1000 rfl v123_46_4)) ((inv_F hIc123 0 1000 rfl v123_46_2)) j123_4 i142 ((in_c 4 rfl)) i130; have a9 := t_add e129 (inv_F hIc123 0 1000 rfl v123_46_2) (in_c 1 rfl) rfl; have a10 := in_u ((in_c 1 rfl)); have oc := ocj_171_46; omega) (by decide)
                have n181c : (z129).toInt ≤ (u_46_1).toInt := by have a0 := oa9 h2 h1 ro_46_1 ((inv_F hIc123 0 1000 rfl v123_46_4)) ((inv_F hIc123 0 1000 rfl v123_46_2)) j123_4 i142 ((in_c 4 rfl)) i130; have a9 := t_add e129 (inv_F hIc123 0 1000 rfl v123_46_2) (in_c 1 rfl) rfl; have a10 := in_u ((in_c 1 rfl)); have oc := ocj_171_46; omega
                have n181d : ((sF (sF (sF sc123 46 2 z129) 46 3 (Int32.ofInt 4)) 46 5 y123_3).2.2.1 46 2).toInt ≤ ((sF (sF (sF sc123 46 2 z129) 46 3 (Int32.ofInt 4)) 46 5 y123_3).2.2.1 46 1).toInt := by have b0 : z129 = (sF (sF (sF sc123 46 2 z129) 46 3 (Int32.ofInt 4)) 46 5 y123_3).2.2.1 46 2 := sF_ne rfl (sF_ne rfl (sF_get)); have b1 : u_46_1 = (sF (sF (sF sc123 46 2 z129) 46 3 (Int32.ofInt 4)) 46 5 y123_3).2.2.1 46 1 := sF_ne rfl (sF_ne rfl (sF_ne rfl (fr_F e_46_1 hFc123 rfl))); rw [← b0, ← b1]; exact n181c
                have n181e : (w123_46_4).toInt ≤ (z129).toInt := by have a0 := oa9 h2 h1 ro_46_1 ((inv_F hIc123 0 1000 rfl v123_46_4)) ((inv_F hIc123 0 1000 rfl v123_46_2)) j123_4 i142 ((in_c 4 rfl)) i130; have a9 := t_add e129 (inv_F hIc123 0 1000 rfl v123_46_2) (in_c 1 rfl) rfl; have a10 := in_u ((in_c 1 rfl)); have oc := ocj_171_46; omega
                have n181f : ((sF (sF (sF sc123 46 2 z129) 46 3 (Int32.ofInt 4)) 46 5 y123_3).2.2.1 46 4).toInt ≤ ((sF (sF (sF sc123 46 2 z129) 46 3 (Int32.ofInt 4)) 46 5 y123_3).2.2.1 46 2).toInt := by have b0 : w123_46_4 = (sF (sF (sF sc123 46 2 z129) 46 3 (Int32.ofInt 4)) 46 5 y123_3).2.2.1 46 4 := sF_ne rfl (sF_ne rfl (sF_ne rfl (v123_46_4))); have b1 : z129 = (sF (sF (sF sc123 46 2 z129) 46 3 (Int32.ofInt 4)) 46 5 y123_3).2.2.1 46 2 := sF_ne rfl (sF_ne rfl (sF_get)); rw [← b0, ← b1]; exact n181e
                have n181g : (u_46_2).toInt ≤ (w123_46_4).toInt := by have a0 := oa9 h2 h1 ro_46_1 ((inv_F hIc123 0 1000 rfl v123_46_4)) ((inv_F hIc123 0 1000 rfl v123_46_2)) j123_4 i142 ((in_c 4 rfl)) i130; have a9 := t_add e129 (inv_F hIc123 0 1000 rfl v123_46_2) (in_c 1 rfl) rfl; have a10 := in_u ((in_c 1 rfl)); have oc := ocj_171_46; omega
                have n181h : (s.2.2.1 46 2).toInt ≤ ((sF (sF (sF sc123 46 2 z129) 46 3 (Int32.ofInt 4)) 46 5 y123_3).2.2.1 46 4).toInt := by have b0 : w123_46_4 = (sF (sF (sF sc123 46 2 z129) 46 3 (Int32.ofInt 4)) 46 5 y123_3).2.2.1 46 4 := sF_ne rfl (sF_ne rfl (sF_ne rfl (v123_46_4))); rw [← b0, ← e_46_2]; exact n181g
                exact g_return (gd rfl) rfl (hP _ _ ⟨(sF (sF (sF sc123 46 2 z129) 46 3 (Int32.ofInt 4)) 46 5 y123_3), hI178, (fr_sF rfl (fr_sF rfl (fr_sF rfl hFc123))), n181d, n181f, n181h, rfl, rfl, n181, n181a, n181b⟩)
              · skip
                exact zn_ne c165 (in_c 0 rfl) rfl
            · skip
              have i162x16 := z_ge 0 8 c162x16 i162x13a rfl
              refine g_iconst 1 20 (gd rfl) rfl rfl ?_
              refine g_goto 24 (gd rfl) rfl ?_
              refine g_ireturn (gd rfl) rfl (nb01 (in_w 0 1 (in_c 1 rfl) rfl)) (hp162 _ _ ?_)
              show GG _ _ _ _ _ _ _ _ [.int (Int32.ofInt 1), .ref (A 46)] _ _ _
              refine g_if_eq 168 172 (gd rfl) rfl rfl (fun c165 => ?_) (fun c165 => ?_)
              · skip
                exact zn_eq c165 (in_c 1 rfl) rfl
              · skip
                refine g_iconst 3 169 (gd rfl) rfl rfl ?_
                refine g_goto 173 (gd rfl) rfl ?_
                refine g_putI 176 (gd rfl) rfl rfl rfl rfl ?_
                have hI173 := inv_sF (q := 46) (j := 3) hI130 rfl (in_w 0 5 (in_c 3 rfl) rfl)
                refine g_aload_n 177 (gd rfl) rfl rfl ?_
                refine g_iload_n 178 (gd rfl) rfl rfl ?_
                refine g_putI 181 (gd rfl) rfl rfl rfl rfl ?_
                have hI178 := inv_sF (q := 46) (j := 5) hI173 rfl (in_w (-2147483648) 2147483647 i142 rfl)
                have n181 : (x1).toInt = 6 → TK (sF (sF (sF sc123 46 2 z129) 46 3 (Int32.ofInt 3)) 46 5 y123_3) := by intro h6; exact ⟨(Or.inr (by rw [← (show w123_46_4 = (sF (sF (sF sc123 46 2 z129) 46 3 (Int32.ofInt 3)) 46 5 y123_3).2.2.1 46 4 from sF_ne rfl (sF_ne rfl (sF_ne rfl (v123_46_4)))), ← (show z129 = (sF (sF (sF sc123 46 2 z129) 46 3 (Int32.ofInt 3)) 46 5 y123_3).2.2.1 46 2 from sF_ne rfl (sF_ne rfl (sF_get)))]; have a0 := h2; unfold In at a0; have a1 := oa8 h1 ro_46_1 ((inv_F hIc123 0 1000 rfl v123_46_4)) ((inv_F hIc123 0 1000 rfl v123_46_2)) j123_4 i142 ((in_c 3 rfl)) i130; have a9 := t_add e129 (inv_F hIc123 0 1000 rfl v123_46_2) (in_c 1 rfl) rfl; have a10 := in_u ((in_c 1 rfl)); have oc := ocj_171_46; omega)), (fun h2 => absurd h2 (by rw [← (show (Int32.ofInt 3) = (sF (sF (sF sc123 46 2 z129) 46 3 (Int32.ofInt 3)) 46 5 y123_3).2.2.1 46 3 from sF_ne rfl (sF_get))]; decide))⟩
                have n181a : ((sF (sF (sF sc123 46 2 z129) 46 3 (Int32.ofInt 3)) 46 5 y123_3).2.2.1 46 3).toInt = 1 → In ((sF (sF (sF sc123 46 2 z129) 46 3 (Int32.ofInt 3)) 46 5 y123_3).2.2.1 46 5) 0 25 := by intro h1; rw [← (show (Int32.ofInt 3) = (sF (sF (sF sc123 46 2 z129) 46 3 (Int32.ofInt 3)) 46 5 y123_3).2.2.1 46 3 from sF_ne rfl (sF_get))] at h1; exact absurd h1 (by decide)
                have n181b : PKN (s.1 47) (s.2.2.1 46 1).toInt.toNat (s.2.2.1 46 2).toInt.toNat ((sF (sF (sF sc123 46 2 z129) 46 3 (Int32.ofInt 3)) 46 5 y123_3).2.2.1 46 4).toInt.toNat ((sF (sF (sF sc123 46 2 z129) 46 3 (Int32.ofInt 3)) 46 5 y123_3).2.2.1 46 2).toInt.toNat ((sF (sF (sF sc123 46 2 z129) 46 3 (Int32.ofInt 3)) 46 5 y123_3).2.2.1 46 3).toInt ((sF (sF (sF sc123 46 2 z129) 46 3 (Int32.ofInt 3)) 46 5 y123_3).2.2.1 46 5).toInt := by have hz := zix_0 p162x13a; rw [← (show z129 = (sF (sF (sF sc123 46 2 z129) 46 3 (Int32.ofInt 3)) 46 5 y123_3).2.2.1 46 2 from sF_ne rfl (sF_ne rfl (sF_get))), ← (show w123_46_4 = (sF (sF (sF sc123 46 2 z129) 46 3 (Int32.ofInt 3)) 46 5 y123_3).2.2.1 46 4 from sF_ne rfl (sF_ne rfl (sF_ne rfl (v123_46_4)))), ← (show (Int32.ofInt 3) = (sF (sF (sF sc123 46 2 z129) 46 3 (Int32.ofInt 3)) 46 5 y123_3).2.2.1 46 3 from sF_ne rfl (sF_get)), ← (show y123_3 = (sF (sF (sF sc123 46 2 z129) 46 3 (Int32.ofInt 3)) 46 5 y123_3).2.2.1 46 5 from sF_get)]; first | exact pkn_3 g123_0 (by rw [← e_46_1]; have a0 := oa9 h2 h1 ro_46_1 ((inv_F hIc123 0 1000 rfl v123_46_4)) ((inv_F hIc123 0 1000 rfl v123_46_2)) j123_4 i142 ((in_c 3 rfl)) i130; have a9 := t_add e129 (inv_F hIc123 0 1000 rfl v123_46_2) (in_c 1 rfl) rfl; have a10 := in_u ((in_c 1 rfl)); have oc := ocj_171_46; omega) (by rw [← g123_1.1]; unfold pgS; have hz1 := hz.1 (by have a0 := oa9 h2 h1 ro_46_1 ((inv_F hIc123 0 1000 rfl v123_46_4)) ((inv_F hIc123 0 1000 rfl v123_46_2)) j123_4 i142 ((in_c 3 rfl)) i130; have a9 := t_add e129 (inv_F hIc123 0 1000 rfl v123_46_2) (in_c 1 rfl) rfl; have a10 := in_u ((in_c 1 rfl)); have oc := ocj_171_46; omega); omega) (by have a0 := oa9 h2 h1 ro_46_1 ((inv_F hIc123 0 1000 rfl v123_46_4)) ((inv_F hIc123 0 1000 rfl v123_46_2)) j123_4 i142 ((in_c 3 rfl)) i130; have a9 := t_add e129 (inv_F hIc123 0 1000 rfl v123_46_2) (in_c 1 rfl) rfl; have a10 := in_u ((in_c 1 rfl)); have oc := ocj_171_46; omega) (by decide) (by rw [← g123_1.1]) | exact pkn_4 g123_0 (by rw [← e_46_1]; have a0 := oa9 h2 h1 ro_46_1 ((inv_F hIc123 0 1000 rfl v123_46_4)) ((inv_F hIc123 0 1000 rfl v123_46_2)) j123_4 i142 ((in_c 3 rfl)) i130; have a9 := t_add e129 (inv_F hIc123 0 1000 rfl v123_46_2) (in_c 1 rfl) rfl; have a10 := in_u ((in_c 1 rfl)); have oc := ocj_171_46; omega) (by rw [← g123_1.1]; unfold tkL; have a0 := oa9 h2 h1 ro_46_1 ((inv_F hIc123 0 1000 rfl v123_46_4)) ((inv_F hIc123 0 1000 rfl v123_46_2)) j123_4 i142 ((in_c 3 rfl)) i130; have a9 := t_add e129 (inv_F hIc123 0 1000 rfl v123_46_2) (in_c 1 rfl) rfl; have a10 := in_u ((in_c 1 rfl)); have oc := ocj_171_46; omega) (by rw [← g123_1.1]; exact g123_1.2) (by rw [← g123_1.1]; unfold pgS; have hz1 := hz.2 (by have a0 := oa9 h2 h1 ro_46_1 ((inv_F hIc123 0 1000 rfl v123_46_4)) ((inv_F hIc123 0 1000 rfl v123_46_2)) j123_4 i142 ((in_c 3 rfl)) i130; have a9 := t_add e129 (inv_F hIc123 0 1000 rfl v123_46_2) (in_c 1 rfl) rfl; have a10 := in_u ((in_c 1 rfl)); have oc := ocj_171_46; omega); have a0 := oa9 h2 h1 ro_46_1 ((inv_F hIc123 0 1000 rfl v123_46_4)) ((inv_F hIc123 0 1000 rfl v123_46_2)) j123_4 i142 ((in_c 3 rfl)) i130; have a9 := t_add e129 (inv_F hIc123 0 1000 rfl v123_46_2) (in_c 1 rfl) rfl; have a10 := in_u ((in_c 1 rfl)); have oc := ocj_171_46; omega) (by have a0 := oa9 h2 h1 ro_46_1 ((inv_F hIc123 0 1000 rfl v123_46_4)) ((inv_F hIc123 0 1000 rfl v123_46_2)) j123_4 i142 ((in_c 3 rfl)) i130; have a9 := t_add e129 (inv_F hIc123 0 1000 rfl v123_46_2) (in_c 1 rfl) rfl; have a10 := in_u ((in_c 1 rfl)); have oc := ocj_171_46; omega) (by decide)
                have n181c : (z129).toInt ≤ (u_46_1).toInt := by have a0 := oa9 h2 h1 ro_46_1 ((inv_F hIc123 0 1000 rfl v123_46_4)) ((inv_F hIc123 0 1000 rfl v123_46_2)) j123_4 i142 ((in_c 3 rfl)) i130; have a9 := t_add e129 (inv_F hIc123 0 1000 rfl v123_46_2) (in_c 1 rfl) rfl; have a10 := in_u ((in_c 1 rfl)); have oc := ocj_171_46; omega
                have n181d : ((sF (sF (sF sc123 46 2 z129) 46 3 (Int32.ofInt 3)) 46 5 y123_3).2.2.1 46 2).toInt ≤ ((sF (sF (sF sc123 46 2 z129) 46 3 (Int32.ofInt 3)) 46 5 y123_3).2.2.1 46 1).toInt := by have b0 : z129 = (sF (sF (sF sc123 46 2 z129) 46 3 (Int32.ofInt 3)) 46 5 y123_3).2.2.1 46 2 := sF_ne rfl (sF_ne rfl (sF_get)); have b1 : u_46_1 = (sF (sF (sF sc123 46 2 z129) 46 3 (Int32.ofInt 3)) 46 5 y123_3).2.2.1 46 1 := sF_ne rfl (sF_ne rfl (sF_ne rfl (fr_F e_46_1 hFc123 rfl))); rw [← b0, ← b1]; exact n181c
                have n181e : (w123_46_4).toInt ≤ (z129).toInt := by have a0 := oa9 h2 h1 ro_46_1 ((inv_F hIc123 0 1000 rfl v123_46_4)) ((inv_F hIc123 0 1000 rfl v123_46_2)) j123_4 i142 ((in_c 3 rfl)) i130; have a9 := t_add e129 (inv_F hIc123 0 1000 rfl v123_46_2) (in_c 1 rfl) rfl; have a10 := in_u ((in_c 1 rfl)); have oc := ocj_171_46; omega
                have n181f : ((sF (sF (sF sc123 46 2 z129) 46 3 (Int32.ofInt 3)) 46 5 y123_3).2.2.1 46 4).toInt ≤ ((sF (sF (sF sc123 46 2 z129) 46 3 (Int32.ofInt 3)) 46 5 y123_3).2.2.1 46 2).toInt := by have b0 : w123_46_4 = (sF (sF (sF sc123 46 2 z129) 46 3 (Int32.ofInt 3)) 46 5 y123_3).2.2.1 46 4 := sF_ne rfl (sF_ne rfl (sF_ne rfl (v123_46_4))); have b1 : z129 = (sF (sF (sF sc123 46 2 z129) 46 3 (Int32.ofInt 3)) 46 5 y123_3).2.2.1 46 2 := sF_ne rfl (sF_ne rfl (sF_get)); rw [← b0, ← b1]; exact n181e
                have n181g : (u_46_2).toInt ≤ (w123_46_4).toInt := by have a0 := oa9 h2 h1 ro_46_1 ((inv_F hIc123 0 1000 rfl v123_46_4)) ((inv_F hIc123 0 1000 rfl v123_46_2)) j123_4 i142 ((in_c 3 rfl)) i130; have a9 := t_add e129 (inv_F hIc123 0 1000 rfl v123_46_2) (in_c 1 rfl) rfl; have a10 := in_u ((in_c 1 rfl)); have oc := ocj_171_46; omega
                have n181h : (s.2.2.1 46 2).toInt ≤ ((sF (sF (sF sc123 46 2 z129) 46 3 (Int32.ofInt 3)) 46 5 y123_3).2.2.1 46 4).toInt := by have b0 : w123_46_4 = (sF (sF (sF sc123 46 2 z129) 46 3 (Int32.ofInt 3)) 46 5 y123_3).2.2.1 46 4 := sF_ne rfl (sF_ne rfl (sF_ne rfl (v123_46_4))); rw [← b0, ← e_46_2]; exact n181g
                exact g_return (gd rfl) rfl (hP _ _ ⟨(sF (sF (sF sc123 46 2 z129) 46 3 (Int32.ofInt 3)) 46 5 y123_3), hI178, (fr_sF rfl (fr_sF rfl (fr_sF rfl hFc123))), n181d, n181f, n181h, rfl, rfl, n181, n181a, n181b⟩)
      · skip
        have i142 := r_le1 97 122 c142 i136 (in_c 122 rfl) rfl
        refine g_aload_n 146 (gd rfl) rfl rfl ?_
        refine g_iconst 1 147 (gd rfl) rfl rfl ?_
        refine g_putI 150 (gd rfl) rfl rfl rfl rfl ?_
        have hI147 := inv_sF (q := 46) (j := 3) hI130 rfl (in_w 0 5 (in_c 1 rfl) rfl)
        refine g_aload_n 151 (gd rfl) rfl rfl ?_
        refine g_iload_n 152 (gd rfl) rfl rfl ?_
        refine g_bipush 97 154 (gd rfl) rfl rfl ?_
        refine g_isub 155 (gd rfl) rfl (fun z154 e154 => ?_)
        have i154 := in_sub 0 25 e154 i142 (in_c 97 rfl) rfl rfl
        refine g_putI 158 (gd rfl) rfl rfl rfl rfl ?_
        have hI155 := inv_sF (q := 46) (j := 5) hI147 rfl (in_w (-2147483648) 2147483647 i154 rfl)
        have n158 : (x1).toInt = 6 → TK (sF (sF (sF sc123 46 2 z129) 46 3 (Int32.ofInt 1)) 46 5 z154) := by intro h6; exact ⟨(Or.inr (by rw [← (show w123_46_4 = (sF (sF (sF sc123 46 2 z129) 46 3 (Int32.ofInt 1)) 46 5 z154).2.2.1 46 4 from sF_ne rfl (sF_ne rfl (sF_ne rfl (v123_46_4)))), ← (show z129 = (sF (sF (sF sc123 46 2 z129) 46 3 (Int32.ofInt 1)) 46 5 z154).2.2.1 46 2 from sF_ne rfl (sF_ne rfl (sF_get)))]; have a0 := h2; unfold In at a0; have a1 := oa7 h1 ro_46_1 ((inv_F hIc123 0 1000 rfl v123_46_4)) ((inv_F hIc123 0 1000 rfl v123_46_2)) j123_4 i142 i154; have a8 := t_sub e154 i142 (in_c 97 rfl) rfl; have a9 := oa3 ((in_c 97 rfl)) ((in_c 1 rfl)) i130; have a12 := t_add e129 (inv_F hIc123 0 1000 rfl v123_46_2) (in_c 1 rfl) rfl; have oc := ocj_171_46; omega)), (fun h2 => absurd h2 (by rw [← (show (Int32.ofInt 1) = (sF (sF (sF sc123 46 2 z129) 46 3 (Int32.ofInt 1)) 46 5 z154).2.2.1 46 3 from sF_ne rfl (sF_get))]; decide))⟩
        have n158a : ((sF (sF (sF sc123 46 2 z129) 46 3 (Int32.ofInt 1)) 46 5 z154).2.2.1 46 3).toInt = 1 → In ((sF (sF (sF sc123 46 2 z129) 46 3 (Int32.ofInt 1)) 46 5 z154).2.2.1 46 5) 0 25 := by intro _; rw [← (show z154 = (sF (sF (sF sc123 46 2 z129) 46 3 (Int32.ofInt 1)) 46 5 z154).2.2.1 46 5 from sF_get)]; exact ⟨by have a0 := oa8 h2 h1 ro_46_1 ((inv_F hIc123 0 1000 rfl v123_46_4)) ((inv_F hIc123 0 1000 rfl v123_46_2)) j123_4 i142 i154; have a8 := t_sub e154 i142 (in_c 97 rfl) rfl; have a9 := oa3 ((in_c 97 rfl)) ((in_c 1 rfl)) i130; have a12 := t_add e129 (inv_F hIc123 0 1000 rfl v123_46_2) (in_c 1 rfl) rfl; have oc := ocj_171_46; omega, by have a0 := oa8 h2 h1 ro_46_1 ((inv_F hIc123 0 1000 rfl v123_46_4)) ((inv_F hIc123 0 1000 rfl v123_46_2)) j123_4 i142 i154; have a8 := t_sub e154 i142 (in_c 97 rfl) rfl; have a9 := oa3 ((in_c 97 rfl)) ((in_c 1 rfl)) i130; have a12 := t_add e129 (inv_F hIc123 0 1000 rfl v123_46_2) (in_c 1 rfl) rfl; have oc := ocj_171_46; omega⟩
        have n158b : PKN (s.1 47) (s.2.2.1 46 1).toInt.toNat (s.2.2.1 46 2).toInt.toNat ((sF (sF (sF sc123 46 2 z129) 46 3 (Int32.ofInt 1)) 46 5 z154).2.2.1 46 4).toInt.toNat ((sF (sF (sF sc123 46 2 z129) 46 3 (Int32.ofInt 1)) 46 5 z154).2.2.1 46 2).toInt.toNat ((sF (sF (sF sc123 46 2 z129) 46 3 (Int32.ofInt 1)) 46 5 z154).2.2.1 46 3).toInt ((sF (sF (sF sc123 46 2 z129) 46 3 (Int32.ofInt 1)) 46 5 z154).2.2.1 46 5).toInt := by rw [← (show z129 = (sF (sF (sF sc123 46 2 z129) 46 3 (Int32.ofInt 1)) 46 5 z154).2.2.1 46 2 from sF_ne rfl (sF_ne rfl (sF_get))), ← (show w123_46_4 = (sF (sF (sF sc123 46 2 z129) 46 3 (Int32.ofInt 1)) 46 5 z154).2.2.1 46 4 from sF_ne rfl (sF_ne rfl (sF_ne rfl (v123_46_4)))), ← (show (Int32.ofInt 1) = (sF (sF (sF sc123 46 2 z129) 46 3 (Int32.ofInt 1)) 46 5 z154).2.2.1 46 3 from sF_ne rfl (sF_get)), ← (show z154 = (sF (sF (sF sc123 46 2 z129) 46 3 (Int32.ofInt 1)) 46 5 z154).2.2.1 46 5 from sF_get)]; exact pkn_1 g123_0 (by rw [← e_46_1]; have a0 := oa8 h2 h1 ro_46_1 ((inv_F hIc123 0 1000 rfl v123_46_4)) ((inv_F hIc123 0 1000 rfl v123_46_2)) j123_4 i142 i154; have a8 := t_sub e154 i142 (in_c 97 rfl) rfl; have a9 := oa3 ((in_c 97 rfl)) ((in_c 1 rfl)) i130; have a12 := t_add e129 (inv_F hIc123 0 1000 rfl v123_46_2) (in_c 1 rfl) rfl; have oc := ocj_171_46; omega) (by rw [← g123_1.1]; exact ⟨by have a0 := oa8 h2 h1 ro_46_1 ((inv_F hIc123 0 1000 rfl v123_46_4)) ((inv_F hIc123 0 1000 rfl v123_46_2)) j123_4 i142 i154; have a8 := t_sub e154 i142 (in_c 97 rfl) rfl; have a9 := oa3 ((in_c 97 rfl)) ((in_c 1 rfl)) i130; have a12 := t_add e129 (inv_F hIc123 0 1000 rfl v123_46_2) (in_c 1 rfl) rfl; have oc := ocj_171_46; omega, by have a0 := oa8 h2 h1 ro_46_1 ((inv_F hIc123 0 1000 rfl v123_46_4)) ((inv_F hIc123 0 1000 rfl v123_46_2)) j123_4 i142 i154; have a8 := t_sub e154 i142 (in_c 97 rfl) rfl; have a9 := oa3 ((in_c 97 rfl)) ((in_c 1 rfl)) i130; have a12 := t_add e129 (inv_F hIc123 0 1000 rfl v123_46_2) (in_c 1 rfl) rfl; have oc := ocj_171_46; omega⟩) (by have a0 := oa8 h2 h1 ro_46_1 ((inv_F hIc123 0 1000 rfl v123_46_4)) ((inv_F hIc123 0 1000 rfl v123_46_2)) j123_4 i142 i154; have a8 := t_sub e154 i142 (in_c 97 rfl) rfl; have a9 := oa3 ((in_c 97 rfl)) ((in_c 1 rfl)) i130; have a12 := t_add e129 (inv_F hIc123 0 1000 rfl v123_46_2) (in_c 1 rfl) rfl; have oc := ocj_171_46; omega) (by decide) (by rw [← g123_1.1]; have a0 := oa8 h2 h1 ro_46_1 ((inv_F hIc123 0 1000 rfl v123_46_4)) ((inv_F hIc123 0 1000 rfl v123_46_2)) j123_4 i142 i154; have a8 := t_sub e154 i142 (in_c 97 rfl) rfl; have a9 := oa3 ((in_c 97 rfl)) ((in_c 1 rfl)) i130; have a12 := t_add e129 (inv_F hIc123 0 1000 rfl v123_46_2) (in_c 1 rfl) rfl; have oc := ocj_171_46; omega)
        have n158c : (z129).toInt ≤ (u_46_1).toInt := by have a0 := oa8 h2 h1 ro_46_1 ((inv_F hIc123 0 1000 rfl v123_46_4)) ((inv_F hIc123 0 1000 rfl v123_46_2)) j123_4 i142 i154; have a8 := t_sub e154 i142 (in_c 97 rfl) rfl; have a9 := oa3 ((in_c 97 rfl)) ((in_c 1 rfl)) i130; have a12 := t_add e129 (inv_F hIc123 0 1000 rfl v123_46_2) (in_c 1 rfl) rfl; have oc := ocj_171_46; omega
        have n158d : ((sF (sF (sF sc123 46 2 z129) 46 3 (Int32.ofInt 1)) 46 5 z154).2.2.1 46 2).toInt ≤ ((sF (sF (sF sc123 46 2 z129) 46 3 (Int32.ofInt 1)) 46 5 z154).2.2.1 46 1).toInt := by have b0 : z129 = (sF (sF (sF sc123 46 2 z129) 46 3 (Int32.ofInt 1)) 46 5 z154).2.2.1 46 2 := sF_ne rfl (sF_ne rfl (sF_get)); have b1 : u_46_1 = (sF (sF (sF sc123 46 2 z129) 46 3 (Int32.ofInt 1)) 46 5 z154).2.2.1 46 1 := sF_ne rfl (sF_ne rfl (sF_ne rfl (fr_F e_46_1 hFc123 rfl))); rw [← b0, ← b1]; exact n158c
        have n158e : (w123_46_4).toInt ≤ (z129).toInt := by have a0 := oa8 h2 h1 ro_46_1 ((inv_F hIc123 0 1000 rfl v123_46_4)) ((inv_F hIc123 0 1000 rfl v123_46_2)) j123_4 i142 i154; have a8 := t_sub e154 i142 (in_c 97 rfl) rfl; have a9 := oa3 ((in_c 97 rfl)) ((in_c 1 rfl)) i130; have a12 := t_add e129 (inv_F hIc123 0 1000 rfl v123_46_2) (in_c 1 rfl) rfl; have oc := ocj_171_46; omega
        have n158f : ((sF (sF (sF sc123 46 2 z129) 46 3 (Int32.ofInt 1)) 46 5 z154).2.2.1 46 4).toInt ≤ ((sF (sF (sF sc123 46 2 z129) 46 3 (Int32.ofInt 1)) 46 5 z154).2.2.1 46 2).toInt := by have b0 : w123_46_4 = (sF (sF (sF sc123 46 2 z129) 46 3 (Int32.ofInt 1)) 46 5 z154).2.2.1 46 4 := sF_ne rfl (sF_ne rfl (sF_ne rfl (v123_46_4))); have b1 : z129 = (sF (sF (sF sc123 46 2 z129) 46 3 (Int32.ofInt 1)) 46 5 z154).2.2.1 46 2 := sF_ne rfl (sF_ne rfl (sF_get)); rw [← b0, ← b1]; exact n158e
        have n158g : (u_46_2).toInt ≤ (w123_46_4).toInt := by have a0 := oa8 h2 h1 ro_46_1 ((inv_F hIc123 0 1000 rfl v123_46_4)) ((inv_F hIc123 0 1000 rfl v123_46_2)) j123_4 i142 i154; have a8 := t_sub e154 i142 (in_c 97 rfl) rfl; have a9 := oa3 ((in_c 97 rfl)) ((in_c 1 rfl)) i130; have a12 := t_add e129 (inv_F hIc123 0 1000 rfl v123_46_2) (in_c 1 rfl) rfl; have oc := ocj_171_46; omega
        have n158h : (s.2.2.1 46 2).toInt ≤ ((sF (sF (sF sc123 46 2 z129) 46 3 (Int32.ofInt 1)) 46 5 z154).2.2.1 46 4).toInt := by have b0 : w123_46_4 = (sF (sF (sF sc123 46 2 z129) 46 3 (Int32.ofInt 1)) 46 5 z154).2.2.1 46 4 := sF_ne rfl (sF_ne rfl (sF_ne rfl (v123_46_4))); rw [← b0, ← e_46_2]; exact n158g
        exact g_return (gd rfl) rfl (hP _ _ ⟨(sF (sF (sF sc123 46 2 z129) 46 3 (Int32.ofInt 1)) 46 5 z154), hI155, (fr_sF rfl (fr_sF rfl (fr_sF rfl hFc123))), n158d, n158f, n158h, rfl, rfl, n158, n158a, n158b⟩)
  have ct38 : ∀ (sc38 : GS) (w38_46_2 : Int32), Inv sc38 → Fr fm_171_46 s sc38 → (w38_46_2 = sc38.2.2.1 46 2) → ((w38_46_2).toInt ≤ (u_46_1).toInt) → ((u_46_2).toInt ≤ (w38_46_2).toInt) → (tkS (s.1 47) (s.2.2.1 46 1).toInt.toNat (s.2.2.1 46 2).toInt.toNat (w38_46_2).toInt.toNat) → GG Z (d - 1) 171 post (gx xp) (1802) 38 (fun j => xlook j [(0, .ref (A 46)), (1, .int x1), (2, .int x2)]) [] (WW Z A sc38 ++ ex) 0 0 := by
    intro sc38 w38_46_2 hIc38 hFc38 v38_46_2 n38_0 n38_1 g38_0
    refine g_aload_n 39 (gd rfl) rfl rfl ?_
    refine g_aload_n 40 (gd rfl) rfl rfl ?_
    refine g_getI 43 (gd rfl) rfl rfl rfl (fun z40 e40 => ?_)
    have q40 : w38_46_2 = z40 := (v38_46_2).trans e40.symm
    subst q40
    refine g_putI 46 (gd rfl) rfl rfl rfl rfl ?_
    have hI43 := inv_sF (q := 46) (j := 4) hIc38 rfl (in_w 0 1000 (inv_F hIc38 0 1000 rfl v38_46_2) rfl)
    refine g_aload_n 47 (gd rfl) rfl rfl ?_
    refine g_iconst 0 48 (gd rfl) rfl rfl ?_
    refine g_putI 51 (gd rfl) rfl rfl rfl rfl ?_
    have hI48 := inv_sF (q := 46) (j := 3) hI43 rfl (in_w 0 5 (in_c 0 rfl) rfl)
    refine g_aload_n 52 (gd rfl) rfl rfl ?_
    refine g_getI 55 (gd rfl) rfl rfl rfl (fun z52 e52 => ?_)
    have q52 : w38_46_2 = z52 := (sF_ne rfl (sF_ne rfl (v38_46_2))).trans e52.symm
    subst q52
    refine g_aload_n 56 (gd rfl) rfl rfl ?_
    refine g_getI 59 (gd rfl) rfl rfl rfl (fun z56 e56 => ?_)
    have q56 : u_46_1 = z56 := (sF_ne rfl (sF_ne rfl (fr_F e_46_1 hFc38 rfl))).trans e56.symm
    subst q56
    refine g_cmp_lt 62 63 (gd rfl) rfl rfl (fun c59 => ?_) (fun c59 => ?_)
    · skip
      have i59 := r_lt1 0 999 c59 (inv_F hIc38 0 1000 rfl v38_46_2) ro_46_1 rfl
      have i59a := r_lt2 1 1000 c59 (inv_F hIc38 0 1000 rfl v38_46_2) ro_46_1 rfl
      refine g_aload_n 64 (gd rfl) rfl rfl ?_
      refine g_getA (q2 := 47) 67 (gd rfl) rfl rfl rfl rfl ?_
      refine g_aload_n 68 (gd rfl) rfl rfl ?_
      refine g_getI 71 (gd rfl) rfl rfl rfl (fun z68 e68 => ?_)
      have q68 : w38_46_2 = z68 := (sF_ne rfl (sF_ne rfl (v38_46_2))).trans e68.symm
      subst q68
      refine g_caload 72 (gd rfl) rfl (n := 1000) rfl (in_ix i59 rfl) (fun z71 e71 => ?_)
      have i71 := inv_I hI48 (n := 1000) (t := 2) 0 65535 rfl (in_ix i59 rfl) rfl e71
      refine g_istore_n 73 (gd rfl) rfl (Nat.le_of_ble_eq_true rfl) ?_
      refine g_iload_n 74 (gd rfl) rfl rfl ?_
      refine g_if_eq 77 87 (gd rfl) rfl rfl (fun c74 => ?_) (fun c74 => ?_)
      · skip
        refine g_iconst 0 88 (gd rfl) rfl rfl ?_
        refine g_istore 90 (gd rfl) rfl (Nat.le_of_ble_eq_true rfl) ?_
        refine g_aload_n 91 (gd rfl) rfl rfl ?_
        refine g_iload 93 (gd rfl) rfl rfl ?_
        refine g_if_eq 96 105 (gd rfl) rfl rfl (fun c93 => ?_) (fun c93 => ?_)
        · skip
          refine g_aload_n 106 (gd rfl) rfl rfl ?_
          refine g_getI 109 (gd rfl) rfl rfl rfl (fun z106 e106 => ?_)
          have q106 : w38_46_2 = z106 := (sF_ne rfl (sF_ne rfl (v38_46_2))).trans e106.symm
          subst q106
          refine g_callv (X := _) (As := [.int w38_46_2]) (r := []) (b := A 46) (q := 46) 112 (gd rfl) rfl rfl rfl rfl rfl (ww_o rfl) (Nat.le_of_ble_eq_true rfl) (mc := 0) (ms := 0) (Nat.zero_le _) (Nat.zero_le _) (P := fun v u => _) ?_ (fun e u h => h) (fun v u h => h)
          intro po109 xx109 hp109 hx109
          refine g_enter2 (k := 172) (N := 300) (by first | exact dq1 hd rfl | exact dq0 hd rfl | exact dq2 hd rfl | exact dq3 hd rfl | omega) rfl (Nat.le_of_ble_eq_true rfl) ?_
          refine g_iload_n 1 (gd rfl) rfl rfl ?_
          refine g_aload_n 2 (gd rfl) rfl rfl ?_
          refine g_getI 5 (gd rfl) rfl rfl rfl (fun z109x2 e109x2 => ?_)
          have q109x2 : u_46_1 = z109x2 := (sF_ne rfl (sF_ne rfl (fr_F e_46_1 hFc38 rfl))).trans e109x2.symm
          subst q109x2
          refine g_cmp_ge 8 34 (gd rfl) rfl rfl (fun c109x5 => ?_) (fun c109x5 => ?_)
          · skip
            have i109x5 := r_le1 1 999 c109x5 i59a i59 rfl
            have i109x5a := r_le2 1 999 c109x5 i59a i59 rfl
            refine g_iconst 0 35 (gd rfl) rfl rfl ?_
            refine g_ireturn (gd rfl) rfl (nb01 (in_w 0 1 (in_c 0 rfl) rfl)) (hp109 _ _ ?_)
            show GG _ _ _ _ _ _ _ _ [.int (Int32.ofInt 0)] _ _ _
            refine g_if_eq 115 123 (gd rfl) rfl rfl (fun c112 => ?_) (fun c112 => ?_)
            · skip
              have v123 : w38_46_2 = (sF (sF sc38 46 4 w38_46_2) 46 3 (Int32.ofInt 0)).2.2.1 46 2 := sF_ne rfl (sF_ne rfl (v38_46_2))
              have v123a : w38_46_2 = (sF (sF sc38 46 4 w38_46_2) 46 3 (Int32.ofInt 0)).2.2.1 46 4 := sF_ne rfl (sF_get)
              have n123 : (w38_46_2).toInt + 1 ≤ (u_46_1).toInt := by have a0 := oa6 h2 h1 i109x5 i109x5a ((in_c 0 rfl)) i71; have oc := ocj_171_46; omega
              have n123a : (w38_46_2).toInt = (w38_46_2).toInt := by have a0 := oa6 h2 h1 i109x5 i109x5a ((in_c 0 rfl)) i71; have oc := ocj_171_46; omega
              have n123b : (u_46_2).toInt ≤ (w38_46_2).toInt := by first | exact n38_1 | (have a0 := oa6 h2 h1 i109x5 i109x5a ((in_c 0 rfl)) i71; have oc := ocj_171_46; omega)
              have n123c : tkS (s.1 47) (s.2.2.1 46 1).toInt.toNat (s.2.2.1 46 2).toInt.toNat (w38_46_2).toInt.toNat := by exact g38_0
              have n123d : (z71) = s.1 47 (w38_46_2).toInt.toNat ∧ ¬ tkD (z71) := by refine ⟨(e71.trans (congrFun (hFc38.1 47 rfl) _)), ?_⟩; unfold tkD; have a0 := oa6 h2 h1 i109x5 i109x5a ((in_c 0 rfl)) i71; have oc := ocj_171_46; omega
              exact gg_w (by first | exact Nat.le_of_ble_eq_true rfl | omega) (gg_f (gf_cons rfl (gf_cons rfl (gf_cons rfl (gf_cons rfl (gf_cons rfl gf_nil))))) (ct123 (sF (sF sc38 46 4 w38_46_2) 46 3 (Int32.ofInt 0)) z71 (Int32.ofInt 0) w38_46_2 w38_46_2 hI48 (fr_sF rfl (fr_sF rfl hFc38)) (in_w 0 65535 i71 rfl) (in_w 0 0 (in_c 0 rfl) rfl) v123 v123a n123 n123a n123b n123c n123d))
            · skip
              exact zn_ne c112 (in_c 0 rfl) rfl
          · skip
            refine g_aload_n 9 (gd rfl) rfl rfl ?_
            refine g_getA (q2 := 47) 12 (gd rfl) rfl rfl rfl rfl ?_
            refine g_iload_n 13 (gd rfl) rfl rfl ?_
            refine g_caload 14 (gd rfl) rfl (n := 1000) rfl (in_ix i59 rfl) (fun z109x13 e109x13 => ?_)
            have q109x13 : z71 = z109x13 := (e71).trans e109x13.symm
            subst q109x13
            refine g_bipush 48 16 (gd rfl) rfl rfl ?_
            refine g_cmp_lt 19 34 (gd rfl) rfl rfl (fun c109x16 => ?_) (fun c109x16 => ?_)
            · skip
              have i109x16 := r_lt1 0 47 c109x16 i71 (in_c 48 rfl) rfl
              refine g_iconst 0 35 (gd rfl) rfl rfl ?_
              refine g_ireturn (gd rfl) rfl (nb01 (in_w 0 1 (in_c 0 rfl) rfl)) (hp109 _ _ ?_)
              show GG _ _ _ _ _ _ _ _ [.int (Int32.ofInt 0)] _ _ _
              refine g_if_eq 115 123 (gd rfl) rfl rfl (fun c112 => ?_) (fun c112 => ?_)
              · skip
                have v123 : w38_46_2 = (sF (sF sc38 46 4 w38_46_2) 46 3 (Int32.ofInt 0)).2.2.1 46 2 := sF_ne rfl (sF_ne rfl (v38_46_2))
                have v123a : w38_46_2 = (sF (sF sc38 46 4 w38_46_2) 46 3 (Int32.ofInt 0)).2.2.1 46 4 := sF_ne rfl (sF_get)
                have n123 : (w38_46_2).toInt + 1 ≤ (u_46_1).toInt := by have a0 := oa6 h2 h1 i59a i59 ((in_c 0 rfl)) i109x16; have oc := ocj_171_46; omega
                have n123a : (w38_46_2).toInt = (w38_46_2).toInt := by have a0 := oa6 h2 h1 i59a i59 ((in_c 0 rfl)) i109x16; have oc := ocj_171_46; omega
                have n123b : (u_46_2).toInt ≤ (w38_46_2).toInt := by first | exact n38_1 | (have a0 := oa6 h2 h1 i59a i59 ((in_c 0 rfl)) i109x16; have oc := ocj_171_46; omega)
                have n123c : tkS (s.1 47) (s.2.2.1 46 1).toInt.toNat (s.2.2.1 46 2).toInt.toNat (w38_46_2).toInt.toNat := by exact g38_0
                have n123d : (z71) = s.1 47 (w38_46_2).toInt.toNat ∧ ¬ tkD (z71) := by refine ⟨(e71.trans (congrFun (hFc38.1 47 rfl) _)), ?_⟩; unfold tkD; have a0 := oa6 h2 h1 i59a i59 ((in_c 0 rfl)) i109x16; have oc := ocj_171_46; omega
                exact gg_w (by first | exact Nat.le_of_ble_eq_true rfl | omega) (gg_f (gf_cons rfl (gf_cons rfl (gf_cons rfl (gf_cons rfl (gf_cons rfl gf_nil))))) (ct123 (sF (sF sc38 46 4 w38_46_2) 46 3 (Int32.ofInt 0)) z71 (Int32.ofInt 0) w38_46_2 w38_46_2 hI48 (fr_sF rfl (fr_sF rfl hFc38)) (in_w 0 65535 i109x16 rfl) (in_w 0 0 (in_c 0 rfl) rfl) v123 v123a n123 n123a n123b n123c n123d))
              · skip
                exact zn_ne c112 (in_c 0 rfl) rfl
            · skip
              have i109x16 := r_le2 48 65535 c109x16 (in_c 48 rfl) i71 rfl
              refine g_aload_n 20 (gd rfl) rfl rfl ?_
              refine g_getA (q2 := 47) 23 (gd rfl) rfl rfl rfl rfl ?_
              refine g_iload_n 24 (gd rfl) rfl rfl ?_
              refine g_caload 25 (gd rfl) rfl (n := 1000) rfl (in_ix i59 rfl) (fun z109x24 e109x24 => ?_)
              have q109x24 : z71 = z109x24 := (e71).trans e109x24.symm
              subst q109x24
              refine g_bipush 57 27 (gd rfl) rfl rfl ?_
              refine g_cmp_gt 30 34 (gd rfl) rfl rfl (fun c109x27 => ?_) (fun c109x27 => ?_)
              · skip
                have i109x27 := r_lt2 58 65535 c109x27 (in_c 57 rfl) i109x16 rfl
                refine g_iconst 0 35 (gd rfl) rfl rfl ?_
                refine g_ireturn (gd rfl) rfl (nb01 (in_w 0 1 (in_c 0 rfl) rfl)) (hp109 _ _ ?_)
                show GG _ _ _ _ _ _ _ _ [.int (Int32.ofInt 0)] _ _ _
                refine g_if_eq 115 123 (gd rfl) rfl rfl (fun c112 => ?_) (fun c112 => ?_)
                · skip
                  have v123 : w38_46_2 = (sF (sF sc38 46 4 w38_46_2) 46 3 (Int32.ofInt 0)).2.2.1 46 2 := sF_ne rfl (sF_ne rfl (v38_46_2))
                  have v123a : w38_46_2 = (sF (sF sc38 46 4 w38_46_2) 46 3 (Int32.ofInt 0)).2.2.1 46 4 := sF_ne rfl (sF_get)
                  have n123 : (w38_46_2).toInt + 1 ≤ (u_46_1).toInt := by have a0 := oa6 h2 h1 i59a i59 ((in_c 0 rfl)) i109x27; have oc := ocj_171_46; omega
                  have n123a : (w38_46_2).toInt = (w38_46_2).toInt := by have a0 := oa6 h2 h1 i59a i59 ((in_c 0 rfl)) i109x27; have oc := ocj_171_46; omega
                  have n123b : (u_46_2).toInt ≤ (w38_46_2).toInt := by first | exact n38_1 | (have a0 := oa6 h2 h1 i59a i59 ((in_c 0 rfl)) i109x27; have oc := ocj_171_46; omega)
                  have n123c : tkS (s.1 47) (s.2.2.1 46 1).toInt.toNat (s.2.2.1 46 2).toInt.toNat (w38_46_2).toInt.toNat := by exact g38_0
                  have n123d : (z71) = s.1 47 (w38_46_2).toInt.toNat ∧ ¬ tkD (z71) := by refine ⟨(e71.trans (congrFun (hFc38.1 47 rfl) _)), ?_⟩; unfold tkD; have a0 := oa6 h2 h1 i59a i59 ((in_c 0 rfl)) i109x27; have oc := ocj_171_46; omega
                  exact gg_w (by first | exact Nat.le_of_ble_eq_true rfl | omega) (gg_f (gf_cons rfl (gf_cons rfl (gf_cons rfl (gf_cons rfl (gf_cons rfl gf_nil))))) (ct123 (sF (sF sc38 46 4 w38_46_2) 46 3 (Int32.ofInt 0)) z71 (Int32.ofInt 0) w38_46_2 w38_46_2 hI48 (fr_sF rfl (fr_sF rfl hFc38)) (in_w 0 65535 i109x27 rfl) (in_w 0 0 (in_c 0 rfl) rfl) v123 v123a n123 n123a n123b n123c n123d))
                · skip
                  exact zn_ne c112 (in_c 0 rfl) rfl
              · skip
                have i109x27 := r_le1 48 57 c109x27 i109x16 (in_c 57 rfl) rfl
                refine g_iconst 1 31 (gd rfl) rfl rfl ?_
                refine g_goto 35 (gd rfl) rfl ?_
                refine g_ireturn (gd rfl) rfl (nb01 (in_w 0 1 (in_c 1 rfl) rfl)) (hp109 _ _ ?_)
                show GG _ _ _ _ _ _ _ _ [.int (Int32.ofInt 1)] _ _ _
                refine g_if_eq 115 123 (gd rfl) rfl rfl (fun c112 => ?_) (fun c112 => ?_)
                · skip
                  exact zn_eq c112 (in_c 1 rfl) rfl
                · skip
                  refine g_aload_n 116 (gd rfl) rfl rfl ?_
                  refine g_iload 118 (gd rfl) rfl rfl ?_
                  refine g_iload_n 119 (gd rfl) rfl rfl ?_
                  have hA9 : w38_46_2 = (sF (sF sc38 46 4 w38_46_2) 46 3 (Int32.ofInt 0)).2.2.1 46 2 := (show w38_46_2 = (sF (sF sc38 46 4 w38_46_2) 46 3 (Int32.ofInt 0)).2.2.1 46 2 from sF_ne rfl (sF_ne rfl (v38_46_2)))
                  have hL9 : u_46_1 = (sF (sF sc38 46 4 w38_46_2) 46 3 (Int32.ofInt 0)).2.2.1 46 1 := (show u_46_1 = (sF (sF sc38 46 4 w38_46_2) 46 3 (Int32.ofInt 0)).2.2.1 46 1 from sF_ne rfl (sF_ne rfl (fr_F e_46_1 hFc38 rfl)))
                  have hX9 : (sF (sF sc38 46 4 w38_46_2) 46 3 (Int32.ofInt 0)).1 47 = s.1 47 := hFc38.1 47 rfl
                  have v119 : w38_46_2 = (sF (sF sc38 46 4 w38_46_2) 46 3 (Int32.ofInt 0)).2.2.1 46 2 := sF_ne rfl (sF_ne rfl (v38_46_2))
                  have v119a : u_46_1 = (sF (sF sc38 46 4 w38_46_2) 46 3 (Int32.ofInt 0)).2.2.1 46 1 := sF_ne rfl (sF_ne rfl (fr_F e_46_1 hFc38 rfl))
                  have n119 : (w38_46_2).toInt + ((Int32.ofInt 0)).toInt + 1 ≤ (u_46_1).toInt := by have a0 := oa6 h2 h1 i59a i59 ((in_c 0 rfl)) i109x27; have oc := ocj_171_46; omega
                  have p119 : 48 ≤ ((sF (sF sc38 46 4 w38_46_2) 46 3 (Int32.ofInt 0)).1 47 (((sF (sF sc38 46 4 w38_46_2) 46 3 (Int32.ofInt 0)).2.2.1 46 2).toInt + ((Int32.ofInt 0)).toInt).toNat).toInt ∧ ((sF (sF sc38 46 4 w38_46_2) 46 3 (Int32.ofInt 0)).1 47 (((sF (sF sc38 46 4 w38_46_2) 46 3 (Int32.ofInt 0)).2.2.1 46 2).toInt + ((Int32.ofInt 0)).toInt).toNat).toInt ≤ 57 := by rw [show (((sF (sF sc38 46 4 w38_46_2) 46 3 (Int32.ofInt 0)).2.2.1 46 2).toInt + ((Int32.ofInt 0)).toInt).toNat = w38_46_2.toNatClampNeg from (by rw [← (show w38_46_2 = (sF (sF sc38 46 4 w38_46_2) 46 3 (Int32.ofInt 0)).2.2.1 46 2 from sF_ne rfl (sF_ne rfl (v38_46_2)))]; show _ = w38_46_2.toInt.toNat; have a0 := oa6 h2 h1 i59a i59 ((in_c 0 rfl)) i109x27; have oc := ocj_171_46; omega), show (sF (sF sc38 46 4 w38_46_2) 46 3 (Int32.ofInt 0)).1 47 w38_46_2.toNatClampNeg = z71 from e71.symm]; exact ⟨by have a0 := oa6 h2 h1 i59a i59 ((in_c 0 rfl)) i109x27; have oc := ocj_171_46; omega, by have a0 := oa6 h2 h1 i59a i59 ((in_c 0 rfl)) i109x27; have oc := ocj_171_46; omega⟩
                  refine g_callv (X := _) (As := [.int (Int32.ofInt 0), .int x1]) (r := []) (b := A 46) (q := 46) 122 (gd rfl) rfl rfl rfl rfl rfl (ww_o rfl) (Nat.le_of_ble_eq_true rfl) (Nat.zero_le _) (Nat.zero_le _) (j_173_46 (by omega) hI48 (in_w 0 0 (in_c 0 rfl) rfl) (in_w 6 6 h1 rfl) v119 v119a n119 p119) (fun e u h => h) (fun v u h => ?_)
                  obtain ⟨s119, hI119, hF119, n119a, n119b, rfl, rfl, p119a, p119b, p119c⟩ := h
                  obtain ⟨z119a, e119⟩ : ∃ w, w = s119.2.2.1 46 2 := ⟨_, rfl⟩
                  have i119a := inv_F hI119 0 1000 rfl e119
                  rw [← (show z119a = s119.2.2.1 46 2 from e119)] at n119a
                  rw [← (show u_46_1 = s119.2.2.1 46 1 from fr_F (s := (sF (sF sc38 46 4 w38_46_2) 46 3 (Int32.ofInt 0))) (sF_ne rfl (sF_ne rfl (fr_F e_46_1 hFc38 rfl))) hF119 rfl)] at n119a
                  rw [← (show w38_46_2 = (sF (sF sc38 46 4 w38_46_2) 46 3 (Int32.ofInt 0)).2.2.1 46 2 from sF_ne rfl (sF_ne rfl (v38_46_2)))] at n119b
                  rw [← (show z119a = s119.2.2.1 46 2 from e119)] at n119b
                  show GG _ _ _ _ _ _ _ _ [] _ _ _
                  have n122 : (x1).toInt = 6 → TK s119 := by intro h6; exact ⟨(Or.inr (by rw [← (show w38_46_2 = s119.2.2.1 46 4 from fr_F (s := (sF (sF sc38 46 4 w38_46_2) 46 3 (Int32.ofInt 0))) (sF_ne rfl (sF_get)) hF119 rfl), ← (show z119a = s119.2.2.1 46 2 from e119)]; have a0 := oa7 h2 h1 i59a i59 ((in_c 0 rfl)) i109x27 i119a; have oc := ocj_171_46; omega)), p119b (by have a0 := oa7 h2 h1 i59a i59 ((in_c 0 rfl)) i109x27 i119a; have oc := ocj_171_46; omega)⟩
                  have n122a : (s119.2.2.1 46 3).toInt = 1 → In (s119.2.2.1 46 5) 0 25 := by intro h1; exact absurd h1 p119a
                  have n122b : PKN (s.1 47) (s.2.2.1 46 1).toInt.toNat (s.2.2.1 46 2).toInt.toNat (s119.2.2.1 46 4).toInt.toNat (s119.2.2.1 46 2).toInt.toNat (s119.2.2.1 46 3).toInt (s119.2.2.1 46 5).toInt := by have hp := p119c; rw [hX9, ← hL9, ← hA9] at hp; rw [show (w38_46_2.toInt + (Int32.ofInt 0).toInt).toNat = w38_46_2.toInt.toNat from (by have c0 : (Int32.ofInt 0).toInt = 0 := rfl; have a0 := oa7 h2 h1 i59a i59 ((in_c 0 rfl)) i109x27 i119a; have oc := ocj_171_46; omega)] at hp; rw [← (show w38_46_2 = s119.2.2.1 46 4 from fr_F (s := (sF (sF sc38 46 4 w38_46_2) 46 3 (Int32.ofInt 0))) (sF_ne rfl (sF_get)) hF119 rfl)]; exact pkn_2 g38_0 (by rw [← e_46_1]; have a0 := oa7 h2 h1 i59a i59 ((in_c 0 rfl)) i109x27 i119a; have oc := ocj_171_46; omega) (by rw [show s.1 47 w38_46_2.toInt.toNat = z71 from (e71.trans (congrFun (hFc38.1 47 rfl) _)).symm]; exact ⟨by have a0 := oa7 h2 h1 i59a i59 ((in_c 0 rfl)) i109x27 i119a; have oc := ocj_171_46; omega, by have a0 := oa7 h2 h1 i59a i59 ((in_c 0 rfl)) i109x27 i119a; have oc := ocj_171_46; omega⟩) (by rw [← e_46_1]; exact hp)
                  have n122c : (z119a).toInt ≤ (u_46_1).toInt := by have a0 := oa7 h2 h1 i59a i59 ((in_c 0 rfl)) i109x27 i119a; have oc := ocj_171_46; omega
                  have n122d : (s119.2.2.1 46 2).toInt ≤ (s119.2.2.1 46 1).toInt := by have b0 : z119a = s119.2.2.1 46 2 := e119; have b1 : u_46_1 = s119.2.2.1 46 1 := fr_F (s := (sF (sF sc38 46 4 w38_46_2) 46 3 (Int32.ofInt 0))) (sF_ne rfl (sF_ne rfl (fr_F e_46_1 hFc38 rfl))) hF119 rfl; rw [← b0, ← b1]; exact n122c
                  have n122e : (w38_46_2).toInt ≤ (z119a).toInt := by have a0 := oa7 h2 h1 i59a i59 ((in_c 0 rfl)) i109x27 i119a; have oc := ocj_171_46; omega
                  have n122f : (s119.2.2.1 46 4).toInt ≤ (s119.2.2.1 46 2).toInt := by have b0 : w38_46_2 = s119.2.2.1 46 4 := fr_F (s := (sF (sF sc38 46 4 w38_46_2) 46 3 (Int32.ofInt 0))) (sF_ne rfl (sF_get)) hF119 rfl; have b1 : z119a = s119.2.2.1 46 2 := e119; rw [← b0, ← b1]; exact n122e
                  have n122g : (u_46_2).toInt ≤ (w38_46_2).toInt := by first | exact n38_1 | (have a0 := oa7 h2 h1 i59a i59 ((in_c 0 rfl)) i109x27 i119a; have oc := ocj_171_46; omega)
                  have n122h : (s.2.2.1 46 2).toInt ≤ (s119.2.2.1 46 4).toInt := by have b0 : w38_46_2 = s119.2.2.1 46 4 := fr_F (s := (sF (sF sc38 46 4 w38_46_2) 46 3 (Int32.ofInt 0))) (sF_ne rfl (sF_get)) hF119 rfl; rw [← b0, ← e_46_2]; exact n122g
                  exact g_return (gd rfl) rfl (hP _ _ ⟨s119, hI119, (fr_tr rfl (fr_sF rfl (fr_sF rfl hFc38)) hF119), n122d, n122f, n122h, rfl, rfl, n122, n122a, n122b⟩)
        · skip
          exact zn_ne c93 (in_c 0 rfl) rfl
      · skip
        exact zn_ne c74 h2 rfl
    · skip
      have n62 : (x1).toInt = 6 → TK (sF (sF sc38 46 4 w38_46_2) 46 3 (Int32.ofInt 0)) := by intro h6; exact ⟨Or.inl (by rw [← (show (Int32.ofInt 0) = (sF (sF sc38 46 4 w38_46_2) 46 3 (Int32.ofInt 0)).2.2.1 46 3 from sF_get)]; decide), (fun h2 => absurd h2 (by rw [← (show (Int32.ofInt 0) = (sF (sF sc38 46 4 w38_46_2) 46 3 (Int32.ofInt 0)).2.2.1 46 3 from sF_get)]; decide))⟩
      have n62a : ((sF (sF sc38 46 4 w38_46_2) 46 3 (Int32.ofInt 0)).2.2.1 46 3).toInt = 1 → In ((sF (sF sc38 46 4 w38_46_2) 46 3 (Int32.ofInt 0)).2.2.1 46 5) 0 25 := by intro h1; rw [← (show (Int32.ofInt 0) = (sF (sF sc38 46 4 w38_46_2) 46 3 (Int32.ofInt 0)).2.2.1 46 3 from sF_get)] at h1; exact absurd h1 (by decide)
      have n62b : PKN (s.1 47) (s.2.2.1 46 1).toInt.toNat (s.2.2.1 46 2).toInt.toNat ((sF (sF sc38 46 4 w38_46_2) 46 3 (Int32.ofInt 0)).2.2.1 46 4).toInt.toNat ((sF (sF sc38 46 4 w38_46_2) 46 3 (Int32.ofInt 0)).2.2.1 46 2).toInt.toNat ((sF (sF sc38 46 4 w38_46_2) 46 3 (Int32.ofInt 0)).2.2.1 46 3).toInt ((sF (sF sc38 46 4 w38_46_2) 46 3 (Int32.ofInt 0)).2.2.1 46 5).toInt := by rw [← (show w38_46_2 = (sF (sF sc38 46 4 w38_46_2) 46 3 (Int32.ofInt 0)).2.2.1 46 2 from sF_ne rfl (sF_ne rfl (v38_46_2))), ← (show w38_46_2 = (sF (sF sc38 46 4 w38_46_2) 46 3 (Int32.ofInt 0)).2.2.1 46 4 from sF_ne rfl (sF_get)), ← (show (Int32.ofInt 0) = (sF (sF sc38 46 4 w38_46_2) 46 3 (Int32.ofInt 0)).2.2.1 46 3 from sF_get)]; exact pkn_0 g38_0 (by rw [← e_46_1]; have a0 := oa5 h2 h1 ro_46_1 ((inv_F hIc38 0 1000 rfl v38_46_2)) ((in_c 0 rfl)); have oc := ocj_171_46; omega) (by have a0 := oa5 h2 h1 ro_46_1 ((inv_F hIc38 0 1000 rfl v38_46_2)) ((in_c 0 rfl)); have oc := ocj_171_46; omega) (by decide)
      have n62c : (w38_46_2).toInt ≤ (u_46_1).toInt := by first | exact n38_0 | (have a0 := oa5 h2 h1 ro_46_1 ((inv_F hIc38 0 1000 rfl v38_46_2)) ((in_c 0 rfl)); have oc := ocj_171_46; omega)
      have n62d : ((sF (sF sc38 46 4 w38_46_2) 46 3 (Int32.ofInt 0)).2.2.1 46 2).toInt ≤ ((sF (sF sc38 46 4 w38_46_2) 46 3 (Int32.ofInt 0)).2.2.1 46 1).toInt := by have b0 : w38_46_2 = (sF (sF sc38 46 4 w38_46_2) 46 3 (Int32.ofInt 0)).2.2.1 46 2 := sF_ne rfl (sF_ne rfl (v38_46_2)); have b1 : u_46_1 = (sF (sF sc38 46 4 w38_46_2) 46 3 (Int32.ofInt 0)).2.2.1 46 1 := sF_ne rfl (sF_ne rfl (fr_F e_46_1 hFc38 rfl)); rw [← b0, ← b1]; exact n62c
      have n62e : (w38_46_2).toInt ≤ (w38_46_2).toInt := by exact Int.le_refl _
      have n62f : ((sF (sF sc38 46 4 w38_46_2) 46 3 (Int32.ofInt 0)).2.2.1 46 4).toInt ≤ ((sF (sF sc38 46 4 w38_46_2) 46 3 (Int32.ofInt 0)).2.2.1 46 2).toInt := by have b0 : w38_46_2 = (sF (sF sc38 46 4 w38_46_2) 46 3 (Int32.ofInt 0)).2.2.1 46 4 := sF_ne rfl (sF_get); have b1 : w38_46_2 = (sF (sF sc38 46 4 w38_46_2) 46 3 (Int32.ofInt 0)).2.2.1 46 2 := sF_ne rfl (sF_ne rfl (v38_46_2)); rw [← b0, ← b1]; exact n62e
      have n62g : (u_46_2).toInt ≤ (w38_46_2).toInt := by first | exact n38_1 | (have a0 := oa5 h2 h1 ro_46_1 ((inv_F hIc38 0 1000 rfl v38_46_2)) ((in_c 0 rfl)); have oc := ocj_171_46; omega)
      have n62h : (s.2.2.1 46 2).toInt ≤ ((sF (sF sc38 46 4 w38_46_2) 46 3 (Int32.ofInt 0)).2.2.1 46 4).toInt := by have b0 : w38_46_2 = (sF (sF sc38 46 4 w38_46_2) 46 3 (Int32.ofInt 0)).2.2.1 46 4 := sF_ne rfl (sF_get); rw [← b0, ← e_46_2]; exact n62g
      exact g_return (gd rfl) rfl (hP _ _ ⟨(sF (sF sc38 46 4 w38_46_2) 46 3 (Int32.ofInt 0)), hI48, (fr_sF rfl (fr_sF rfl hFc38)), n62d, n62f, n62h, rfl, rfl, n62, n62a, n62b⟩)
  have ct0 : ∀ (k0 : Nat) (sc0 : GS) (w0_46_2 : Int32), Inv sc0 → Fr fm_171_46 s sc0 → (w0_46_2 = sc0.2.2.1 46 2) → ((w0_46_2).toInt ≤ (u_46_1).toInt) → ((u_46_2).toInt ≤ (w0_46_2).toInt) → (∀ i : Nat, (s.2.2.1 46 2).toInt.toNat ≤ i → (i : Int) < (w0_46_2).toInt → (s.1 47 i).toInt = 32) → (u_46_1).toInt - (w0_46_2).toInt < (k0 : Int) → GG Z (d - 1) 171 post (gx xp) (1803 + k0 * 900) 0 (fun j => xlook j [(0, .ref (A 46)), (1, .int x1), (2, .int x2)]) [] (WW Z A sc0 ++ ex) 0 0 := by
    intro k0
    induction k0 with
    | zero => intro sc0 w0_46_2 hIc0 hFc0 v0_46_2 n0_0 n0_1 g0_0 mm0; exfalso; have a0 := oa4 h2 h1 ro_46_1 ((inv_F hIc0 0 1000 rfl v0_46_2)); have oc := ocj_171_46; omega
    | succ k0 ih0 =>
      intro sc0 w0_46_2 hIc0 hFc0 v0_46_2 n0_0 n0_1 g0_0 mm0
      refine gg_w (M := 1803 + k0 * 900 + 900) gws ?_
      refine g_aload_n 1 (gd rfl) rfl rfl ?_
      refine g_getI 4 (gd rfl) rfl rfl rfl (fun z1 e1 => ?_)
      have q1 : w0_46_2 = z1 := (v0_46_2).trans e1.symm
      subst q1
      refine g_aload_n 5 (gd rfl) rfl rfl ?_
      refine g_getI 8 (gd rfl) rfl rfl rfl (fun z5 e5 => ?_)
      have q5 : u_46_1 = z5 := (fr_F e_46_1 hFc0 rfl).trans e5.symm
      subst q5
      refine g_cmp_ge 11 38 (gd rfl) rfl rfl (fun c8 => ?_) (fun c8 => ?_)
      · skip
        have n38 : (w0_46_2).toInt ≤ (u_46_1).toInt := by first | exact n0_0 | (have a0 := oa4 h2 h1 ro_46_1 ((inv_F hIc0 0 1000 rfl v0_46_2)); have oc := ocj_171_46; omega)
        have n38a : (u_46_2).toInt ≤ (w0_46_2).toInt := by first | exact n0_1 | (have a0 := oa4 h2 h1 ro_46_1 ((inv_F hIc0 0 1000 rfl v0_46_2)); have oc := ocj_171_46; omega)
        have n38b : tkS (s.1 47) (s.2.2.1 46 1).toInt.toNat (s.2.2.1 46 2).toInt.toNat (w0_46_2).toInt.toNat := by exact ⟨by rw [← e_46_2]; have a0 := oa4 h2 h1 ro_46_1 ((inv_F hIc0 0 1000 rfl v0_46_2)); have oc := ocj_171_46; omega, by rw [← e_46_1]; have a0 := oa4 h2 h1 ro_46_1 ((inv_F hIc0 0 1000 rfl v0_46_2)); have oc := ocj_171_46; omega, fun i a b => g0_0 i a (by have a0 := oa4 h2 h1 ro_46_1 ((inv_F hIc0 0 1000 rfl v0_46_2)); have oc := ocj_171_46; omega), fun h => by exfalso; rw [← e_46_1] at h; have a0 := oa4 h2 h1 ro_46_1 ((inv_F hIc0 0 1000 rfl v0_46_2)); have oc := ocj_171_46; omega⟩
        exact gg_w (by first | exact Nat.le_add_right _ _ | exact gw2 | exact gw3 | exact gwe rfl | exact gwf rfl | exact gwg rfl | exact gwh rfl | omega) (gg_f (gf_cons rfl (gf_cons rfl (gf_cons rfl gf_nil))) (ct38 sc0 w0_46_2 hIc0 hFc0 v0_46_2 n38 n38a n38b))
      · skip
        have i8 := r_lt1 0 999 c8 (inv_F hIc0 0 1000 rfl v0_46_2) ro_46_1 rfl
        have i8a := r_lt2 1 1000 c8 (inv_F hIc0 0 1000 rfl v0_46_2) ro_46_1 rfl
        refine g_aload_n 12 (gd rfl) rfl rfl ?_
        refine g_getA (q2 := 47) 15 (gd rfl) rfl rfl rfl rfl ?_
        refine g_aload_n 16 (gd rfl) rfl rfl ?_
        refine g_getI 19 (gd rfl) rfl rfl rfl (fun z16 e16 => ?_)
        have q16 : w0_46_2 = z16 := (v0_46_2).trans e16.symm
        subst q16
        refine g_caload 20 (gd rfl) rfl (n := 1000) rfl (in_ix i8 rfl) (fun z19 e19 => ?_)
        have i19 := inv_I hIc0 (n := 1000) (t := 2) 0 65535 rfl (in_ix i8 rfl) rfl e19
        refine g_bipush 32 22 (gd rfl) rfl rfl ?_
        refine g_cmp_ne 25 38 (gd rfl) rfl rfl (fun c22 => ?_) (fun c22 => ?_)
        · skip
          have n38 : (w0_46_2).toInt ≤ (u_46_1).toInt := by first | exact n0_0 | (have a0 := oa4 h2 h1 i8a i8; have oc := ocj_171_46; omega)
          have n38a : (u_46_2).toInt ≤ (w0_46_2).toInt := by first | exact n0_1 | (have a0 := oa4 h2 h1 i8a i8; have oc := ocj_171_46; omega)
          have n38b : tkS (s.1 47) (s.2.2.1 46 1).toInt.toNat (s.2.2.1 46 2).toInt.toNat (w0_46_2).toInt.toNat := by have hT0 : s.1 47 w0_46_2.toInt.toNat = z19 := (by rw [e19, hFc0.1 47 rfl]; rfl); exact ⟨by rw [← e_46_2]; have a0 := oa4 h2 h1 i8a i8; have oc := ocj_171_46; omega, by rw [← e_46_1]; have a0 := oa4 h2 h1 i8a i8; have oc := ocj_171_46; omega, fun i a b => g0_0 i a (by have a0 := oa4 h2 h1 i8a i8; have oc := ocj_171_46; omega), fun _ => by rw [hT0]; have a0 := oa4 h2 h1 i8a i8; have oc := ocj_171_46; omega⟩
          exact gg_w (by first | exact Nat.le_add_right _ _ | exact gw2 | exact gw3 | exact gwe rfl | exact gwf rfl | exact gwg rfl | exact gwh rfl | omega) (gg_f (gf_cons rfl (gf_cons rfl (gf_cons rfl gf_nil))) (ct38 sc0 w0_46_2 hIc0 hFc0 v0_46_2 n38 n38a n38b))
        · skip
          have i22 := r_eq1 32 32 c22 i19 (in_c 32 rfl) rfl
          refine g_aload_n 26 (gd rfl) rfl rfl ?_
          refine g_dup 27 (gd rfl) rfl rfl ?_
          refine g_getI 30 (gd rfl) rfl rfl rfl (fun z27 e27 => ?_)
          have q27 : w0_46_2 = z27 := (v0_46_2).trans e27.symm
          subst q27
          refine g_iconst 1 31 (gd rfl) rfl rfl ?_
          refine g_iadd 32 (gd rfl) rfl (fun z31 e31 => ?_)
          have i31 := in_add 1 1000 e31 i8 (in_c 1 rfl) rfl rfl
          refine g_putI 35 (gd rfl) rfl rfl rfl rfl ?_
          have hI32 := inv_sF (q := 46) (j := 2) hIc0 rfl (in_w 0 1000 i31 rfl)
          refine g_goto 0 (gd rfl) rfl ?_
          have v0 : z31 = (sF sc0 46 2 z31).2.2.1 46 2 := sF_get
          have n0 : (z31).toInt ≤ (u_46_1).toInt := by have a0 := oa5 h2 h1 i8a i8 i31; have a5 := t_add e31 i8 (in_c 1 rfl) rfl; have a6 := in_u ((in_c 1 rfl)); have oc := ocj_171_46; omega
          have n0a : (u_46_2).toInt ≤ (z31).toInt := by have a0 := oa5 h2 h1 i8a i8 i31; have a5 := t_add e31 i8 (in_c 1 rfl) rfl; have a6 := in_u ((in_c 1 rfl)); have oc := ocj_171_46; omega
          have n0b : ∀ i : Nat, (s.2.2.1 46 2).toInt.toNat ≤ i → (i : Int) < (z31).toInt → (s.1 47 i).toInt = 32 := by intro i a b; by_cases hc : (i : Int) < w0_46_2.toInt; (exact g0_0 i a hc); (rw [show i = w0_46_2.toNatClampNeg from (by show i = w0_46_2.toInt.toNat; have a0 := oa5 h2 h1 i8a i8 i31; have a5 := t_add e31 i8 (in_c 1 rfl) rfl; have a6 := in_u ((in_c 1 rfl)); have oc := ocj_171_46; omega), show s.1 47 w0_46_2.toNatClampNeg = z19 from (by rw [e19, hFc0.1 47 rfl])]; have a0 := oa5 h2 h1 i8a i8 i31; have a5 := t_add e31 i8 (in_c 1 rfl) rfl; have a6 := in_u ((in_c 1 rfl)); have oc := ocj_171_46; omega)
          have m0 : (u_46_1).toInt - (z31).toInt < ((k0 : Nat) : Int) := by have a0 := oa5 h2 h1 i8a i8 i31; have a5 := t_add e31 i8 (in_c 1 rfl) rfl; have a6 := in_u ((in_c 1 rfl)); have oc := ocj_171_46; omega
          exact gg_w (by first | exact Nat.le_add_right _ _ | exact gw2 | exact gw3 | exact gwe rfl | exact gwf rfl | exact gwg rfl | exact gwh rfl | omega) (gg_f (gf_cons rfl (gf_cons rfl (gf_cons rfl gf_nil))) (ih0  (sF sc0 46 2 z31) z31 hI32 (fr_sF rfl hFc0) v0 n0 n0a n0b m0))
  refine g_enter2 (k := 171) (N := 903603) (by first | exact dq1 hd rfl | exact dq0 hd rfl | exact dq2 hd rfl | exact dq3 hd rfl | omega) rfl (Nat.le_of_ble_eq_true rfl) ?_
  have n0 : (u_46_2).toInt ≤ (u_46_1).toInt := by have a0 := oa4 ((inv_F hI 0 1000 rfl e_46_1)) ((inv_F hI 0 1000 rfl e_46_2)) h2 h1; have oc := ocj_171_46; omega
  have n0a : (u_46_2).toInt ≤ (u_46_2).toInt := by exact Int.le_refl _
  have n0b : ∀ i : Nat, (s.2.2.1 46 2).toInt.toNat ≤ i → (i : Int) < (u_46_2).toInt → (s.1 47 i).toInt = 32 := by intro i a b; exfalso; rw [← e_46_2] at a; have a0 := oa4 ((inv_F hI 0 1000 rfl e_46_1)) ((inv_F hI 0 1000 rfl e_46_2)) h2 h1; have oc := ocj_171_46; omega
  have m0 : (u_46_1).toInt - (u_46_2).toInt < ((1001 : Nat) : Int) := by have a0 := oa4 ((inv_F hI 0 1000 rfl e_46_1)) ((inv_F hI 0 1000 rfl e_46_2)) h2 h1; have oc := ocj_171_46; omega
  exact gg_w (by first | exact Nat.le_of_ble_eq_true rfl | omega) (gg_f (gf_cons rfl (gf_cons rfl (gf_cons rfl gf_nil))) (ct0 1001 s u_46_2 hI fr_rf e_46_2 n0 n0a n0b m0))

theorem ocj_169_46 : (Int32.ofInt (-1)).toInt = (-1) ∧ (Int32.ofInt 0).toInt = 0 ∧ (Int32.ofInt 1).toInt = 1 ∧ (Int32.ofInt 4).toInt = 4 ∧ (Int32.ofInt 5).toInt = 5 := ⟨rfl, rfl, rfl, rfl, rfl⟩
/-- GraphHouse$Script.refuse -/
theorem j_169_46 {Z : AmZ} {A : Nat → Nat} {s : GS} {ex : va_W} {d : Nat} {X : AmX} {x1 : Int32} {x2 : Int32} {u_46_3 : Int32} {u_46_4 : Int32} (hd : 2 ≤ d) (hI : Inv s) (h1 : In x1 2 2) (h2 : In x2 4 4) (e_46_3 : u_46_3 = s.2.2.1 46 3) (e_46_4 : u_46_4 = s.2.2.1 46 4) : GC Z d 169 [.ref (A 46), .int x1, .int x2] (WW Z A s ++ ex) 0 0 (fun v u => ∃ t : GS, Inv t ∧ Fr fm_169_46 s t ∧ ∃ z : Int32, v = some (.int z) ∧ u = WW Z A t ++ ex ∧ In z 0 0 ∧ ((t.2.2.1 46 6).toInt = pgF (s.2.2.1 46 3).toInt ∧ (t.2.2.1 46 7) = s.2.2.1 46 4)) X := by
  intro post xp hP hX
  have ro_46_3 := inv_F hI 0 5 rfl e_46_3
  have ro_46_4 := inv_F hI 0 1000 rfl e_46_4
  refine g_enter2 (k := 169) (N := 900) (by first | exact dq1 hd rfl | exact dq0 hd rfl | exact dq2 hd rfl | exact dq3 hd rfl | omega) rfl (Nat.le_of_ble_eq_true rfl) ?_
  refine g_aload_n 1 (gd rfl) rfl rfl ?_
  refine g_getI 4 (gd rfl) rfl rfl rfl (fun z1 e1 => ?_)
  have q1 : u_46_3 = z1 := (e_46_3).trans e1.symm
  subst q1
  refine g_iconst 4 5 (gd rfl) rfl rfl ?_
  refine g_cmp_ne 8 18 (gd rfl) rfl rfl (fun c5 => ?_) (fun c5 => ?_)
  · skip
    refine g_aload_n 19 (gd rfl) rfl rfl ?_
    refine g_aload_n 20 (gd rfl) rfl rfl ?_
    refine g_getI 23 (gd rfl) rfl rfl rfl (fun z20 e20 => ?_)
    have q20 : u_46_3 = z20 := (e_46_3).trans e20.symm
    subst q20
    refine g_iconst 5 24 (gd rfl) rfl rfl ?_
    refine g_cmp_ne 27 31 (gd rfl) rfl rfl (fun c24 => ?_) (fun c24 => ?_)
    · skip
      have i24 := r_ne1 0 4 c24 (inv_F hI 0 5 rfl e_46_3) (in_c 5 rfl) rfl
      refine g_iload_n 32 (gd rfl) rfl rfl ?_
      refine g_aload_n 33 (gd rfl) rfl rfl ?_
      refine g_getI 36 (gd rfl) rfl rfl rfl (fun z33 e33 => ?_)
      have q33 : u_46_4 = z33 := (e_46_4).trans e33.symm
      subst q33
      refine g_callv (X := _) (As := [.int x1, .int u_46_4]) (r := []) (b := A 46) (q := 46) 39 (gd rfl) rfl rfl rfl rfl rfl (ww_o rfl) (Nat.le_of_ble_eq_true rfl) (Nat.zero_le _) (Nat.zero_le _) (f_168_46 (by first | exact dq1 hd rfl | exact dq0 hd rfl | exact dq2 hd rfl | exact dq3 hd rfl | omega) hI (in_w 1 5 h1 rfl) (in_w 0 1000 (inv_F hI 0 1000 rfl e_46_4) rfl)) (fun e u h => h) (fun v u h => ?_)
      obtain ⟨s36, hI36, hF36, z36, rfl, rfl, i36, p36⟩ := h
      show GG _ _ _ _ _ _ _ _ [.int z36] _ _ _
      have n39 : (s36.2.2.1 46 6).toInt = pgF (s.2.2.1 46 3).toInt ∧ (s36.2.2.1 46 7) = s.2.2.1 46 4 := by refine ⟨?_, by rw [p36.2, ← e_46_4]⟩; rw [p36.1, ← e_46_3]; unfold pgF; rw [if_neg (by have a0 := oa4 ((inv_F hI 0 1000 rfl e_46_4)) i24 h2 h1; have oc := ocj_169_46; omega)]; first | (rw [if_pos (by have a0 := oa4 ((inv_F hI 0 1000 rfl e_46_4)) i24 h2 h1; have oc := ocj_169_46; omega)]; have a0 := oa4 ((inv_F hI 0 1000 rfl e_46_4)) i24 h2 h1; have oc := ocj_169_46; omega) | (rw [if_neg (by have a0 := oa4 ((inv_F hI 0 1000 rfl e_46_4)) i24 h2 h1; have oc := ocj_169_46; omega)]; have a0 := oa4 ((inv_F hI 0 1000 rfl e_46_4)) i24 h2 h1; have oc := ocj_169_46; omega)
      exact g_ireturn (gd rfl) rfl (nb01 (in_w 0 1 i36 rfl)) (hP _ _ ⟨s36, hI36, (fr_tr rfl fr_rf hF36), z36, rfl, rfl, in_w 0 0 i36 rfl, n39⟩)
    · skip
      have i24 := r_eq1 5 5 c24 (inv_F hI 0 5 rfl e_46_3) (in_c 5 rfl) rfl
      refine g_iload_n 28 (gd rfl) rfl rfl ?_
      refine g_goto 32 (gd rfl) rfl ?_
      refine g_aload_n 33 (gd rfl) rfl rfl ?_
      refine g_getI 36 (gd rfl) rfl rfl rfl (fun z33 e33 => ?_)
      have q33 : u_46_4 = z33 := (e_46_4).trans e33.symm
      subst q33
      refine g_callv (X := _) (As := [.int x2, .int u_46_4]) (r := []) (b := A 46) (q := 46) 39 (gd rfl) rfl rfl rfl rfl rfl (ww_o rfl) (Nat.le_of_ble_eq_true rfl) (Nat.zero_le _) (Nat.zero_le _) (f_168_46 (by first | exact dq1 hd rfl | exact dq0 hd rfl | exact dq2 hd rfl | exact dq3 hd rfl | omega) hI (in_w 1 5 h2 rfl) (in_w 0 1000 (inv_F hI 0 1000 rfl e_46_4) rfl)) (fun e u h => h) (fun v u h => ?_)
      obtain ⟨s36, hI36, hF36, z36, rfl, rfl, i36, p36⟩ := h
      show GG _ _ _ _ _ _ _ _ [.int z36] _ _ _
      have n39 : (s36.2.2.1 46 6).toInt = pgF (s.2.2.1 46 3).toInt ∧ (s36.2.2.1 46 7) = s.2.2.1 46 4 := by refine ⟨?_, by rw [p36.2, ← e_46_4]⟩; rw [p36.1, ← e_46_3]; unfold pgF; rw [if_neg (by have a0 := oa4 ((inv_F hI 0 1000 rfl e_46_4)) i24 h2 h1; have oc := ocj_169_46; omega)]; first | (rw [if_pos (by have a0 := oa4 ((inv_F hI 0 1000 rfl e_46_4)) i24 h2 h1; have oc := ocj_169_46; omega)]; have a0 := oa4 ((inv_F hI 0 1000 rfl e_46_4)) i24 h2 h1; have oc := ocj_169_46; omega) | (rw [if_neg (by have a0 := oa4 ((inv_F hI 0 1000 rfl e_46_4)) i24 h2 h1; have oc := ocj_169_46; omega)]; have a0 := oa4 ((inv_F hI 0 1000 rfl e_46_4)) i24 h2 h1; have oc := ocj_169_46; omega)
      exact g_ireturn (gd rfl) rfl (nb01 (in_w 0 1 i36 rfl)) (hP _ _ ⟨s36, hI36, (fr_tr rfl fr_rf hF36), z36, rfl, rfl, in_w 0 0 i36 rfl, n39⟩)
  · skip
    have i5 := r_eq1 4 4 c5 (inv_F hI 0 5 rfl e_46_3) (in_c 4 rfl) rfl
    refine g_aload_n 9 (gd rfl) rfl rfl ?_
    refine g_iconst 1 10 (gd rfl) rfl rfl ?_
    refine g_aload_n 11 (gd rfl) rfl rfl ?_
    refine g_getI 14 (gd rfl) rfl rfl rfl (fun z11 e11 => ?_)
    have q11 : u_46_4 = z11 := (e_46_4).trans e11.symm
    subst q11
    refine g_callv (X := _) (As := [.int (Int32.ofInt 1), .int u_46_4]) (r := []) (b := A 46) (q := 46) 17 (gd rfl) rfl rfl rfl rfl rfl (ww_o rfl) (Nat.le_of_ble_eq_true rfl) (Nat.zero_le _) (Nat.zero_le _) (f_168_46 (by first | exact dq1 hd rfl | exact dq0 hd rfl | exact dq2 hd rfl | exact dq3 hd rfl | omega) hI (in_w 1 5 (in_c 1 rfl) rfl) (in_w 0 1000 (inv_F hI 0 1000 rfl e_46_4) rfl)) (fun e u h => h) (fun v u h => ?_)
    obtain ⟨s14, hI14, hF14, z14, rfl, rfl, i14, p14⟩ := h
    show GG _ _ _ _ _ _ _ _ [.int z14] _ _ _
    have n17 : (s14.2.2.1 46 6).toInt = pgF (s.2.2.1 46 3).toInt ∧ (s14.2.2.1 46 7) = s.2.2.1 46 4 := by refine ⟨?_, by rw [p14.2, ← e_46_4]⟩; rw [p14.1, ← e_46_3]; unfold pgF; rw [if_pos (by have a0 := oa4 ((inv_F hI 0 1000 rfl e_46_4)) i5 h2 h1; have oc := ocj_169_46; omega)]; rfl
    exact g_ireturn (gd rfl) rfl (nb01 (in_w 0 1 i14 rfl)) (hP _ _ ⟨s14, hI14, (fr_tr rfl fr_rf hF14), z14, rfl, rfl, in_w 0 0 i14 rfl, n17⟩)

theorem ocj_62_102_46 : (Int32.ofInt (-1)).toInt = (-1) ∧ (Int32.ofInt 0).toInt = 0 ∧ (Int32.ofInt 1).toInt = 1 ∧ (Int32.ofInt 5).toInt = 5 ∧ (Int32.ofInt 6).toInt = 6 ∧ (Int32.ofInt 97).toInt = 97 ∧ (Int32.ofInt 1000000).toInt = 1000000 := ⟨rfl, rfl, rfl, rfl, rfl, rfl, rfl⟩
/-- GraphHouse$Engine.readAtom -/
theorem j_62_102_46 {Z : AmZ} {A : Nat → Nat} {s : GS} {ex : va_W} {d : Nat} {X : AmX} {u_46_2 : Int32} {u_46_1 : Int32} {u_46_4 : Int32} {u_46_3 : Int32} {u_46_5 : Int32} {u_102_4 : Int32} (hd : 8 ≤ d) (hI : Inv s) (e_46_2 : u_46_2 = s.2.2.1 46 2) (e_46_1 : u_46_1 = s.2.2.1 46 1) (e_46_4 : u_46_4 = s.2.2.1 46 4) (e_46_3 : u_46_3 = s.2.2.1 46 3) (e_46_5 : u_46_5 = s.2.2.1 46 5) (e_102_4 : u_102_4 = s.2.2.1 102 4) (r_46_1 : In u_46_1 0 120) (p_0 : (u_46_2).toInt ≤ (u_46_1).toInt) (p_1 : (u_46_4).toInt ≤ (u_46_2).toInt) (p_2 : (u_102_4).toInt ≤ (u_46_4).toInt) (p_3 : 1 ≤ (u_46_3).toInt) (p_4 : (u_46_3).toInt ≤ 2) (q_0 : TK s) : GC Z d 62 [.ref (A 102), .ref (A 46)] (WW Z A s ++ ex) 0 0 (fun v u => ∃ t : GS, Inv t ∧ Fr fm_62_102_46 s t ∧ ((t.2.2.1 46 2).toInt ≤ (t.2.2.1 46 1).toInt) ∧ ((t.2.2.1 46 4).toInt ≤ (t.2.2.1 46 2).toInt) ∧ ((t.2.2.1 102 4).toInt ≤ (t.2.2.1 46 4).toInt) ∧ ((s.2.2.1 46 4).toInt - (s.2.2.1 102 4).toInt ≤ (t.2.2.1 46 4).toInt - (t.2.2.1 102 4).toInt) ∧ ∃ z : Int32, v = some (.int z) ∧ u = WW Z A t ++ ex ∧ In z 0 1 ∧ (TK t) ∧ ((z).toInt ≠ 0 → PCV s t 1) ∧ (∀ d : Int, PZF (s.1 47) (s.2.2.1 46 1).toInt.toNat s t (z).toInt d) ∧ ((z).toInt ≠ 0 → BSM s t)) X := by
  intro post xp hP hX
  refine g_enter2 (k := 62) (N := 900) (by first | exact dq1 hd rfl | exact dq0 hd rfl | exact dq2 hd rfl | exact dq3 hd rfl | omega) rfl (Nat.le_of_ble_eq_true rfl) ?_
  refine g_aload_n 1 (gd rfl) rfl rfl ?_
  refine g_getI 4 (gd rfl) rfl rfl rfl (fun z1 e1 => ?_)
  have q1 : u_46_5 = z1 := (e_46_5).trans e1.symm
  subst q1
  refine g_istore_n 5 (gd rfl) rfl (Nat.le_of_ble_eq_true rfl) ?_
  have hk := tka_1 q_0 (show u_46_3 = s.2.2.1 46 3 from e_46_3) (show u_46_4 = s.2.2.1 46 4 from e_46_4) (show u_46_2 = s.2.2.1 46 2 from e_46_2) (by have a0 := oa5 ((inv_F hI 0 120 rfl e_102_4)) ((inv_F hI 0 5 rfl e_46_3)) ((inv_F hI 0 1000 rfl e_46_4)) r_46_1 ((inv_F hI 0 1000 rfl e_46_2)); have oc := ocj_62_102_46; omega)
  refine g_aload_n 6 (gd rfl) rfl rfl ?_
  refine g_getI 9 (gd rfl) rfl rfl rfl (fun z6 e6 => ?_)
  have q6 : u_46_3 = z6 := (e_46_3).trans e6.symm
  subst q6
  refine g_iconst 1 10 (gd rfl) rfl rfl ?_
  refine g_cmp_ne 13 46 (gd rfl) rfl rfl (fun c10 => ?_) (fun c10 => ?_)
  · skip
    refine g_aload_n 47 (gd rfl) rfl rfl ?_
    refine g_iload_n 48 (gd rfl) rfl rfl ?_
    have hDe : _ = s.2.2.1 102 4 := (show u_102_4 = s.2.2.1 102 4 from e_102_4)
    have n48 : (u_102_4).toInt ≤ 119 := by have a0 := oa5 ((inv_F hI 0 120 rfl e_102_4)) ((inv_F hI 0 5 rfl e_46_3)) ((inv_F hI 0 1000 rfl e_46_4)) r_46_1 ((inv_F hI 0 1000 rfl e_46_2)); have oc := ocj_62_102_46; omega
    refine g_callv (X := _) (As := [.int u_46_5]) (r := []) (b := A 102) (q := 102) 51 (gd rfl) rfl rfl rfl rfl rfl (ww_o rfl) (Nat.le_of_ble_eq_true rfl) (Nat.zero_le _) (Nat.zero_le _) (k_57_102 (by first | exact dq1 hd rfl | exact dq0 hd rfl | exact dq2 hd rfl | exact dq3 hd rfl | omega) hI e_102_4 n48) (fun e u h => h) (fun v u h => ?_)
    obtain ⟨s48, hI48, hF48, n48a, z48, rfl, rfl, i48, p48⟩ := h
    obtain ⟨z48a, e48⟩ : ∃ w, w = s48.2.2.1 102 4 := ⟨_, rfl⟩
    have i48a := inv_F hI48 0 120 rfl e48
    rw [← (show u_102_4 = s.2.2.1 102 4 from e_102_4)] at n48a
    rw [← (show z48a = s48.2.2.1 102 4 from e48)] at n48a
    show GG _ _ _ _ _ _ _ _ [.int z48] _ _ _
    refine g_pop 52 (gd rfl) rfl rfl ?_
    refine g_aload_n 53 (gd rfl) rfl rfl ?_
    refine g_bipush 6 55 (gd rfl) rfl rfl ?_
    refine g_iconst 0 56 (gd rfl) rfl rfl ?_
    have v56 : u_46_2 = s48.2.2.1 46 2 := fr_F (e_46_2) hF48 rfl
    have v56a : u_46_1 = s48.2.2.1 46 1 := fr_F (e_46_1) hF48 rfl
    have n56 : (u_46_2).toInt ≤ (u_46_1).toInt := by have a0 := oa6 ((inv_F hI 0 120 rfl e_102_4)) ((inv_F hI 0 5 rfl e_46_3)) ((inv_F hI 0 1000 rfl e_46_4)) r_46_1 ((inv_F hI 0 1000 rfl e_46_2)) i48a; have oc := ocj_62_102_46; omega
    refine g_callv (X := _) (As := [.int (Int32.ofInt 6), .int (Int32.ofInt 0)]) (r := []) (b := A 46) (q := 46) 59 (gd rfl) rfl rfl rfl rfl rfl (ww_o rfl) (Nat.le_of_ble_eq_true rfl) (Nat.zero_le _) (Nat.zero_le _) (j_171_46 (by omega) hI48 (in_w 6 6 (in_c 6 rfl) rfl) (in_w 0 0 (in_c 0 rfl) rfl) v56 v56a n56) (fun e u h => h) (fun v u h => ?_)
    obtain ⟨s56, hI56, hF56, n56a, n56b, n56c, rfl, rfl, p56, p56a, p56b⟩ := h
    obtain ⟨z56a, e56⟩ : ∃ w, w = s56.2.2.1 46 2 := ⟨_, rfl⟩
    have i56a := inv_F hI56 0 1000 rfl e56
    obtain ⟨z56b, e56a⟩ : ∃ w, w = s56.2.2.1 46 4 := ⟨_, rfl⟩
    have i56b := inv_F hI56 0 1000 rfl e56a
    rw [← (show z56a = s56.2.2.1 46 2 from e56)] at n56a
    rw [← (show u_46_1 = s56.2.2.1 46 1 from fr_F (fr_F (e_46_1) hF48 rfl) hF56 rfl)] at n56a
    rw [← (show z56a = s56.2.2.1 46 2 from e56)] at n56b
    rw [← (show z56b = s56.2.2.1 46 4 from e56a)] at n56b
    rw [← (show u_46_2 = s48.2.2.1 46 2 from fr_F (e_46_2) hF48 rfl)] at n56c
    rw [← (show z56b = s56.2.2.1 46 4 from e56a)] at n56c
    show GG _ _ _ _ _ _ _ _ [] _ _ _
    refine g_iconst 1 60 (gd rfl) rfl rfl ?_
    have n60 : TK s56 := by exact p56 (by decide)
    have n60a : ((Int32.ofInt 1)).toInt ≠ 0 → PCV s s56 1 := by intro _; exact pv_tr (j := 1) (k := 0) (pv_st (j := 0) (k := 1) pv_rf (inv_F hI 0 120 rfl rfl).1 p48 (by rw [← e48, ← hDe]; have a0 := oa8 ((inv_F hI 0 120 rfl e_102_4)) ((inv_F hI 0 5 rfl e_46_3)) ((inv_F hI 0 1000 rfl e_46_4)) r_46_1 ((inv_F hI 0 1000 rfl e_46_2)) i56b i56a i48a; have oc := ocj_62_102_46; omega) (fun e => hc_a (by first | (have a0 := oa8 ((inv_F hI 0 120 rfl e_102_4)) ((inv_F hI 0 5 rfl e_46_3)) ((inv_F hI 0 1000 rfl e_46_4)) r_46_1 ((inv_F hI 0 1000 rfl e_46_2)) i56b i56a i48a; have oc := ocj_62_102_46; omega) | (have c1 : (Int32.ofInt 1).toInt = 1 := (by decide); have hv := tkv_1 q_0 e_46_3 e_46_5 (by have a0 := oa8 ((inv_F hI 0 120 rfl e_102_4)) ((inv_F hI 0 5 rfl e_46_3)) ((inv_F hI 0 1000 rfl e_46_4)) r_46_1 ((inv_F hI 0 1000 rfl e_46_2)) i56b i56a i48a; have oc := ocj_62_102_46; omega); have a0 := oa8 ((inv_F hI 0 120 rfl e_102_4)) ((inv_F hI 0 5 rfl e_46_3)) ((inv_F hI 0 1000 rfl e_46_4)) r_46_1 ((inv_F hI 0 1000 rfl e_46_2)) i56b i56a i48a; have oc := ocj_62_102_46; omega)) e)) (pv_sm (hF56.1 104 rfl) (hF56.2.2.1 102 4 rfl))
    have n60b : ∀ d : Int, PZF (s.1 47) (s.2.2.1 46 1).toInt.toNat s s56 ((Int32.ofInt 1)).toInt d := by intro d; refine zf_at (by decide) (pka_n (s := s) (u := s48) (w := s) (hF48.1 47 rfl) (hF48.2.2.1 46 1 rfl) (hF48.2.2.1 46 2 rfl) p56b) (fun a hk fp W => ?_); rw [((drf_s (hF56.1 104 rfl) (hF56.2.2.1 102 4 rfl)).trans (drf_e (s := s) (t := s48) p48 (by rw [← e48, ← e_102_4]; exact n48a) (inv_F hI 0 120 rfl rfl).1)), e_46_5]; exact pz_2 (by rw [← e_46_3]; have a0 := oa8 ((inv_F hI 0 120 rfl e_102_4)) ((inv_F hI 0 5 rfl e_46_3)) ((inv_F hI 0 1000 rfl e_46_4)) r_46_1 ((inv_F hI 0 1000 rfl e_46_2)) i56b i56a i48a; have oc := ocj_62_102_46; omega)
    have n60c : ((Int32.ofInt 1)).toInt ≠ 0 → BSM s s56 := by intro _; exact bsm_t (bsm_fr hF48 rfl) (bsm_fr hF56 rfl)
    have n60d : (z56a).toInt ≤ (u_46_1).toInt := by have a0 := oa8 ((inv_F hI 0 120 rfl e_102_4)) ((inv_F hI 0 5 rfl e_46_3)) ((inv_F hI 0 1000 rfl e_46_4)) r_46_1 ((inv_F hI 0 1000 rfl e_46_2)) i56b i56a i48a; have oc := ocj_62_102_46; omega
    have n60e : (s56.2.2.1 46 2).toInt ≤ (s56.2.2.1 46 1).toInt := by have b0 : z56a = s56.2.2.1 46 2 := e56; have b1 : u_46_1 = s56.2.2.1 46 1 := fr_F (fr_F (e_46_1) hF48 rfl) hF56 rfl; rw [← b0, ← b1]; exact n60d
    have n60f : (z56b).toInt ≤ (z56a).toInt := by have a0 := oa8 ((inv_F hI 0 120 rfl e_102_4)) ((inv_F hI 0 5 rfl e_46_3)) ((inv_F hI 0 1000 rfl e_46_4)) r_46_1 ((inv_F hI 0 1000 rfl e_46_2)) i56b i56a i48a; have oc := ocj_62_102_46; omega
    have n60g : (s56.2.2.1 46 4).toInt ≤ (s56.2.2.1 46 2).toInt := by have b0 : z56b = s56.2.2.1 46 4 := e56a; have b1 : z56a = s56.2.2.1 46 2 := e56; rw [← b0, ← b1]; exact n60f
    have n60h : (z48a).toInt ≤ (z56b).toInt := by have a0 := oa8 ((inv_F hI 0 120 rfl e_102_4)) ((inv_F hI 0 5 rfl e_46_3)) ((inv_F hI 0 1000 rfl e_46_4)) r_46_1 ((inv_F hI 0 1000 rfl e_46_2)) i56b i56a i48a; have oc := ocj_62_102_46; omega
    have n60i : (s56.2.2.1 102 4).toInt ≤ (s56.2.2.1 46 4).toInt := by have b0 : z48a = s56.2.2.1 102 4 := fr_F (e48) hF56 rfl; have b1 : z56b = s56.2.2.1 46 4 := e56a; rw [← b0, ← b1]; exact n60h
    have n60j : (u_46_4).toInt - (u_102_4).toInt ≤ (z56b).toInt - (z48a).toInt := by have a0 := oa8 ((inv_F hI 0 120 rfl e_102_4)) ((inv_F hI 0 5 rfl e_46_3)) ((inv_F hI 0 1000 rfl e_46_4)) r_46_1 ((inv_F hI 0 1000 rfl e_46_2)) i56b i56a i48a; have oc := ocj_62_102_46; omega
    have n60k : (s.2.2.1 46 4).toInt - (s.2.2.1 102 4).toInt ≤ (s56.2.2.1 46 4).toInt - (s56.2.2.1 102 4).toInt := by have b0 : z56b = s56.2.2.1 46 4 := e56a; have b1 : z48a = s56.2.2.1 102 4 := fr_F (e48) hF56 rfl; first | (rw [← b0, ← b1, ← e_46_4, ← e_102_4]; exact n60j) | (rw [← b0, ← b1]; exact n60j)
    exact g_ireturn (gd rfl) rfl (nb01 (in_w 0 1 (in_c 1 rfl) rfl)) (hP _ _ ⟨s56, hI56, (fr_tr rfl (fr_tr rfl fr_rf hF48) hF56), n60e, n60g, n60i, n60k, (Int32.ofInt 1), rfl, rfl, in_w 0 1 (in_c 1 rfl) rfl, n60, n60a, n60b, n60c⟩)
  · skip
    have i10 := r_eq1 1 1 c10 (inv_F hI 0 5 rfl e_46_3) (in_c 1 rfl) rfl
    refine g_ldcs 6 15 (gd rfl) rfl rfl ?_
    refine g_bipush 97 17 (gd rfl) rfl rfl ?_
    refine g_aload_n 18 (gd rfl) rfl rfl ?_
    refine g_getI 21 (gd rfl) rfl rfl rfl (fun z18 e18 => ?_)
    have q18 : u_46_5 = z18 := (e_46_5).trans e18.symm
    subst q18
    refine g_iadd 22 (gd rfl) rfl (fun z21 e21 => ?_)
    refine g_i2c 23 (gd rfl) rfl (fun z22 e22 => ?_)
    have i22 := in_i2c e22
    have i23 : In (Int32.ofInt 6) 0 6 := in_w 0 6 (in_c 6 rfl) rfl
    refine g_callS (X := _) (As := [.int z22]) (r := []) (x := (Int32.ofInt 6)) 26 (gd rfl) rfl rfl rfl zm_430 rfl rfl rfl i23 (Nat.le_of_ble_eq_true rfl) (f_430 i23 (by omega)) (fun e u h => h) (fun v u h => ?_)
    obtain ⟨z23, rfl, rfl, p23, p23a⟩ := h
    have i23a : In z23 (-1) 8 := by have a := zn_9 i23; unfold In at p23; exact ⟨by omega, by omega⟩
    show GG _ _ _ _ _ _ _ _ [.int z23] _ _ _
    refine g_istore_n 27 (gd rfl) rfl (Nat.le_of_ble_eq_true rfl) ?_
    refine g_iload_n 28 (gd rfl) rfl rfl ?_
    refine g_if_ge 31 41 (gd rfl) rfl rfl (fun c28 => ?_) (fun c28 => ?_)
    · skip
      have i28 := z_ge 0 8 c28 i23a rfl
      refine g_ldc 1000000 43 (gd rfl) rfl rfl ?_
      refine g_iload_n 44 (gd rfl) rfl rfl ?_
      refine g_iadd 45 (gd rfl) rfl (fun z44 e44 => ?_)
      have i44 := in_add 1000000 1000008 e44 (in_c 1000000 rfl) i28 rfl rfl
      refine g_istore_n 46 (gd rfl) rfl (Nat.le_of_ble_eq_true rfl) ?_
      refine g_aload_n 47 (gd rfl) rfl rfl ?_
      refine g_iload_n 48 (gd rfl) rfl rfl ?_
      have hDe : _ = s.2.2.1 102 4 := (show u_102_4 = s.2.2.1 102 4 from e_102_4)
      have n48 : (u_102_4).toInt ≤ 119 := by have a0 := oa7 ((inv_F hI 0 120 rfl e_102_4)) i10 ((inv_F hI 0 1000 rfl e_46_4)) r_46_1 ((inv_F hI 0 1000 rfl e_46_2)) i28 i44; have a7 := t_add e44 (in_c 1000000 rfl) i28 rfl; have a8 := in_u ((in_c 1000000 rfl)); have oc := ocj_62_102_46; omega
      refine g_callv (X := _) (As := [.int z44]) (r := []) (b := A 102) (q := 102) 51 (gd rfl) rfl rfl rfl rfl rfl (ww_o rfl) (Nat.le_of_ble_eq_true rfl) (Nat.zero_le _) (Nat.zero_le _) (k_57_102 (by first | exact dq1 hd rfl | exact dq0 hd rfl | exact dq2 hd rfl | exact dq3 hd rfl | omega) hI e_102_4 n48) (fun e u h => h) (fun v u h => ?_)
      obtain ⟨s48, hI48, hF48, n48a, z48, rfl, rfl, i48, p48⟩ := h
      obtain ⟨z48a, e48⟩ : ∃ w, w = s48.2.2.1 102 4 := ⟨_, rfl⟩
      have i48a := inv_F hI48 0 120 rfl e48
      rw [← (show u_102_4 = s.2.2.1 102 4 from e_102_4)] at n48a
      rw [← (show z48a = s48.2.2.1 102 4 from e48)] at n48a
      show GG _ _ _ _ _ _ _ _ [.int z48] _ _ _
      refine g_pop 52 (gd rfl) rfl rfl ?_
      refine g_aload_n 53 (gd rfl) rfl rfl ?_
      refine g_bipush 6 55 (gd rfl) rfl rfl ?_
      refine g_iconst 0 56 (gd rfl) rfl rfl ?_
      have v56 : u_46_2 = s48.2.2.1 46 2 := fr_F (e_46_2) hF48 rfl
      have v56a : u_46_1 = s48.2.2.1 46 1 := fr_F (e_46_1) hF48 rfl
      have n56 : (u_46_2).toInt ≤ (u_46_1).toInt := by have a0 := oa7 ((inv_F hI 0 120 rfl e_102_4)) i10 ((inv_F hI 0 1000 rfl e_46_4)) r_46_1 ((inv_F hI 0 1000 rfl e_46_2)) i28 i44; have a7 := t_add e44 (in_c 1000000 rfl) i28 rfl; have a8 := oa2 ((in_c 1000000 rfl)) i48a; have oc := ocj_62_102_46; omega
      refine g_callv (X := _) (As := [.int (Int32.ofInt 6), .int (Int32.ofInt 0)]) (r := []) (b := A 46) (q := 46) 59 (gd rfl) rfl rfl rfl rfl rfl (ww_o rfl) (Nat.le_of_ble_eq_true rfl) (Nat.zero_le _) (Nat.zero_le _) (j_171_46 (by omega) hI48 (in_w 6 6 (in_c 6 rfl) rfl) (in_w 0 0 (in_c 0 rfl) rfl) v56 v56a n56) (fun e u h => h) (fun v u h => ?_)
      obtain ⟨s56, hI56, hF56, n56a, n56b, n56c, rfl, rfl, p56, p56a, p56b⟩ := h
      obtain ⟨z56a, e56⟩ : ∃ w, w = s56.2.2.1 46 2 := ⟨_, rfl⟩
      have i56a := inv_F hI56 0 1000 rfl e56
      obtain ⟨z56b, e56a⟩ : ∃ w, w = s56.2.2.1 46 4 := ⟨_, rfl⟩
      have i56b := inv_F hI56 0 1000 rfl e56a
      rw [← (show z56a = s56.2.2.1 46 2 from e56)] at n56a
      rw [← (show u_46_1 = s56.2.2.1 46 1 from fr_F (fr_F (e_46_1) hF48 rfl) hF56 rfl)] at n56a
      rw [← (show z56a = s56.2.2.1 46 2 from e56)] at n56b
      rw [← (show z56b = s56.2.2.1 46 4 from e56a)] at n56b
      rw [← (show u_46_2 = s48.2.2.1 46 2 from fr_F (e_46_2) hF48 rfl)] at n56c
      rw [← (show z56b = s56.2.2.1 46 4 from e56a)] at n56c
      show GG _ _ _ _ _ _ _ _ [] _ _ _
      refine g_iconst 1 60 (gd rfl) rfl rfl ?_
      have n60 : TK s56 := by exact p56 (by decide)
      have n60a : ((Int32.ofInt 1)).toInt ≠ 0 → PCV s s56 1 := by intro _; exact pv_tr (j := 1) (k := 0) (pv_st (j := 0) (k := 1) pv_rf (inv_F hI 0 120 rfl rfl).1 p48 (by rw [← e48, ← hDe]; have a0 := oa7 ((inv_F hI 0 120 rfl e_102_4)) i10 ((inv_F hI 0 1000 rfl e_46_4)) r_46_1 ((inv_F hI 0 1000 rfl e_46_2)) i28 i44; have a7 := t_add e44 (in_c 1000000 rfl) i28 rfl; have a8 := oa4 ((in_c 1000000 rfl)) i56b i56a i48a; have oc := ocj_62_102_46; omega) (fun e => hc_a (by first | (have a0 := oa7 ((inv_F hI 0 120 rfl e_102_4)) i10 ((inv_F hI 0 1000 rfl e_46_4)) r_46_1 ((inv_F hI 0 1000 rfl e_46_2)) i28 i44; have a7 := t_add e44 (in_c 1000000 rfl) i28 rfl; have a8 := oa4 ((in_c 1000000 rfl)) i56b i56a i48a; have oc := ocj_62_102_46; omega) | (have c1 : (Int32.ofInt 1).toInt = 1 := (by decide); have hv := tkv_1 q_0 e_46_3 e_46_5 (by have a0 := oa7 ((inv_F hI 0 120 rfl e_102_4)) i10 ((inv_F hI 0 1000 rfl e_46_4)) r_46_1 ((inv_F hI 0 1000 rfl e_46_2)) i28 i44; have a7 := t_add e44 (in_c 1000000 rfl) i28 rfl; have a8 := oa4 ((in_c 1000000 rfl)) i56b i56a i48a; have oc := ocj_62_102_46; omega); have a0 := oa7 ((inv_F hI 0 120 rfl e_102_4)) i10 ((inv_F hI 0 1000 rfl e_46_4)) r_46_1 ((inv_F hI 0 1000 rfl e_46_2)) i28 i44; have a7 := t_add e44 (in_c 1000000 rfl) i28 rfl; have a8 := oa4 ((in_c 1000000 rfl)) i56b i56a i48a; have oc := ocj_62_102_46; omega)) e)) (pv_sm (hF56.1 104 rfl) (hF56.2.2.1 102 4 rfl))
      have n60b : ∀ d : Int, PZF (s.1 47) (s.2.2.1 46 1).toInt.toNat s s56 ((Int32.ofInt 1)).toInt d := by intro d; refine zf_at (by decide) (pka_n (s := s) (u := s48) (w := s) (hF48.1 47 rfl) (hF48.2.2.1 46 1 rfl) (hF48.2.2.1 46 2 rfl) p56b) (fun a hk fp W => ?_); have hv := pka_l hk (by rw [← e_46_3]; have a0 := oa7 ((inv_F hI 0 120 rfl e_102_4)) i10 ((inv_F hI 0 1000 rfl e_46_4)) r_46_1 ((inv_F hI 0 1000 rfl e_46_2)) i28 i44; have a7 := t_add e44 (in_c 1000000 rfl) i28 rfl; have a8 := oa4 ((in_c 1000000 rfl)) i56b i56a i48a; have oc := ocj_62_102_46; omega); have hz : (z23).toInt = pgN (s.2.2.1 46 5).toInt := (zix_6 p23a (by rw [← e_46_5] at hv ⊢; exact pg_z e21 e22 hv)); rw [((drf_s (hF56.1 104 rfl) (hF56.2.2.1 102 4 rfl)).trans (drf_e (s := s) (t := s48) p48 (by rw [← e48, ← e_102_4]; exact n48a) (inv_F hI 0 120 rfl rfl).1)), show (z44).toInt = 1000000 + pgN (s.2.2.1 46 5).toInt from (by rw [← hz]; have a0 := oa7 ((inv_F hI 0 120 rfl e_102_4)) i10 ((inv_F hI 0 1000 rfl e_46_4)) r_46_1 ((inv_F hI 0 1000 rfl e_46_2)) i28 i44; have a7 := t_add e44 (in_c 1000000 rfl) i28 rfl; have a8 := oa4 ((in_c 1000000 rfl)) i56b i56a i48a; have oc := ocj_62_102_46; omega)]; exact pz_1 (by rw [← e_46_3]; have a0 := oa7 ((inv_F hI 0 120 rfl e_102_4)) i10 ((inv_F hI 0 1000 rfl e_46_4)) r_46_1 ((inv_F hI 0 1000 rfl e_46_2)) i28 i44; have a7 := t_add e44 (in_c 1000000 rfl) i28 rfl; have a8 := oa4 ((in_c 1000000 rfl)) i56b i56a i48a; have oc := ocj_62_102_46; omega) (by rw [← hz]; have a0 := oa7 ((inv_F hI 0 120 rfl e_102_4)) i10 ((inv_F hI 0 1000 rfl e_46_4)) r_46_1 ((inv_F hI 0 1000 rfl e_46_2)) i28 i44; have a7 := t_add e44 (in_c 1000000 rfl) i28 rfl; have a8 := oa4 ((in_c 1000000 rfl)) i56b i56a i48a; have oc := ocj_62_102_46; omega)
      have n60c : ((Int32.ofInt 1)).toInt ≠ 0 → BSM s s56 := by intro _; exact bsm_t (bsm_fr hF48 rfl) (bsm_fr hF56 rfl)
      have n60d : (z56a).toInt ≤ (u_46_1).toInt := by have a0 := oa7 ((inv_F hI 0 120 rfl e_102_4)) i10 ((inv_F hI 0 1000 rfl e_46_4)) r_46_1 ((inv_F hI 0 1000 rfl e_46_2)) i28 i44; have a7 := t_add e44 (in_c 1000000 rfl) i28 rfl; have a8 := oa4 ((in_c 1000000 rfl)) i56b i56a i48a; have oc := ocj_62_102_46; omega
      have n60e : (s56.2.2.1 46 2).toInt ≤ (s56.2.2.1 46 1).toInt := by have b0 : z56a = s56.2.2.1 46 2 := e56; have b1 : u_46_1 = s56.2.2.1 46 1 := fr_F (fr_F (e_46_1) hF48 rfl) hF56 rfl; rw [← b0, ← b1]; exact n60d
      have n60f : (z56b).toInt ≤ (z56a).toInt := by have a0 := oa7 ((inv_F hI 0 120 rfl e_102_4)) i10 ((inv_F hI 0 1000 rfl e_46_4)) r_46_1 ((inv_F hI 0 1000 rfl e_46_2)) i28 i44; have a7 := t_add e44 (in_c 1000000 rfl) i28 rfl; have a8 := oa4 ((in_c 1000000 rfl)) i56b i56a i48a; have oc := ocj_62_102_46; omega
      have n60g : (s56.2.2.1 46 4).toInt ≤ (s56.2.2.1 46 2).toInt := by have b0 : z56b = s56.2.2.1 46 4 := e56a; have b1 : z56a = s56.2.2.1 46 2 := e56; rw [← b0, ← b1]; exact n60f
      have n60h : (z48a).toInt ≤ (z56b).toInt := by have a0 := oa7 ((inv_F hI 0 120 rfl e_102_4)) i10 ((inv_F hI 0 1000 rfl e_46_4)) r_46_1 ((inv_F hI 0 1000 rfl e_46_2)) i28 i44; have a7 := t_add e44 (in_c 1000000 rfl) i28 rfl; have a8 := oa4 ((in_c 1000000 rfl)) i56b i56a i48a; have oc := ocj_62_102_46; omega
      have n60i : (s56.2.2.1 102 4).toInt ≤ (s56.2.2.1 46 4).toInt := by have b0 : z48a = s56.2.2.1 102 4 := fr_F (e48) hF56 rfl; have b1 : z56b = s56.2.2.1 46 4 := e56a; rw [← b0, ← b1]; exact n60h
      have n60j : (u_46_4).toInt - (u_102_4).toInt ≤ (z56b).toInt - (z48a).toInt := by have a0 := oa7 ((inv_F hI 0 120 rfl e_102_4)) i10 ((inv_F hI 0 1000 rfl e_46_4)) r_46_1 ((inv_F hI 0 1000 rfl e_46_2)) i28 i44; have a7 := t_add e44 (in_c 1000000 rfl) i28 rfl; have a8 := oa4 ((in_c 1000000 rfl)) i56b i56a i48a; have oc := ocj_62_102_46; omega
      have n60k : (s.2.2.1 46 4).toInt - (s.2.2.1 102 4).toInt ≤ (s56.2.2.1 46 4).toInt - (s56.2.2.1 102 4).toInt := by have b0 : z56b = s56.2.2.1 46 4 := e56a; have b1 : z48a = s56.2.2.1 102 4 := fr_F (e48) hF56 rfl; first | (rw [← b0, ← b1, ← e_46_4, ← e_102_4]; exact n60j) | (rw [← b0, ← b1]; exact n60j)
      exact g_ireturn (gd rfl) rfl (nb01 (in_w 0 1 (in_c 1 rfl) rfl)) (hP _ _ ⟨s56, hI56, (fr_tr rfl (fr_tr rfl fr_rf hF48) hF56), n60e, n60g, n60i, n60k, (Int32.ofInt 1), rfl, rfl, in_w 0 1 (in_c 1 rfl) rfl, n60, n60a, n60b, n60c⟩)
    · skip
      have i28 := z_lt (-1) (-1) c28 i23a rfl
      refine g_aload_n 32 (gd rfl) rfl rfl ?_
      refine g_iconst 5 33 (gd rfl) rfl rfl ?_
      refine g_aload_n 34 (gd rfl) rfl rfl ?_
      refine g_getI 37 (gd rfl) rfl rfl rfl (fun z34 e34 => ?_)
      have q34 : u_46_4 = z34 := (e_46_4).trans e34.symm
      subst q34
      refine g_callv (X := _) (As := [.int (Int32.ofInt 5), .int u_46_4]) (r := []) (b := A 46) (q := 46) 40 (gd rfl) rfl rfl rfl rfl rfl (ww_o rfl) (Nat.le_of_ble_eq_true rfl) (Nat.zero_le _) (Nat.zero_le _) (f_168_46 (by first | exact dq1 hd rfl | exact dq0 hd rfl | exact dq2 hd rfl | exact dq3 hd rfl | omega) hI (in_w 1 5 (in_c 5 rfl) rfl) (in_w 0 1000 (inv_F hI 0 1000 rfl e_46_4) rfl)) (fun e u h => h) (fun v u h => ?_)
      obtain ⟨s37, hI37, hF37, z37, rfl, rfl, i37, p37⟩ := h
      show GG _ _ _ _ _ _ _ _ [.int z37] _ _ _
      have n40 : TK s37 := by exact tk_fr hF37 rfl q_0
      have n40a : (z37).toInt ≠ 0 → PCV s s37 1 := by intro h; unfold In at i37; omega
      have n40b : ∀ d : Int, PZF (s.1 47) (s.2.2.1 46 1).toInt.toNat s s37 (z37).toInt d := by intro d; refine zf_x (f := 5) (by have h9 := i37; unfold In at h9; omega) (fun a hk fp W _ => ?_) (by decide) (blt_i (by rw [p37.1]; rfl) (by rw [p37.2, e_46_4]) (by have h9 := inv_F hI 0 1000 (q := 46) (j := 4) rfl rfl; unfold In at h9; exact h9.1)); have hv := pka_l hk (by rw [← e_46_3]; have a0 := oa6 ((inv_F hI 0 120 rfl e_102_4)) i10 ((inv_F hI 0 1000 rfl e_46_4)) r_46_1 ((inv_F hI 0 1000 rfl e_46_2)) i28; have oc := ocj_62_102_46; omega); have hz : (z23).toInt = pgN (s.2.2.1 46 5).toInt := (zix_6 p23a (by rw [← e_46_5] at hv ⊢; exact pg_z e21 e22 hv)); exact pz_1x (by rw [← e_46_3]; have a0 := oa6 ((inv_F hI 0 120 rfl e_102_4)) i10 ((inv_F hI 0 1000 rfl e_46_4)) r_46_1 ((inv_F hI 0 1000 rfl e_46_2)) i28; have oc := ocj_62_102_46; omega) (by rw [← hz]; have a0 := oa6 ((inv_F hI 0 120 rfl e_102_4)) i10 ((inv_F hI 0 1000 rfl e_46_4)) r_46_1 ((inv_F hI 0 1000 rfl e_46_2)) i28; have oc := ocj_62_102_46; omega)
      have n40c : (z37).toInt ≠ 0 → BSM s s37 := by intro h; unfold In at i37; omega
      have n40d : (u_46_2).toInt ≤ (u_46_1).toInt := by have a0 := oa6 ((inv_F hI 0 120 rfl e_102_4)) i10 ((inv_F hI 0 1000 rfl e_46_4)) r_46_1 ((inv_F hI 0 1000 rfl e_46_2)) i28; have oc := ocj_62_102_46; omega
      have n40e : (s37.2.2.1 46 2).toInt ≤ (s37.2.2.1 46 1).toInt := by have b0 : u_46_2 = s37.2.2.1 46 2 := fr_F (e_46_2) hF37 rfl; have b1 : u_46_1 = s37.2.2.1 46 1 := fr_F (e_46_1) hF37 rfl; rw [← b0, ← b1]; exact n40d
      have n40f : (u_46_4).toInt ≤ (u_46_2).toInt := by have a0 := oa6 ((inv_F hI 0 120 rfl e_102_4)) i10 ((inv_F hI 0 1000 rfl e_46_4)) r_46_1 ((inv_F hI 0 1000 rfl e_46_2)) i28; have oc := ocj_62_102_46; omega
      have n40g : (s37.2.2.1 46 4).toInt ≤ (s37.2.2.1 46 2).toInt := by have b0 : u_46_4 = s37.2.2.1 46 4 := fr_F (e_46_4) hF37 rfl; have b1 : u_46_2 = s37.2.2.1 46 2 := fr_F (e_46_2) hF37 rfl; rw [← b0, ← b1]; exact n40f
      have n40h : (u_102_4).toInt ≤ (u_46_4).toInt := by have a0 := oa6 ((inv_F hI 0 120 rfl e_102_4)) i10 ((inv_F hI 0 1000 rfl e_46_4)) r_46_1 ((inv_F hI 0 1000 rfl e_46_2)) i28; have oc := ocj_62_102_46; omega
      have n40i : (s37.2.2.1 102 4).toInt ≤ (s37.2.2.1 46 4).toInt := by have b0 : u_102_4 = s37.2.2.1 102 4 := fr_F (e_102_4) hF37 rfl; have b1 : u_46_4 = s37.2.2.1 46 4 := fr_F (e_46_4) hF37 rfl; rw [← b0, ← b1]; exact n40h
      have n40j : (u_46_4).toInt - (u_102_4).toInt ≤ (u_46_4).toInt - (u_102_4).toInt := by exact Int.le_refl _
      have n40k : (s.2.2.1 46 4).toInt - (s.2.2.1 102 4).toInt ≤ (s37.2.2.1 46 4).toInt - (s37.2.2.1 102 4).toInt := by have b0 : u_46_4 = s37.2.2.1 46 4 := fr_F (e_46_4) hF37 rfl; have b1 : u_102_4 = s37.2.2.1 102 4 := fr_F (e_102_4) hF37 rfl; first | (rw [← b0, ← b1, ← e_46_4, ← e_102_4]; exact n40j) | (rw [← b0, ← b1]; exact n40j)
      exact g_ireturn (gd rfl) rfl (nb01 (in_w 0 1 i37 rfl)) (hP _ _ ⟨s37, hI37, (fr_tr rfl fr_rf hF37), n40e, n40g, n40i, n40k, z37, rfl, rfl, in_w 0 1 i37 rfl, n40, n40a, n40b, n40c⟩)
