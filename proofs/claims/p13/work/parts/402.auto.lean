/-! methods, by vc.py -/
/-- GraphHouse$Script.readNumber -/
theorem k_173_46 {Z : AmZ} {A : Nat → Nat} {s : GS} {ex : va_W} {d : Nat} {X : AmX} {x1 : Int32} {x2 : Int32} {u_46_2 : Int32} {u_46_1 : Int32} (hd : 3 ≤ d) (hI : Inv s) (h1 : In x1 1 1) (h2 : In x2 6 7) (e_46_2 : u_46_2 = s.2.2.1 46 2) (e_46_1 : u_46_1 = s.2.2.1 46 1) (p_0 : (u_46_2).toInt + (x1).toInt ≤ (u_46_1).toInt) : GC Z d 173 [.ref (A 46), .int x1, .int x2] (WW Z A s ++ ex) 0 0 (fun v u => ∃ t : GS, Inv t ∧ (t.2.2.1 46 2).toInt ≤ (t.2.2.1 46 1).toInt ∧ v = none ∧ u = WW Z A t ++ ex) X := by
  intro post xp hP hX
  have ct26 : ∀ (k26 : Nat) (s : GS) (y26_3 : Int32) (y26_4 : Int32) (w26_46_2 : Int32) (w26_46_1 : Int32), Inv s → w26_46_2 = s.2.2.1 46 2 → w26_46_1 = s.2.2.1 46 1 → (w26_46_2).toInt ≤ (w26_46_1).toInt → (w26_46_1).toInt - (w26_46_2).toInt < (k26 : Int) → GG Z (d - 1) 173 post (gx xp) (1 + k26 * 900) 26 (fun j => xlook j [(0, .ref (A 46)), (1, .int x1), (2, .int x2), (3, .int y26_3), (4, .int y26_4)]) [] (WW Z A s ++ ex) 0 0 := by
    intro k26
    induction k26 with
    | zero => intro s y26_3 y26_4 w26_46_2 w26_46_1 hI v26_46_2 v26_46_1 n26_0 mm26; exfalso; have a0 := h2; unfold In at a0; have a1 := h1; unfold In at a1; have a2 := (inv_F hI 0 1000 rfl v26_46_1); unfold In at a2; have a3 := (inv_F hI 0 1000 rfl v26_46_2); unfold In at a3; omega
    | succ k26 ih26 =>
      intro s y26_3 y26_4 w26_46_2 w26_46_1 hI v26_46_2 v26_46_1 n26_0 mm26
      refine gg_w (M := 1 + k26 * 900 + 900) (by omega) ?_
      refine g_aload_n 27 (gd rfl) rfl rfl ?_
      refine g_getI 30 (gd rfl) rfl rfl rfl (fun z1 e2 => ?_)
      have q3 : w26_46_2 = z1 := (v26_46_2).trans e2.symm
      subst q3
      refine g_aload_n 31 (gd rfl) rfl rfl ?_
      refine g_getI 34 (gd rfl) rfl rfl rfl (fun z4 e5 => ?_)
      have q6 : w26_46_1 = z4 := (v26_46_1).trans e5.symm
      subst q6
      refine g_cmp_ge 37 89 (gd rfl) rfl rfl (fun c7 => ?_) (fun c7 => ?_)
      · skip
        refine g_aload_n 90 (gd rfl) rfl rfl ?_
        refine g_iload_n 91 (gd rfl) rfl rfl ?_
        refine g_if_eq 94 100 (gd rfl) rfl rfl (fun c8 => ?_) (fun c8 => ?_)
        · skip
          exact zn_eq c8 h1 rfl
        · skip
          refine g_iload 96 (gd rfl) rfl rfl ?_
          refine g_ineg 97 (gd rfl) rfl (fun z9 e10 => ?_)
          refine g_goto 102 (gd rfl) rfl ?_
          refine g_putI 105 (gd rfl) rfl rfl rfl rfl ?_
          have hI11 := inv_sF (q := 46) (j := 5) hI rfl (in_w (-2147483648) 2147483647 (i_rng z9) rfl)
          refine g_aload_n 106 (gd rfl) rfl rfl ?_
          refine g_iload_n 107 (gd rfl) rfl rfl ?_
          refine g_iload_n 108 (gd rfl) rfl rfl ?_
          refine g_cmp_le 111 115 (gd rfl) rfl rfl (fun c12 => ?_) (fun c12 => ?_)
          · skip
            have i13 := r_le1 (-2147483648) 7 c12 (i_rng y26_3) h2 rfl
            refine g_iconst 2 116 (gd rfl) rfl rfl ?_
            refine g_putI 119 (gd rfl) rfl rfl rfl rfl ?_
            have hI14 := inv_sF (q := 46) (j := 3) hI11 rfl (in_w 0 5 (in_c 2 rfl) rfl)
            have n15 : (w26_46_2).toInt ≤ (w26_46_1).toInt := by have a0 := i13; unfold In at a0; have a1 := h2; unfold In at a1; have a2 := h1; unfold In at a2; have a3 := (in_c 2 rfl); unfold In at a3; have a4 := (inv_F hI 0 1000 rfl v26_46_1); unfold In at a4; have a5 := (inv_F hI 0 1000 rfl v26_46_2); unfold In at a5; omega
            have n16 : ((sF (sF s 46 5 z9) 46 3 (Int32.ofInt 2)).2.2.1 46 2).toInt ≤ ((sF (sF s 46 5 z9) 46 3 (Int32.ofInt 2)).2.2.1 46 1).toInt := by have b0 : w26_46_2 = (sF (sF s 46 5 z9) 46 3 (Int32.ofInt 2)).2.2.1 46 2 := sF_ne rfl (sF_ne rfl (v26_46_2)); have b1 : w26_46_1 = (sF (sF s 46 5 z9) 46 3 (Int32.ofInt 2)).2.2.1 46 1 := sF_ne rfl (sF_ne rfl (v26_46_1)); rw [← b0, ← b1]; exact n15
            exact g_return (gd rfl) rfl (hP _ _ ⟨(sF (sF s 46 5 z9) 46 3 (Int32.ofInt 2)), hI14, n16, rfl, rfl⟩)
          · skip
            have i17 := r_lt2 7 2147483647 c12 h2 (i_rng y26_3) rfl
            refine g_iconst 5 112 (gd rfl) rfl rfl ?_
            refine g_goto 116 (gd rfl) rfl ?_
            refine g_putI 119 (gd rfl) rfl rfl rfl rfl ?_
            have hI18 := inv_sF (q := 46) (j := 3) hI11 rfl (in_w 0 5 (in_c 5 rfl) rfl)
            have n19 : (w26_46_2).toInt ≤ (w26_46_1).toInt := by have a0 := i17; unfold In at a0; have a1 := h2; unfold In at a1; have a2 := h1; unfold In at a2; have a3 := (in_c 5 rfl); unfold In at a3; have a4 := (inv_F hI 0 1000 rfl v26_46_1); unfold In at a4; have a5 := (inv_F hI 0 1000 rfl v26_46_2); unfold In at a5; omega
            have n20 : ((sF (sF s 46 5 z9) 46 3 (Int32.ofInt 5)).2.2.1 46 2).toInt ≤ ((sF (sF s 46 5 z9) 46 3 (Int32.ofInt 5)).2.2.1 46 1).toInt := by have b0 : w26_46_2 = (sF (sF s 46 5 z9) 46 3 (Int32.ofInt 5)).2.2.1 46 2 := sF_ne rfl (sF_ne rfl (v26_46_2)); have b1 : w26_46_1 = (sF (sF s 46 5 z9) 46 3 (Int32.ofInt 5)).2.2.1 46 1 := sF_ne rfl (sF_ne rfl (v26_46_1)); rw [← b0, ← b1]; exact n19
            exact g_return (gd rfl) rfl (hP _ _ ⟨(sF (sF s 46 5 z9) 46 3 (Int32.ofInt 5)), hI18, n20, rfl, rfl⟩)
      · skip
        have i21 := r_lt1 0 999 c7 (inv_F hI 0 1000 rfl v26_46_2) (inv_F hI 0 1000 rfl v26_46_1) rfl
        have i22 := r_lt2 1 1000 c7 (inv_F hI 0 1000 rfl v26_46_2) (inv_F hI 0 1000 rfl v26_46_1) rfl
        refine g_aload_n 38 (gd rfl) rfl rfl ?_
        refine g_aload_n 39 (gd rfl) rfl rfl ?_
        refine g_getI 42 (gd rfl) rfl rfl rfl (fun z23 e24 => ?_)
        have q25 : w26_46_2 = z23 := (v26_46_2).trans e24.symm
        subst q25
        refine g_callv (X := _) (As := [.int w26_46_2]) (r := []) (b := A 46) (q := 46) 45 (gd rfl) rfl rfl rfl rfl rfl (ww_o rfl) (Nat.le_of_ble_eq_true rfl) (mc := 0) (ms := 0) (Nat.zero_le _) (Nat.zero_le _) (P := fun v u => _) ?_ (fun e u h => h) (fun v u h => h)
        intro po26 xx27 hp28 hx29
        refine g_enter2 (k := 172) (N := 300) (by omega) rfl (Nat.le_of_ble_eq_true rfl) ?_
        refine g_iload_n 1 (gd rfl) rfl rfl ?_
        refine g_aload_n 2 (gd rfl) rfl rfl ?_
        refine g_getI 5 (gd rfl) rfl rfl rfl (fun z30 e31 => ?_)
        have q32 : w26_46_1 = z30 := (v26_46_1).trans e31.symm
        subst q32
        refine g_cmp_ge 8 34 (gd rfl) rfl rfl (fun c33 => ?_) (fun c33 => ?_)
        · skip
          have i34 := r_le1 1 999 c33 i22 i21 rfl
          have i35 := r_le2 1 999 c33 i22 i21 rfl
          refine g_iconst 0 35 (gd rfl) rfl rfl ?_
          refine g_ireturn (gd rfl) rfl (nb01 (in_w 0 1 (in_c 0 rfl) rfl)) (hp28 _ _ ?_)
          show GG _ _ _ _ _ _ _ _ [.int (Int32.ofInt 0)] _ _ _
          refine g_if_eq 48 89 (gd rfl) rfl rfl (fun c36 => ?_) (fun c36 => ?_)
          · skip
            refine g_aload_n 90 (gd rfl) rfl rfl ?_
            refine g_iload_n 91 (gd rfl) rfl rfl ?_
            refine g_if_eq 94 100 (gd rfl) rfl rfl (fun c37 => ?_) (fun c37 => ?_)
            · skip
              exact zn_eq c37 h1 rfl
            · skip
              refine g_iload 96 (gd rfl) rfl rfl ?_
              refine g_ineg 97 (gd rfl) rfl (fun z38 e39 => ?_)
              refine g_goto 102 (gd rfl) rfl ?_
              refine g_putI 105 (gd rfl) rfl rfl rfl rfl ?_
              have hI40 := inv_sF (q := 46) (j := 5) hI rfl (in_w (-2147483648) 2147483647 (i_rng z38) rfl)
              refine g_aload_n 106 (gd rfl) rfl rfl ?_
              refine g_iload_n 107 (gd rfl) rfl rfl ?_
              refine g_iload_n 108 (gd rfl) rfl rfl ?_
              refine g_cmp_le 111 115 (gd rfl) rfl rfl (fun c41 => ?_) (fun c41 => ?_)
              · skip
                have i42 := r_le1 (-2147483648) 7 c41 (i_rng y26_3) h2 rfl
                refine g_iconst 2 116 (gd rfl) rfl rfl ?_
                refine g_putI 119 (gd rfl) rfl rfl rfl rfl ?_
                have hI43 := inv_sF (q := 46) (j := 3) hI40 rfl (in_w 0 5 (in_c 2 rfl) rfl)
                have n44 : (w26_46_2).toInt ≤ (w26_46_1).toInt := by have a0 := i42; unfold In at a0; have a1 := h2; unfold In at a1; have a2 := h1; unfold In at a2; have a3 := (in_c 2 rfl); unfold In at a3; have a4 := i34; unfold In at a4; have a5 := i35; unfold In at a5; omega
                have n45 : ((sF (sF s 46 5 z38) 46 3 (Int32.ofInt 2)).2.2.1 46 2).toInt ≤ ((sF (sF s 46 5 z38) 46 3 (Int32.ofInt 2)).2.2.1 46 1).toInt := by have b0 : w26_46_2 = (sF (sF s 46 5 z38) 46 3 (Int32.ofInt 2)).2.2.1 46 2 := sF_ne rfl (sF_ne rfl (v26_46_2)); have b1 : w26_46_1 = (sF (sF s 46 5 z38) 46 3 (Int32.ofInt 2)).2.2.1 46 1 := sF_ne rfl (sF_ne rfl (v26_46_1)); rw [← b0, ← b1]; exact n44
                exact g_return (gd rfl) rfl (hP _ _ ⟨(sF (sF s 46 5 z38) 46 3 (Int32.ofInt 2)), hI43, n45, rfl, rfl⟩)
              · skip
                have i46 := r_lt2 7 2147483647 c41 h2 (i_rng y26_3) rfl
                refine g_iconst 5 112 (gd rfl) rfl rfl ?_
                refine g_goto 116 (gd rfl) rfl ?_
                refine g_putI 119 (gd rfl) rfl rfl rfl rfl ?_
                have hI47 := inv_sF (q := 46) (j := 3) hI40 rfl (in_w 0 5 (in_c 5 rfl) rfl)
                have n48 : (w26_46_2).toInt ≤ (w26_46_1).toInt := by have a0 := i46; unfold In at a0; have a1 := h2; unfold In at a1; have a2 := h1; unfold In at a2; have a3 := (in_c 5 rfl); unfold In at a3; have a4 := i34; unfold In at a4; have a5 := i35; unfold In at a5; omega
                have n49 : ((sF (sF s 46 5 z38) 46 3 (Int32.ofInt 5)).2.2.1 46 2).toInt ≤ ((sF (sF s 46 5 z38) 46 3 (Int32.ofInt 5)).2.2.1 46 1).toInt := by have b0 : w26_46_2 = (sF (sF s 46 5 z38) 46 3 (Int32.ofInt 5)).2.2.1 46 2 := sF_ne rfl (sF_ne rfl (v26_46_2)); have b1 : w26_46_1 = (sF (sF s 46 5 z38) 46 3 (Int32.ofInt 5)).2.2.1 46 1 := sF_ne rfl (sF_ne rfl (v26_46_1)); rw [← b0, ← b1]; exact n48
                exact g_return (gd rfl) rfl (hP _ _ ⟨(sF (sF s 46 5 z38) 46 3 (Int32.ofInt 5)), hI47, n49, rfl, rfl⟩)
          · skip
            exact zn_ne c36 (in_c 0 rfl) rfl
        · skip
          refine g_aload_n 9 (gd rfl) rfl rfl ?_
          refine g_getA (q2 := 47) 12 (gd rfl) rfl rfl rfl rfl rfl ?_
          refine g_iload_n 13 (gd rfl) rfl rfl ?_
          refine g_caload 14 (gd rfl) rfl (n := 1000) rfl (in_ix i21 rfl) (fun z50 e51 => ?_)
          have i52 := inv_I hI (n := 1000) (t := 2) 0 65535 rfl (in_ix i21 rfl) rfl e51
          refine g_bipush 48 16 (gd rfl) rfl rfl ?_
          refine g_cmp_lt 19 34 (gd rfl) rfl rfl (fun c53 => ?_) (fun c53 => ?_)
          · skip
            have i54 := r_lt1 0 47 c53 i52 (in_c 48 rfl) rfl
            refine g_iconst 0 35 (gd rfl) rfl rfl ?_
            refine g_ireturn (gd rfl) rfl (nb01 (in_w 0 1 (in_c 0 rfl) rfl)) (hp28 _ _ ?_)
            show GG _ _ _ _ _ _ _ _ [.int (Int32.ofInt 0)] _ _ _
            refine g_if_eq 48 89 (gd rfl) rfl rfl (fun c55 => ?_) (fun c55 => ?_)
            · skip
              refine g_aload_n 90 (gd rfl) rfl rfl ?_
              refine g_iload_n 91 (gd rfl) rfl rfl ?_
              refine g_if_eq 94 100 (gd rfl) rfl rfl (fun c56 => ?_) (fun c56 => ?_)
              · skip
                exact zn_eq c56 h1 rfl
              · skip
                refine g_iload 96 (gd rfl) rfl rfl ?_
                refine g_ineg 97 (gd rfl) rfl (fun z57 e58 => ?_)
                refine g_goto 102 (gd rfl) rfl ?_
                refine g_putI 105 (gd rfl) rfl rfl rfl rfl ?_
                have hI59 := inv_sF (q := 46) (j := 5) hI rfl (in_w (-2147483648) 2147483647 (i_rng z57) rfl)
                refine g_aload_n 106 (gd rfl) rfl rfl ?_
                refine g_iload_n 107 (gd rfl) rfl rfl ?_
                refine g_iload_n 108 (gd rfl) rfl rfl ?_
                refine g_cmp_le 111 115 (gd rfl) rfl rfl (fun c60 => ?_) (fun c60 => ?_)
                · skip
                  have i61 := r_le1 (-2147483648) 7 c60 (i_rng y26_3) h2 rfl
                  refine g_iconst 2 116 (gd rfl) rfl rfl ?_
                  refine g_putI 119 (gd rfl) rfl rfl rfl rfl ?_
                  have hI62 := inv_sF (q := 46) (j := 3) hI59 rfl (in_w 0 5 (in_c 2 rfl) rfl)
                  have n63 : (w26_46_2).toInt ≤ (w26_46_1).toInt := by have a0 := i61; unfold In at a0; have a1 := h2; unfold In at a1; have a2 := h1; unfold In at a2; have a3 := (in_c 2 rfl); unfold In at a3; have a4 := i22; unfold In at a4; have a5 := i21; unfold In at a5; omega
                  have n64 : ((sF (sF s 46 5 z57) 46 3 (Int32.ofInt 2)).2.2.1 46 2).toInt ≤ ((sF (sF s 46 5 z57) 46 3 (Int32.ofInt 2)).2.2.1 46 1).toInt := by have b0 : w26_46_2 = (sF (sF s 46 5 z57) 46 3 (Int32.ofInt 2)).2.2.1 46 2 := sF_ne rfl (sF_ne rfl (v26_46_2)); have b1 : w26_46_1 = (sF (sF s 46 5 z57) 46 3 (Int32.ofInt 2)).2.2.1 46 1 := sF_ne rfl (sF_ne rfl (v26_46_1)); rw [← b0, ← b1]; exact n63
                  exact g_return (gd rfl) rfl (hP _ _ ⟨(sF (sF s 46 5 z57) 46 3 (Int32.ofInt 2)), hI62, n64, rfl, rfl⟩)
                · skip
                  have i65 := r_lt2 7 2147483647 c60 h2 (i_rng y26_3) rfl
                  refine g_iconst 5 112 (gd rfl) rfl rfl ?_
                  refine g_goto 116 (gd rfl) rfl ?_
                  refine g_putI 119 (gd rfl) rfl rfl rfl rfl ?_
                  have hI66 := inv_sF (q := 46) (j := 3) hI59 rfl (in_w 0 5 (in_c 5 rfl) rfl)
                  have n67 : (w26_46_2).toInt ≤ (w26_46_1).toInt := by have a0 := i65; unfold In at a0; have a1 := h2; unfold In at a1; have a2 := h1; unfold In at a2; have a3 := (in_c 5 rfl); unfold In at a3; have a4 := i22; unfold In at a4; have a5 := i21; unfold In at a5; omega
                  have n68 : ((sF (sF s 46 5 z57) 46 3 (Int32.ofInt 5)).2.2.1 46 2).toInt ≤ ((sF (sF s 46 5 z57) 46 3 (Int32.ofInt 5)).2.2.1 46 1).toInt := by have b0 : w26_46_2 = (sF (sF s 46 5 z57) 46 3 (Int32.ofInt 5)).2.2.1 46 2 := sF_ne rfl (sF_ne rfl (v26_46_2)); have b1 : w26_46_1 = (sF (sF s 46 5 z57) 46 3 (Int32.ofInt 5)).2.2.1 46 1 := sF_ne rfl (sF_ne rfl (v26_46_1)); rw [← b0, ← b1]; exact n67
                  exact g_return (gd rfl) rfl (hP _ _ ⟨(sF (sF s 46 5 z57) 46 3 (Int32.ofInt 5)), hI66, n68, rfl, rfl⟩)
            · skip
              exact zn_ne c55 (in_c 0 rfl) rfl
          · skip
            have i69 := r_le2 48 65535 c53 (in_c 48 rfl) i52 rfl
            refine g_aload_n 20 (gd rfl) rfl rfl ?_
            refine g_getA (q2 := 47) 23 (gd rfl) rfl rfl rfl rfl rfl ?_
            refine g_iload_n 24 (gd rfl) rfl rfl ?_
            refine g_caload 25 (gd rfl) rfl (n := 1000) rfl (in_ix i21 rfl) (fun z70 e71 => ?_)
            have q72 : z50 = z70 := (e51).trans e71.symm
            subst q72
            refine g_bipush 57 27 (gd rfl) rfl rfl ?_
            refine g_cmp_gt 30 34 (gd rfl) rfl rfl (fun c73 => ?_) (fun c73 => ?_)
            · skip
              have i74 := r_lt2 58 65535 c73 (in_c 57 rfl) i69 rfl
              refine g_iconst 0 35 (gd rfl) rfl rfl ?_
              refine g_ireturn (gd rfl) rfl (nb01 (in_w 0 1 (in_c 0 rfl) rfl)) (hp28 _ _ ?_)
              show GG _ _ _ _ _ _ _ _ [.int (Int32.ofInt 0)] _ _ _
              refine g_if_eq 48 89 (gd rfl) rfl rfl (fun c75 => ?_) (fun c75 => ?_)
              · skip
                refine g_aload_n 90 (gd rfl) rfl rfl ?_
                refine g_iload_n 91 (gd rfl) rfl rfl ?_
                refine g_if_eq 94 100 (gd rfl) rfl rfl (fun c76 => ?_) (fun c76 => ?_)
                · skip
                  exact zn_eq c76 h1 rfl
                · skip
                  refine g_iload 96 (gd rfl) rfl rfl ?_
                  refine g_ineg 97 (gd rfl) rfl (fun z77 e78 => ?_)
                  refine g_goto 102 (gd rfl) rfl ?_
                  refine g_putI 105 (gd rfl) rfl rfl rfl rfl ?_
                  have hI79 := inv_sF (q := 46) (j := 5) hI rfl (in_w (-2147483648) 2147483647 (i_rng z77) rfl)
                  refine g_aload_n 106 (gd rfl) rfl rfl ?_
                  refine g_iload_n 107 (gd rfl) rfl rfl ?_
                  refine g_iload_n 108 (gd rfl) rfl rfl ?_
                  refine g_cmp_le 111 115 (gd rfl) rfl rfl (fun c80 => ?_) (fun c80 => ?_)
                  · skip
                    have i81 := r_le1 (-2147483648) 7 c80 (i_rng y26_3) h2 rfl
                    refine g_iconst 2 116 (gd rfl) rfl rfl ?_
                    refine g_putI 119 (gd rfl) rfl rfl rfl rfl ?_
                    have hI82 := inv_sF (q := 46) (j := 3) hI79 rfl (in_w 0 5 (in_c 2 rfl) rfl)
                    have n83 : (w26_46_2).toInt ≤ (w26_46_1).toInt := by have a0 := i81; unfold In at a0; have a1 := h2; unfold In at a1; have a2 := h1; unfold In at a2; have a3 := (in_c 2 rfl); unfold In at a3; have a4 := i22; unfold In at a4; have a5 := i21; unfold In at a5; omega
                    have n84 : ((sF (sF s 46 5 z77) 46 3 (Int32.ofInt 2)).2.2.1 46 2).toInt ≤ ((sF (sF s 46 5 z77) 46 3 (Int32.ofInt 2)).2.2.1 46 1).toInt := by have b0 : w26_46_2 = (sF (sF s 46 5 z77) 46 3 (Int32.ofInt 2)).2.2.1 46 2 := sF_ne rfl (sF_ne rfl (v26_46_2)); have b1 : w26_46_1 = (sF (sF s 46 5 z77) 46 3 (Int32.ofInt 2)).2.2.1 46 1 := sF_ne rfl (sF_ne rfl (v26_46_1)); rw [← b0, ← b1]; exact n83
                    exact g_return (gd rfl) rfl (hP _ _ ⟨(sF (sF s 46 5 z77) 46 3 (Int32.ofInt 2)), hI82, n84, rfl, rfl⟩)
                  · skip
                    have i85 := r_lt2 7 2147483647 c80 h2 (i_rng y26_3) rfl
                    refine g_iconst 5 112 (gd rfl) rfl rfl ?_
                    refine g_goto 116 (gd rfl) rfl ?_
                    refine g_putI 119 (gd rfl) rfl rfl rfl rfl ?_
                    have hI86 := inv_sF (q := 46) (j := 3) hI79 rfl (in_w 0 5 (in_c 5 rfl) rfl)
                    have n87 : (w26_46_2).toInt ≤ (w26_46_1).toInt := by have a0 := i85; unfold In at a0; have a1 := h2; unfold In at a1; have a2 := h1; unfold In at a2; have a3 := (in_c 5 rfl); unfold In at a3; have a4 := i22; unfold In at a4; have a5 := i21; unfold In at a5; omega
                    have n88 : ((sF (sF s 46 5 z77) 46 3 (Int32.ofInt 5)).2.2.1 46 2).toInt ≤ ((sF (sF s 46 5 z77) 46 3 (Int32.ofInt 5)).2.2.1 46 1).toInt := by have b0 : w26_46_2 = (sF (sF s 46 5 z77) 46 3 (Int32.ofInt 5)).2.2.1 46 2 := sF_ne rfl (sF_ne rfl (v26_46_2)); have b1 : w26_46_1 = (sF (sF s 46 5 z77) 46 3 (Int32.ofInt 5)).2.2.1 46 1 := sF_ne rfl (sF_ne rfl (v26_46_1)); rw [← b0, ← b1]; exact n87
                    exact g_return (gd rfl) rfl (hP _ _ ⟨(sF (sF s 46 5 z77) 46 3 (Int32.ofInt 5)), hI86, n88, rfl, rfl⟩)
              · skip
                exact zn_ne c75 (in_c 0 rfl) rfl
            · skip
              have i89 := r_le1 48 57 c73 i69 (in_c 57 rfl) rfl
              refine g_iconst 1 31 (gd rfl) rfl rfl ?_
              refine g_goto 35 (gd rfl) rfl ?_
              refine g_ireturn (gd rfl) rfl (nb01 (in_w 0 1 (in_c 1 rfl) rfl)) (hp28 _ _ ?_)
              show GG _ _ _ _ _ _ _ _ [.int (Int32.ofInt 1)] _ _ _
              refine g_if_eq 48 89 (gd rfl) rfl rfl (fun c90 => ?_) (fun c90 => ?_)
              · skip
                exact zn_eq c90 (in_c 1 rfl) rfl
              · skip
                refine g_iinc 51 (gd rfl) rfl rfl (Nat.le_of_ble_eq_true rfl) (fun z91 e92 => ?_)
                refine g_iload_n 52 (gd rfl) rfl rfl ?_
                refine g_iload_n 53 (gd rfl) rfl rfl ?_
                refine g_cmp_gt 56 76 (gd rfl) rfl rfl (fun c93 => ?_) (fun c93 => ?_)
                · skip
                  have i94 := r_lt2 7 2147483647 c93 h2 (i_rng z91) rfl
                  refine g_aload_n 77 (gd rfl) rfl rfl ?_
                  refine g_dup 78 (gd rfl) rfl rfl ?_
                  refine g_getI 81 (gd rfl) rfl rfl rfl (fun z95 e96 => ?_)
                  have q97 : w26_46_2 = z95 := (v26_46_2).trans e96.symm
                  subst q97
                  refine g_iconst 1 82 (gd rfl) rfl rfl ?_
                  refine g_iadd 83 (gd rfl) rfl (fun z98 e99 => ?_)
                  have i100 := in_add 1 1000 e99 i21 (in_c 1 rfl) rfl rfl
                  refine g_putI 86 (gd rfl) rfl rfl rfl rfl ?_
                  have hI101 := inv_sF (q := 46) (j := 2) hI rfl (in_w 0 1000 i100 rfl)
                  refine g_goto 26 (gd rfl) rfl ?_
                  have n102 : (z98).toInt ≤ (w26_46_1).toInt := by have a0 := i94; unfold In at a0; have a1 := h2; unfold In at a1; have a2 := h1; unfold In at a2; have a3 := i100; unfold In at a3; have a4 := t_add e99 i21 (in_c 1 rfl) rfl; have a5 := (in_c 1 rfl); unfold In at a5; have a6 := i21; unfold In at a6; have a7 := i22; unfold In at a7; omega
                  have m103 : (w26_46_1).toInt - (z98).toInt < ((k26 : Nat) : Int) := by have a0 := i94; unfold In at a0; have a1 := h2; unfold In at a1; have a2 := h1; unfold In at a2; have a3 := i100; unfold In at a3; have a4 := t_add e99 i21 (in_c 1 rfl) rfl; have a5 := (in_c 1 rfl); unfold In at a5; have a6 := i21; unfold In at a6; have a7 := i22; unfold In at a7; omega
                  exact gg_w (by omega) (gg_f (gf_cons rfl (gf_cons rfl (gf_cons rfl (gf_cons rfl (gf_cons rfl gf_nil))))) (ih26  (sF s 46 2 z98) z91 y26_4 z98 w26_46_1 hI101 (sF_get) (sF_ne rfl (v26_46_1)) n102 m103))
                · skip
                  have i104 := r_le1 (-2147483648) 7 c93 (i_rng z91) h2 rfl
                  refine g_iload 58 (gd rfl) rfl rfl ?_
                  refine g_bipush 10 60 (gd rfl) rfl rfl ?_
                  refine g_imul 61 (gd rfl) rfl (fun z105 e106 => ?_)
                  refine g_aload_n 62 (gd rfl) rfl rfl ?_
                  refine g_getA (q2 := 47) 65 (gd rfl) rfl rfl rfl rfl rfl ?_
                  refine g_aload_n 66 (gd rfl) rfl rfl ?_
                  refine g_getI 69 (gd rfl) rfl rfl rfl (fun z107 e108 => ?_)
                  have q109 : w26_46_2 = z107 := (v26_46_2).trans e108.symm
                  subst q109
                  refine g_caload 70 (gd rfl) rfl (n := 1000) rfl (in_ix i21 rfl) (fun z110 e111 => ?_)
                  have q112 : z50 = z110 := (e51).trans e111.symm
                  subst q112
                  refine g_bipush 48 72 (gd rfl) rfl rfl ?_
                  refine g_isub 73 (gd rfl) rfl (fun z113 e114 => ?_)
                  have i115 := in_sub 0 9 e114 i89 (in_c 48 rfl) rfl rfl
                  refine g_iadd 74 (gd rfl) rfl (fun z116 e117 => ?_)
                  refine g_istore 76 (gd rfl) rfl (Nat.le_of_ble_eq_true rfl) ?_
                  refine g_aload_n 77 (gd rfl) rfl rfl ?_
                  refine g_dup 78 (gd rfl) rfl rfl ?_
                  refine g_getI 81 (gd rfl) rfl rfl rfl (fun z118 e119 => ?_)
                  have q120 : w26_46_2 = z118 := (v26_46_2).trans e119.symm
                  subst q120
                  refine g_iconst 1 82 (gd rfl) rfl rfl ?_
                  refine g_iadd 83 (gd rfl) rfl (fun z121 e122 => ?_)
                  have i123 := in_add 1 1000 e122 i21 (in_c 1 rfl) rfl rfl
                  refine g_putI 86 (gd rfl) rfl rfl rfl rfl ?_
                  have hI124 := inv_sF (q := 46) (j := 2) hI rfl (in_w 0 1000 i123 rfl)
                  refine g_goto 26 (gd rfl) rfl ?_
                  have n125 : (z121).toInt ≤ (w26_46_1).toInt := by have a0 := i104; unfold In at a0; have a1 := h2; unfold In at a1; have a2 := h1; unfold In at a2; have a3 := i123; unfold In at a3; have a4 := t_add e122 i21 (in_c 1 rfl) rfl; have a5 := (in_c 1 rfl); unfold In at a5; have a6 := i21; unfold In at a6; have a7 := i22; unfold In at a7; have a8 := i115; unfold In at a8; have a9 := t_sub e114 i89 (in_c 48 rfl) rfl; have a10 := (in_c 48 rfl); unfold In at a10; have a11 := i89; unfold In at a11; omega
                  have m126 : (w26_46_1).toInt - (z121).toInt < ((k26 : Nat) : Int) := by have a0 := i104; unfold In at a0; have a1 := h2; unfold In at a1; have a2 := h1; unfold In at a2; have a3 := i123; unfold In at a3; have a4 := t_add e122 i21 (in_c 1 rfl) rfl; have a5 := (in_c 1 rfl); unfold In at a5; have a6 := i21; unfold In at a6; have a7 := i22; unfold In at a7; have a8 := i115; unfold In at a8; have a9 := t_sub e114 i89 (in_c 48 rfl) rfl; have a10 := (in_c 48 rfl); unfold In at a10; have a11 := i89; unfold In at a11; omega
                  exact gg_w (by omega) (gg_f (gf_cons rfl (gf_cons rfl (gf_cons rfl (gf_cons rfl (gf_cons rfl gf_nil))))) (ih26  (sF s 46 2 z121) z91 z116 z121 w26_46_1 hI124 (sF_get) (sF_ne rfl (v26_46_1)) n125 m126))
  refine g_enter2 (k := 173) (N := 901801) (by omega) rfl (Nat.le_of_ble_eq_true rfl) ?_
  refine g_iconst 0 1 (gd rfl) rfl rfl ?_
  refine g_istore_n 2 (gd rfl) rfl (Nat.le_of_ble_eq_true rfl) ?_
  refine g_iconst 0 3 (gd rfl) rfl rfl ?_
  refine g_istore 5 (gd rfl) rfl (Nat.le_of_ble_eq_true rfl) ?_
  refine g_aload_n 6 (gd rfl) rfl rfl ?_
  refine g_iload_n 7 (gd rfl) rfl rfl ?_
  refine g_if_eq 10 19 (gd rfl) rfl rfl (fun c127 => ?_) (fun c127 => ?_)
  · skip
    exact zn_eq c127 h1 rfl
  · skip
    refine g_aload_n 11 (gd rfl) rfl rfl ?_
    refine g_getI 14 (gd rfl) rfl rfl rfl (fun z128 e129 => ?_)
    have q130 : u_46_2 = z128 := (e_46_2).trans e129.symm
    subst q130
    refine g_iconst 1 15 (gd rfl) rfl rfl ?_
    refine g_iadd 16 (gd rfl) rfl (fun z131 e132 => ?_)
    have i133 := in_add 1 1001 e132 (inv_F hI 0 1000 rfl e_46_2) (in_c 1 rfl) rfl rfl
    refine g_goto 23 (gd rfl) rfl ?_
    have i134 : In z131 0 1000 := by have a0 := (in_c 0 rfl); unfold In at a0; have a1 := h2; unfold In at a1; have a2 := h1; unfold In at a2; have a3 := (inv_F hI 0 1000 rfl e_46_1); unfold In at a3; have a4 := (inv_F hI 0 1000 rfl e_46_2); unfold In at a4; have a5 := i133; unfold In at a5; have a6 := t_add e132 (inv_F hI 0 1000 rfl e_46_2) (in_c 1 rfl) rfl; have a7 := (in_c 1 rfl); unfold In at a7; exact ⟨by omega, by omega⟩
    refine g_putI 26 (gd rfl) rfl rfl rfl rfl ?_
    have hI135 := inv_sF (q := 46) (j := 2) hI rfl (in_w 0 1000 i134 rfl)
    have n136 : (z131).toInt ≤ (u_46_1).toInt := by have a0 := (in_c 0 rfl); unfold In at a0; have a1 := h2; unfold In at a1; have a2 := h1; unfold In at a2; have a3 := i134; unfold In at a3; have a4 := t_add e132 (inv_F hI 0 1000 rfl e_46_2) (in_c 1 rfl) rfl; have a5 := (in_c 1 rfl); unfold In at a5; have a6 := (inv_F hI 0 1000 rfl e_46_2); unfold In at a6; have a7 := (inv_F hI 0 1000 rfl e_46_1); unfold In at a7; omega
    have m137 : (u_46_1).toInt - (z131).toInt < ((1001 : Nat) : Int) := by have a0 := (in_c 0 rfl); unfold In at a0; have a1 := h2; unfold In at a1; have a2 := h1; unfold In at a2; have a3 := i134; unfold In at a3; have a4 := t_add e132 (inv_F hI 0 1000 rfl e_46_2) (in_c 1 rfl) rfl; have a5 := (in_c 1 rfl); unfold In at a5; have a6 := (inv_F hI 0 1000 rfl e_46_2); unfold In at a6; have a7 := (inv_F hI 0 1000 rfl e_46_1); unfold In at a7; omega
    exact gg_w (by omega) (gg_f (gf_cons rfl (gf_cons rfl (gf_cons rfl (gf_cons rfl (gf_cons rfl gf_nil))))) (ct26 1001 (sF s 46 2 z131) (Int32.ofInt 0) (Int32.ofInt 0) z131 u_46_1 hI135 (sF_get) (sF_ne rfl (e_46_1)) n136 m137))

/-- GraphHouse$Trees.copyArcs -/
theorem k_181_76_2 {Z : AmZ} {A : Nat → Nat} {s : GS} {ex : va_W} {d : Nat} {X : AmX}  (hd : 3 ≤ d) (hI : Inv s)  : GC Z d 181 [.ref (A 76), .ref (A 2)] (WW Z A s ++ ex) 0 0 (fun v u => ∃ t : GS, Inv t ∧ v = none ∧ u = WW Z A t ++ ex) X := by
  intro post xp hP hX
  have ct7 : ∀ (k7 : Nat) (s : GS) (y7_2 : Int32) (w7_76_0 : Int32), Inv s → In y7_2 0 160 → w7_76_0 = s.2.2.1 76 0 → (w7_76_0).toInt ≤ (y7_2).toInt → 160 - (y7_2).toInt < (k7 : Int) → GG Z (d - 1) 181 post (gx xp) (1 + k7 * 900) 7 (fun j => xlook j [(0, .ref (A 76)), (1, .ref (A 2)), (2, .int y7_2)]) [] (WW Z A s ++ ex) 0 0 := by
    intro k7
    induction k7 with
    | zero => intro s y7_2 w7_76_0 hI j7_2 v7_76_0 n7_0 mm7; exact m_no mm7 j7_2 rfl
    | succ k7 ih7 =>
      intro s y7_2 w7_76_0 hI j7_2 v7_76_0 n7_0 mm7
      refine gg_w (M := 1 + k7 * 900 + 900) (by omega) ?_
      refine g_iload_n 8 (gd rfl) rfl rfl ?_
      refine g_aload_n 9 (gd rfl) rfl rfl ?_
      refine g_getI 12 (gd rfl) rfl rfl rfl (fun z1 e2 => ?_)
      have i3 := inv_F hI 0 160 rfl e2
      refine g_cmp_ge 15 85 (gd rfl) rfl rfl (fun c4 => ?_) (fun c4 => ?_)
      · skip
        exact g_return (gd rfl) rfl (hP _ _ ⟨s, hI, rfl, rfl⟩)
      · skip
        have i5 := r_lt1 0 159 c4 j7_2 i3 rfl
        have i6 := r_lt2 1 160 c4 j7_2 i3 rfl
        refine g_aload_n 16 (gd rfl) rfl rfl ?_
        refine g_iload_n 17 (gd rfl) rfl rfl ?_
        refine g_callv (X := _) (As := [.int y7_2]) (r := []) (b := A 2) (q := 2) 20 (gd rfl) rfl rfl rfl rfl rfl (ww_o rfl) (Nat.le_of_ble_eq_true rfl) (mc := 0) (ms := 0) (Nat.zero_le _) (Nat.zero_le _) (P := fun v u => _) ?_ (fun e u h => h) (fun v u h => h)
        intro po7 xx8 hp9 hx10
        refine g_enter2 (k := 97) (N := 300) (by omega) rfl (Nat.le_of_ble_eq_true rfl) ?_
        refine g_aload_n 1 (gd rfl) rfl rfl ?_
        refine g_getA (q2 := 4) 4 (gd rfl) rfl rfl rfl rfl rfl ?_
        refine g_iload_n 5 (gd rfl) rfl rfl ?_
        refine g_iaload 6 (gd rfl) rfl (n := 160) rfl (in_ix i5 rfl) (fun z11 e12 => ?_)
        have i13 := inv_I hI (n := 160) (t := 0) (-1) 31 rfl (in_ix i5 rfl) rfl e12
        refine g_iconst (-1) 7 (gd rfl) rfl rfl ?_
        refine g_cmp_eq 10 29 (gd rfl) rfl rfl (fun c14 => ?_) (fun c14 => ?_)
        · skip
          have i15 := r_eq1 (-1) (-1) c14 i13 (in_c (-1) rfl) rfl
          refine g_iconst 0 30 (gd rfl) rfl rfl ?_
          refine g_ireturn (gd rfl) rfl (nb01 (in_w 0 1 (in_c 0 rfl) rfl)) (hp9 _ _ ?_)
          show GG _ _ _ _ _ _ _ _ [.int (Int32.ofInt 0)] _ _ _
          refine g_if_eq 23 79 (gd rfl) rfl rfl (fun c16 => ?_) (fun c16 => ?_)
          · skip
            refine g_iinc 82 (gd rfl) rfl rfl (Nat.le_of_ble_eq_true rfl) (fun z17 e18 => ?_)
            have i19 := in_add 1 160 e18 i5 (in_c 1 rfl) rfl rfl
            refine g_goto 7 (gd rfl) rfl ?_
            have n20 : (w7_76_0).toInt ≤ (z17).toInt := by have a0 := i19; unfold In at a0; have a1 := t_add e18 i5 (in_c 1 rfl) rfl; have a2 := (in_c 1 rfl); unfold In at a2; have a3 := i5; unfold In at a3; have a4 := i6; unfold In at a4; have a5 := (inv_F hI 0 160 rfl v7_76_0); unfold In at a5; omega
            exact gg_w (by omega) (gg_f (gf_cons rfl (gf_cons rfl (gf_cons rfl gf_nil))) (ih7 s z17 w7_76_0 hI (in_w 0 160 i19 rfl) (v7_76_0) n20 (m_up mm7 (t_add e18 i5 (in_c 1 rfl) rfl) (in_w 1 1 (in_c 1 rfl) rfl))))
          · skip
            exact zn_ne c16 (in_c 0 rfl) rfl
        · skip
          have i21 := r_ne1 0 31 c14 i13 (in_c (-1) rfl) rfl
          refine g_aload_n 11 (gd rfl) rfl rfl ?_
          refine g_getA (q2 := 4) 14 (gd rfl) rfl rfl rfl rfl rfl ?_
          refine g_iload_n 15 (gd rfl) rfl rfl ?_
          refine g_iaload 16 (gd rfl) rfl (n := 160) rfl (in_ix i5 rfl) (fun z22 e23 => ?_)
          have q24 : z11 = z22 := (e12).trans e23.symm
          subst q24
          refine g_aload_n 17 (gd rfl) rfl rfl ?_
          refine g_getA (q2 := 5) 20 (gd rfl) rfl rfl rfl rfl rfl ?_
          refine g_iload_n 21 (gd rfl) rfl rfl ?_
          refine g_iaload 22 (gd rfl) rfl (n := 160) rfl (in_ix i5 rfl) (fun z25 e26 => ?_)
          have i27 := inv_I hI (n := 160) (t := 0) 0 31 rfl (in_ix i5 rfl) rfl e26
          refine g_cmp_eq 25 29 (gd rfl) rfl rfl (fun c28 => ?_) (fun c28 => ?_)
          · skip
            refine g_iconst 0 30 (gd rfl) rfl rfl ?_
            refine g_ireturn (gd rfl) rfl (nb01 (in_w 0 1 (in_c 0 rfl) rfl)) (hp9 _ _ ?_)
            show GG _ _ _ _ _ _ _ _ [.int (Int32.ofInt 0)] _ _ _
            refine g_if_eq 23 79 (gd rfl) rfl rfl (fun c29 => ?_) (fun c29 => ?_)
            · skip
              refine g_iinc 82 (gd rfl) rfl rfl (Nat.le_of_ble_eq_true rfl) (fun z30 e31 => ?_)
              have i32 := in_add 1 160 e31 i5 (in_c 1 rfl) rfl rfl
              refine g_goto 7 (gd rfl) rfl ?_
              have n33 : (w7_76_0).toInt ≤ (z30).toInt := by have a0 := i32; unfold In at a0; have a1 := t_add e31 i5 (in_c 1 rfl) rfl; have a2 := (in_c 1 rfl); unfold In at a2; have a3 := i5; unfold In at a3; have a4 := i6; unfold In at a4; have a5 := (inv_F hI 0 160 rfl v7_76_0); unfold In at a5; omega
              exact gg_w (by omega) (gg_f (gf_cons rfl (gf_cons rfl (gf_cons rfl gf_nil))) (ih7 s z30 w7_76_0 hI (in_w 0 160 i32 rfl) (v7_76_0) n33 (m_up mm7 (t_add e31 i5 (in_c 1 rfl) rfl) (in_w 1 1 (in_c 1 rfl) rfl))))
            · skip
              exact zn_ne c29 (in_c 0 rfl) rfl
          · skip
            refine g_iconst 1 26 (gd rfl) rfl rfl ?_
            refine g_goto 30 (gd rfl) rfl ?_
            refine g_ireturn (gd rfl) rfl (nb01 (in_w 0 1 (in_c 1 rfl) rfl)) (hp9 _ _ ?_)
            show GG _ _ _ _ _ _ _ _ [.int (Int32.ofInt 1)] _ _ _
            refine g_if_eq 23 79 (gd rfl) rfl rfl (fun c34 => ?_) (fun c34 => ?_)
            · skip
              exact zn_eq c34 (in_c 1 rfl) rfl
            · skip
              refine g_aload_n 24 (gd rfl) rfl rfl ?_
              refine g_getA (q2 := 77) 27 (gd rfl) rfl rfl rfl rfl rfl ?_
              refine g_aload_n 28 (gd rfl) rfl rfl ?_
              refine g_getI 31 (gd rfl) rfl rfl rfl (fun z35 e36 => ?_)
              have q37 : w7_76_0 = z35 := (v7_76_0).trans e36.symm
              subst q37
              refine g_aload_n 32 (gd rfl) rfl rfl ?_
              refine g_getA (q2 := 4) 35 (gd rfl) rfl rfl rfl rfl rfl ?_
              refine g_iload_n 36 (gd rfl) rfl rfl ?_
              refine g_iaload 37 (gd rfl) rfl (n := 160) rfl (in_ix i5 rfl) (fun z38 e39 => ?_)
              have q40 : z11 = z38 := (e12).trans e39.symm
              subst q40
              have i41 : In w7_76_0 0 159 := by have a0 := i5; unfold In at a0; have a1 := i6; unfold In at a1; have a2 := (inv_F hI 0 160 rfl v7_76_0); unfold In at a2; exact ⟨by omega, by omega⟩
              refine g_iastore 38 (gd rfl) rfl (n := 160) rfl (in_ix i41 rfl) ?_
              have hI42 := inv_sI (q := 77) (j := w7_76_0.toNatClampNeg) hI rfl (in_w 0 31 i21 rfl)
              refine g_aload_n 39 (gd rfl) rfl rfl ?_
              refine g_getA (q2 := 78) 42 (gd rfl) rfl rfl rfl rfl rfl ?_
              refine g_aload_n 43 (gd rfl) rfl rfl ?_
              refine g_getI 46 (gd rfl) rfl rfl rfl (fun z43 e44 => ?_)
              have q45 : w7_76_0 = z43 := (v7_76_0).trans e44.symm
              subst q45
              refine g_aload_n 47 (gd rfl) rfl rfl ?_
              refine g_getA (q2 := 5) 50 (gd rfl) rfl rfl rfl rfl rfl ?_
              refine g_iload_n 51 (gd rfl) rfl rfl ?_
              refine g_iaload 52 (gd rfl) rfl (n := 160) rfl (in_ix i5 rfl) (fun z46 e47 => ?_)
              have q48 : z25 = z46 := (sI_ne rfl (e26)).trans e47.symm
              subst q48
              refine g_iastore 53 (gd rfl) rfl (n := 160) rfl (in_ix i41 rfl) ?_
              have hI49 := inv_sI (q := 78) (j := w7_76_0.toNatClampNeg) hI42 rfl (in_w 0 31 i27 rfl)
              refine g_aload_n 54 (gd rfl) rfl rfl ?_
              refine g_getA (q2 := 79) 57 (gd rfl) rfl rfl rfl rfl rfl ?_
              refine g_aload_n 58 (gd rfl) rfl rfl ?_
              refine g_getI 61 (gd rfl) rfl rfl rfl (fun z50 e51 => ?_)
              have q52 : w7_76_0 = z50 := (v7_76_0).trans e51.symm
              subst q52
              refine g_aload_n 62 (gd rfl) rfl rfl ?_
              refine g_getA (q2 := 6) 65 (gd rfl) rfl rfl rfl rfl rfl ?_
              refine g_iload_n 66 (gd rfl) rfl rfl ?_
              refine g_iaload 67 (gd rfl) rfl (n := 160) rfl (in_ix i5 rfl) (fun z53 e54 => ?_)
              have i55 := inv_I hI49 (n := 160) (t := 0) (-1000000) 1000000 rfl (in_ix i5 rfl) rfl e54
              refine g_i2l 68 (gd rfl) rfl (fun z56 e57 => ?_)
              have i58 := l_i e57 i55
              refine g_lastore 69 (gd rfl) rfl (n := 160) rfl (in_ix i41 rfl) ?_
              have hI59 := inv_sL (q := 79) (j := w7_76_0.toNatClampNeg) (x := z56) hI49
              refine g_aload_n 70 (gd rfl) rfl rfl ?_
              refine g_dup 71 (gd rfl) rfl rfl ?_
              refine g_getI 74 (gd rfl) rfl rfl rfl (fun z60 e61 => ?_)
              have q62 : w7_76_0 = z60 := (v7_76_0).trans e61.symm
              subst q62
              refine g_iconst 1 75 (gd rfl) rfl rfl ?_
              refine g_iadd 76 (gd rfl) rfl (fun z63 e64 => ?_)
              have i65 := in_add 1 160 e64 i41 (in_c 1 rfl) rfl rfl
              refine g_putI 79 (gd rfl) rfl rfl rfl rfl ?_
              have hI66 := inv_sF (q := 76) (j := 0) hI59 rfl (in_w 0 160 i65 rfl)
              refine g_iinc 82 (gd rfl) rfl rfl (Nat.le_of_ble_eq_true rfl) (fun z67 e68 => ?_)
              have i69 := in_add 1 160 e68 i5 (in_c 1 rfl) rfl rfl
              refine g_goto 7 (gd rfl) rfl ?_
              have n70 : (z63).toInt ≤ (z67).toInt := by have a0 := i69; unfold In at a0; have a1 := t_add e68 i5 (in_c 1 rfl) rfl; have a2 := (in_c 1 rfl); unfold In at a2; have a3 := i5; unfold In at a3; have a4 := i65; unfold In at a4; have a5 := t_add e64 i41 (in_c 1 rfl) rfl; have a6 := i41; unfold In at a6; have a7 := i6; unfold In at a7; omega
              exact gg_w (by omega) (gg_f (gf_cons rfl (gf_cons rfl (gf_cons rfl gf_nil))) (ih7 (sF (sL (sI (sI s 77 w7_76_0.toNatClampNeg z11) 78 w7_76_0.toNatClampNeg z25) 79 w7_76_0.toNatClampNeg z56) 76 0 z63) z67 z63 hI66 (in_w 0 160 i69 rfl) (sF_get) n70 (m_up mm7 (t_add e68 i5 (in_c 1 rfl) rfl) (in_w 1 1 (in_c 1 rfl) rfl))))
  refine g_enter2 (k := 181) (N := 145801) (by omega) rfl (Nat.le_of_ble_eq_true rfl) ?_
  refine g_aload_n 1 (gd rfl) rfl rfl ?_
  refine g_iconst 0 2 (gd rfl) rfl rfl ?_
  refine g_putI 5 (gd rfl) rfl rfl rfl rfl ?_
  have hI71 := inv_sF (q := 76) (j := 0) hI rfl (in_w 0 160 (in_c 0 rfl) rfl)
  refine g_iconst 0 6 (gd rfl) rfl rfl ?_
  refine g_istore_n 7 (gd rfl) rfl (Nat.le_of_ble_eq_true rfl) ?_
  have n72 : ((Int32.ofInt 0)).toInt ≤ ((Int32.ofInt 0)).toInt := by have a0 := (in_c 0 rfl); unfold In at a0; omega
  exact gg_w (by omega) (gg_f (gf_cons rfl (gf_cons rfl (gf_cons rfl gf_nil))) (ct7 161 (sF s 76 0 (Int32.ofInt 0)) (Int32.ofInt 0) (Int32.ofInt 0) hI71 (in_w 0 160 (in_c 0 rfl) rfl) (sF_get) n72 (m_in 161 (in_w 0 160 (in_c 0 rfl) rfl) rfl)))

/-- GraphHouse$Trees.copyArcs -/
theorem k_181_76_32 {Z : AmZ} {A : Nat → Nat} {s : GS} {ex : va_W} {d : Nat} {X : AmX}  (hd : 3 ≤ d) (hI : Inv s)  : GC Z d 181 [.ref (A 76), .ref (A 32)] (WW Z A s ++ ex) 0 0 (fun v u => ∃ t : GS, Inv t ∧ v = none ∧ u = WW Z A t ++ ex) X := by
  intro post xp hP hX
  have ct7 : ∀ (k7 : Nat) (s : GS) (y7_2 : Int32) (w7_76_0 : Int32), Inv s → In y7_2 0 160 → w7_76_0 = s.2.2.1 76 0 → (w7_76_0).toInt ≤ (y7_2).toInt → 160 - (y7_2).toInt < (k7 : Int) → GG Z (d - 1) 181 post (gx xp) (1 + k7 * 900) 7 (fun j => xlook j [(0, .ref (A 76)), (1, .ref (A 32)), (2, .int y7_2)]) [] (WW Z A s ++ ex) 0 0 := by
    intro k7
    induction k7 with
    | zero => intro s y7_2 w7_76_0 hI j7_2 v7_76_0 n7_0 mm7; exact m_no mm7 j7_2 rfl
    | succ k7 ih7 =>
      intro s y7_2 w7_76_0 hI j7_2 v7_76_0 n7_0 mm7
      refine gg_w (M := 1 + k7 * 900 + 900) (by omega) ?_
      refine g_iload_n 8 (gd rfl) rfl rfl ?_
      refine g_aload_n 9 (gd rfl) rfl rfl ?_
      refine g_getI 12 (gd rfl) rfl rfl rfl (fun z1 e2 => ?_)
      have i3 := inv_F hI 0 160 rfl e2
      refine g_cmp_ge 15 85 (gd rfl) rfl rfl (fun c4 => ?_) (fun c4 => ?_)
      · skip
        exact g_return (gd rfl) rfl (hP _ _ ⟨s, hI, rfl, rfl⟩)
      · skip
        have i5 := r_lt1 0 159 c4 j7_2 i3 rfl
        have i6 := r_lt2 1 160 c4 j7_2 i3 rfl
        refine g_aload_n 16 (gd rfl) rfl rfl ?_
        refine g_iload_n 17 (gd rfl) rfl rfl ?_
        refine g_callv (X := _) (As := [.int y7_2]) (r := []) (b := A 32) (q := 32) 20 (gd rfl) rfl rfl rfl rfl rfl (ww_o rfl) (Nat.le_of_ble_eq_true rfl) (mc := 0) (ms := 0) (Nat.zero_le _) (Nat.zero_le _) (P := fun v u => _) ?_ (fun e u h => h) (fun v u h => h)
        intro po7 xx8 hp9 hx10
        refine g_enter2 (k := 97) (N := 300) (by omega) rfl (Nat.le_of_ble_eq_true rfl) ?_
        refine g_aload_n 1 (gd rfl) rfl rfl ?_
        refine g_getA (q2 := 34) 4 (gd rfl) rfl rfl rfl rfl rfl ?_
        refine g_iload_n 5 (gd rfl) rfl rfl ?_
        refine g_iaload 6 (gd rfl) rfl (n := 160) rfl (in_ix i5 rfl) (fun z11 e12 => ?_)
        have i13 := inv_I hI (n := 160) (t := 0) (-1) 31 rfl (in_ix i5 rfl) rfl e12
        refine g_iconst (-1) 7 (gd rfl) rfl rfl ?_
        refine g_cmp_eq 10 29 (gd rfl) rfl rfl (fun c14 => ?_) (fun c14 => ?_)
        · skip
          have i15 := r_eq1 (-1) (-1) c14 i13 (in_c (-1) rfl) rfl
          refine g_iconst 0 30 (gd rfl) rfl rfl ?_
          refine g_ireturn (gd rfl) rfl (nb01 (in_w 0 1 (in_c 0 rfl) rfl)) (hp9 _ _ ?_)
          show GG _ _ _ _ _ _ _ _ [.int (Int32.ofInt 0)] _ _ _
          refine g_if_eq 23 79 (gd rfl) rfl rfl (fun c16 => ?_) (fun c16 => ?_)
          · skip
            refine g_iinc 82 (gd rfl) rfl rfl (Nat.le_of_ble_eq_true rfl) (fun z17 e18 => ?_)
            have i19 := in_add 1 160 e18 i5 (in_c 1 rfl) rfl rfl
            refine g_goto 7 (gd rfl) rfl ?_
            have n20 : (w7_76_0).toInt ≤ (z17).toInt := by have a0 := i19; unfold In at a0; have a1 := t_add e18 i5 (in_c 1 rfl) rfl; have a2 := (in_c 1 rfl); unfold In at a2; have a3 := i5; unfold In at a3; have a4 := i6; unfold In at a4; have a5 := (inv_F hI 0 160 rfl v7_76_0); unfold In at a5; omega
            exact gg_w (by omega) (gg_f (gf_cons rfl (gf_cons rfl (gf_cons rfl gf_nil))) (ih7 s z17 w7_76_0 hI (in_w 0 160 i19 rfl) (v7_76_0) n20 (m_up mm7 (t_add e18 i5 (in_c 1 rfl) rfl) (in_w 1 1 (in_c 1 rfl) rfl))))
          · skip
            exact zn_ne c16 (in_c 0 rfl) rfl
        · skip
          have i21 := r_ne1 0 31 c14 i13 (in_c (-1) rfl) rfl
          refine g_aload_n 11 (gd rfl) rfl rfl ?_
          refine g_getA (q2 := 34) 14 (gd rfl) rfl rfl rfl rfl rfl ?_
          refine g_iload_n 15 (gd rfl) rfl rfl ?_
          refine g_iaload 16 (gd rfl) rfl (n := 160) rfl (in_ix i5 rfl) (fun z22 e23 => ?_)
          have q24 : z11 = z22 := (e12).trans e23.symm
          subst q24
          refine g_aload_n 17 (gd rfl) rfl rfl ?_
          refine g_getA (q2 := 35) 20 (gd rfl) rfl rfl rfl rfl rfl ?_
          refine g_iload_n 21 (gd rfl) rfl rfl ?_
          refine g_iaload 22 (gd rfl) rfl (n := 160) rfl (in_ix i5 rfl) (fun z25 e26 => ?_)
          have i27 := inv_I hI (n := 160) (t := 0) 0 31 rfl (in_ix i5 rfl) rfl e26
          refine g_cmp_eq 25 29 (gd rfl) rfl rfl (fun c28 => ?_) (fun c28 => ?_)
          · skip
            refine g_iconst 0 30 (gd rfl) rfl rfl ?_
            refine g_ireturn (gd rfl) rfl (nb01 (in_w 0 1 (in_c 0 rfl) rfl)) (hp9 _ _ ?_)
            show GG _ _ _ _ _ _ _ _ [.int (Int32.ofInt 0)] _ _ _
            refine g_if_eq 23 79 (gd rfl) rfl rfl (fun c29 => ?_) (fun c29 => ?_)
            · skip
              refine g_iinc 82 (gd rfl) rfl rfl (Nat.le_of_ble_eq_true rfl) (fun z30 e31 => ?_)
              have i32 := in_add 1 160 e31 i5 (in_c 1 rfl) rfl rfl
              refine g_goto 7 (gd rfl) rfl ?_
              have n33 : (w7_76_0).toInt ≤ (z30).toInt := by have a0 := i32; unfold In at a0; have a1 := t_add e31 i5 (in_c 1 rfl) rfl; have a2 := (in_c 1 rfl); unfold In at a2; have a3 := i5; unfold In at a3; have a4 := i6; unfold In at a4; have a5 := (inv_F hI 0 160 rfl v7_76_0); unfold In at a5; omega
              exact gg_w (by omega) (gg_f (gf_cons rfl (gf_cons rfl (gf_cons rfl gf_nil))) (ih7 s z30 w7_76_0 hI (in_w 0 160 i32 rfl) (v7_76_0) n33 (m_up mm7 (t_add e31 i5 (in_c 1 rfl) rfl) (in_w 1 1 (in_c 1 rfl) rfl))))
            · skip
              exact zn_ne c29 (in_c 0 rfl) rfl
          · skip
            refine g_iconst 1 26 (gd rfl) rfl rfl ?_
            refine g_goto 30 (gd rfl) rfl ?_
            refine g_ireturn (gd rfl) rfl (nb01 (in_w 0 1 (in_c 1 rfl) rfl)) (hp9 _ _ ?_)
            show GG _ _ _ _ _ _ _ _ [.int (Int32.ofInt 1)] _ _ _
            refine g_if_eq 23 79 (gd rfl) rfl rfl (fun c34 => ?_) (fun c34 => ?_)
            · skip
              exact zn_eq c34 (in_c 1 rfl) rfl
            · skip
              refine g_aload_n 24 (gd rfl) rfl rfl ?_
              refine g_getA (q2 := 77) 27 (gd rfl) rfl rfl rfl rfl rfl ?_
              refine g_aload_n 28 (gd rfl) rfl rfl ?_
              refine g_getI 31 (gd rfl) rfl rfl rfl (fun z35 e36 => ?_)
              have q37 : w7_76_0 = z35 := (v7_76_0).trans e36.symm
              subst q37
              refine g_aload_n 32 (gd rfl) rfl rfl ?_
              refine g_getA (q2 := 34) 35 (gd rfl) rfl rfl rfl rfl rfl ?_
              refine g_iload_n 36 (gd rfl) rfl rfl ?_
              refine g_iaload 37 (gd rfl) rfl (n := 160) rfl (in_ix i5 rfl) (fun z38 e39 => ?_)
              have q40 : z11 = z38 := (e12).trans e39.symm
              subst q40
              have i41 : In w7_76_0 0 159 := by have a0 := i5; unfold In at a0; have a1 := i6; unfold In at a1; have a2 := (inv_F hI 0 160 rfl v7_76_0); unfold In at a2; exact ⟨by omega, by omega⟩
              refine g_iastore 38 (gd rfl) rfl (n := 160) rfl (in_ix i41 rfl) ?_
              have hI42 := inv_sI (q := 77) (j := w7_76_0.toNatClampNeg) hI rfl (in_w 0 31 i21 rfl)
              refine g_aload_n 39 (gd rfl) rfl rfl ?_
              refine g_getA (q2 := 78) 42 (gd rfl) rfl rfl rfl rfl rfl ?_
              refine g_aload_n 43 (gd rfl) rfl rfl ?_
              refine g_getI 46 (gd rfl) rfl rfl rfl (fun z43 e44 => ?_)
              have q45 : w7_76_0 = z43 := (v7_76_0).trans e44.symm
              subst q45
              refine g_aload_n 47 (gd rfl) rfl rfl ?_
              refine g_getA (q2 := 35) 50 (gd rfl) rfl rfl rfl rfl rfl ?_
              refine g_iload_n 51 (gd rfl) rfl rfl ?_
              refine g_iaload 52 (gd rfl) rfl (n := 160) rfl (in_ix i5 rfl) (fun z46 e47 => ?_)
              have q48 : z25 = z46 := (sI_ne rfl (e26)).trans e47.symm
              subst q48
              refine g_iastore 53 (gd rfl) rfl (n := 160) rfl (in_ix i41 rfl) ?_
              have hI49 := inv_sI (q := 78) (j := w7_76_0.toNatClampNeg) hI42 rfl (in_w 0 31 i27 rfl)
              refine g_aload_n 54 (gd rfl) rfl rfl ?_
              refine g_getA (q2 := 79) 57 (gd rfl) rfl rfl rfl rfl rfl ?_
              refine g_aload_n 58 (gd rfl) rfl rfl ?_
              refine g_getI 61 (gd rfl) rfl rfl rfl (fun z50 e51 => ?_)
              have q52 : w7_76_0 = z50 := (v7_76_0).trans e51.symm
              subst q52
              refine g_aload_n 62 (gd rfl) rfl rfl ?_
              refine g_getA (q2 := 36) 65 (gd rfl) rfl rfl rfl rfl rfl ?_
              refine g_iload_n 66 (gd rfl) rfl rfl ?_
              refine g_iaload 67 (gd rfl) rfl (n := 160) rfl (in_ix i5 rfl) (fun z53 e54 => ?_)
              have i55 := inv_I hI49 (n := 160) (t := 0) (-1000000) 1000000 rfl (in_ix i5 rfl) rfl e54
              refine g_i2l 68 (gd rfl) rfl (fun z56 e57 => ?_)
              have i58 := l_i e57 i55
              refine g_lastore 69 (gd rfl) rfl (n := 160) rfl (in_ix i41 rfl) ?_
              have hI59 := inv_sL (q := 79) (j := w7_76_0.toNatClampNeg) (x := z56) hI49
              refine g_aload_n 70 (gd rfl) rfl rfl ?_
              refine g_dup 71 (gd rfl) rfl rfl ?_
              refine g_getI 74 (gd rfl) rfl rfl rfl (fun z60 e61 => ?_)
              have q62 : w7_76_0 = z60 := (v7_76_0).trans e61.symm
              subst q62
              refine g_iconst 1 75 (gd rfl) rfl rfl ?_
              refine g_iadd 76 (gd rfl) rfl (fun z63 e64 => ?_)
              have i65 := in_add 1 160 e64 i41 (in_c 1 rfl) rfl rfl
              refine g_putI 79 (gd rfl) rfl rfl rfl rfl ?_
              have hI66 := inv_sF (q := 76) (j := 0) hI59 rfl (in_w 0 160 i65 rfl)
              refine g_iinc 82 (gd rfl) rfl rfl (Nat.le_of_ble_eq_true rfl) (fun z67 e68 => ?_)
              have i69 := in_add 1 160 e68 i5 (in_c 1 rfl) rfl rfl
              refine g_goto 7 (gd rfl) rfl ?_
              have n70 : (z63).toInt ≤ (z67).toInt := by have a0 := i69; unfold In at a0; have a1 := t_add e68 i5 (in_c 1 rfl) rfl; have a2 := (in_c 1 rfl); unfold In at a2; have a3 := i5; unfold In at a3; have a4 := i65; unfold In at a4; have a5 := t_add e64 i41 (in_c 1 rfl) rfl; have a6 := i41; unfold In at a6; have a7 := i6; unfold In at a7; omega
              exact gg_w (by omega) (gg_f (gf_cons rfl (gf_cons rfl (gf_cons rfl gf_nil))) (ih7 (sF (sL (sI (sI s 77 w7_76_0.toNatClampNeg z11) 78 w7_76_0.toNatClampNeg z25) 79 w7_76_0.toNatClampNeg z56) 76 0 z63) z67 z63 hI66 (in_w 0 160 i69 rfl) (sF_get) n70 (m_up mm7 (t_add e68 i5 (in_c 1 rfl) rfl) (in_w 1 1 (in_c 1 rfl) rfl))))
  refine g_enter2 (k := 181) (N := 145801) (by omega) rfl (Nat.le_of_ble_eq_true rfl) ?_
  refine g_aload_n 1 (gd rfl) rfl rfl ?_
  refine g_iconst 0 2 (gd rfl) rfl rfl ?_
  refine g_putI 5 (gd rfl) rfl rfl rfl rfl ?_
  have hI71 := inv_sF (q := 76) (j := 0) hI rfl (in_w 0 160 (in_c 0 rfl) rfl)
  refine g_iconst 0 6 (gd rfl) rfl rfl ?_
  refine g_istore_n 7 (gd rfl) rfl (Nat.le_of_ble_eq_true rfl) ?_
  have n72 : ((Int32.ofInt 0)).toInt ≤ ((Int32.ofInt 0)).toInt := by have a0 := (in_c 0 rfl); unfold In at a0; omega
  exact gg_w (by omega) (gg_f (gf_cons rfl (gf_cons rfl (gf_cons rfl gf_nil))) (ct7 161 (sF s 76 0 (Int32.ofInt 0)) (Int32.ofInt 0) (Int32.ofInt 0) hI71 (in_w 0 160 (in_c 0 rfl) rfl) (sF_get) n72 (m_in 161 (in_w 0 160 (in_c 0 rfl) rfl) rfl)))

/-- GraphHouse$Ways.leads -/
theorem k_209_49_2 {Z : AmZ} {A : Nat → Nat} {s : GS} {ex : va_W} {d : Nat} {X : AmX} {x2 : Int32} {x3 : Int32} {x4 : Int32} (hd : 4 ≤ d) (hI : Inv s) (h2 : In x2 0 31) (h4 : In x4 0 3) : GC Z d 209 [.ref (A 49), .ref (A 2), .int x2, .int x3, .int x4] (WW Z A s ++ ex) 0 0 (fun v u => ∃ z : Int32, v = some (.int z) ∧ u = WW Z A s ++ ex ∧ In z 0 1) X := by
  intro post xp hP hX
  have ct60 : ∀ (k60 : Nat) (y60_5 : Int32) (y60_6 : Int32) (y60_7 : Int32), ((y60_7.toBitVec.toNat : Nat) : Int) < (k60 : Int) → GG Z (d - 1) 209 post (gx xp) (1 + k60 * 900) 60 (fun j => xlook j [(0, .ref (A 49)), (1, .ref (A 2)), (2, .int x2), (3, .int x3), (4, .int x4), (5, .int y60_5), (6, .int y60_6), (7, .int y60_7)]) [] (WW Z A s ++ ex) 0 0 := by
    intro k60
    induction k60 with
    | zero => intro y60_5 y60_6 y60_7  mm60; exact absurd mm60 (Int.not_lt.mpr (Int.natCast_nonneg _))
    | succ k60 ih60 =>
      intro y60_5 y60_6 y60_7  mm60
      refine gg_w (M := 1 + k60 * 900 + 900) (by omega) ?_
      refine g_iload 62 (gd rfl) rfl rfl ?_
      refine g_iconst 3 63 (gd rfl) rfl rfl ?_
      refine g_cmp_lt 66 105 (gd rfl) rfl rfl (fun c1 => ?_) (fun c1 => ?_)
      · skip
        have i2 := r_lt1 0 2 c1 h4 (in_c 3 rfl) rfl
        refine g_iconst 0 106 (gd rfl) rfl rfl ?_
        exact g_ireturn (gd rfl) rfl (nb01 (in_w 0 1 (in_c 0 rfl) rfl)) (hP _ _ ⟨(Int32.ofInt 0), rfl, rfl, in_w 0 1 (in_c 0 rfl) rfl⟩)
      · skip
        have i3 := r_le2 3 3 c1 (in_c 3 rfl) h4 rfl
        refine g_iload 68 (gd rfl) rfl rfl ?_
        refine g_if_eq 71 105 (gd rfl) rfl rfl (fun c4 => ?_) (fun c4 => ?_)
        · skip
          have i5 := z_eq 0 0 c4 (i_rng y60_7) rfl
          refine g_iconst 0 106 (gd rfl) rfl rfl ?_
          exact g_ireturn (gd rfl) rfl (nb01 (in_w 0 1 (in_c 0 rfl) rfl)) (hP _ _ ⟨(Int32.ofInt 0), rfl, rfl, in_w 0 1 (in_c 0 rfl) rfl⟩)
        · skip
          refine g_aload_n 72 (gd rfl) rfl rfl ?_
          refine g_getA (q2 := 10) 75 (gd rfl) rfl rfl rfl rfl rfl ?_
          refine g_iload 77 (gd rfl) rfl rfl ?_
          refine g_calls (As := [.int y60_7]) (r := [.ref (A 10)]) 80 (gd rfl) rfl rfl rfl rfl rfl (Nat.le_of_ble_eq_true rfl) (Nat.zero_le _) (Nat.zero_le _) (k_264n (by omega) c4) (fun v u h => ?_)
          obtain ⟨z6, rfl, rfl, i7⟩ := h
          show GG _ _ _ _ _ _ _ _ [.int z6, .ref (A 10)] _ _ _
          refine g_iaload 81 (gd rfl) rfl (n := 32) rfl (in_ix i7 rfl) (fun z8 e9 => ?_)
          refine g_iload_n 82 (gd rfl) rfl rfl ?_
          refine g_iconst (-1) 83 (gd rfl) rfl rfl ?_
          refine g_ixor 84 (gd rfl) rfl (fun z10 e11 => ?_)
          refine g_iand 85 (gd rfl) rfl (fun z12 e13 => ?_)
          refine g_iload 87 (gd rfl) rfl rfl ?_
          refine g_iand 88 (gd rfl) rfl (fun z14 e15 => ?_)
          refine g_if_eq 91 93 (gd rfl) rfl rfl (fun c16 => ?_) (fun c16 => ?_)
          · skip
            have i17 := z_eq 0 0 c16 (i_rng z14) rfl
            refine g_iload 95 (gd rfl) rfl rfl ?_
            refine g_iload 97 (gd rfl) rfl rfl ?_
            refine g_iconst 1 98 (gd rfl) rfl rfl ?_
            refine g_isub 99 (gd rfl) rfl (fun z18 e19 => ?_)
            refine g_iand 100 (gd rfl) rfl (fun z20 e21 => ?_)
            refine g_istore 102 (gd rfl) rfl (Nat.le_of_ble_eq_true rfl) ?_
            refine g_goto 60 (gd rfl) rfl ?_
            exact gg_w (by omega) (gg_f (gf_cons rfl (gf_cons rfl (gf_cons rfl (gf_cons rfl (gf_cons rfl (gf_cons rfl (gf_cons rfl (gf_cons rfl gf_nil)))))))) (ih60  y60_5 y60_6 z20   (mb e21 e19 c4 mm60)))
          · skip
            refine g_iconst 1 92 (gd rfl) rfl rfl ?_
            exact g_ireturn (gd rfl) rfl (nb01 (in_w 0 1 (in_c 1 rfl) rfl)) (hP _ _ ⟨(Int32.ofInt 1), rfl, rfl, in_w 0 1 (in_c 1 rfl) rfl⟩)
  refine g_enter2 (k := 209) (N := 3865470567301) (by omega) rfl (Nat.le_of_ble_eq_true rfl) ?_
  refine g_aload_n 1 (gd rfl) rfl rfl ?_
  refine g_getA (q2 := 11) 4 (gd rfl) rfl rfl rfl rfl rfl ?_
  refine g_aload_n 5 (gd rfl) rfl rfl ?_
  refine g_getI 8 (gd rfl) rfl rfl rfl (fun z22 e23 => ?_)
  have i24 := inv_F hI 0 31 rfl e23
  refine g_iaload 9 (gd rfl) rfl (n := 32) rfl (in_ix i24 rfl) (fun z25 e26 => ?_)
  refine g_istore 11 (gd rfl) rfl (Nat.le_of_ble_eq_true rfl) ?_
  refine g_iload 13 (gd rfl) rfl rfl ?_
  refine g_iconst 1 14 (gd rfl) rfl rfl ?_
  refine g_cmp_lt 17 28 (gd rfl) rfl rfl (fun c27 => ?_) (fun c27 => ?_)
  · skip
    have i28 := r_lt1 0 0 c27 h4 (in_c 1 rfl) rfl
    refine g_aload_n 29 (gd rfl) rfl rfl ?_
    refine g_getA (q2 := 10) 32 (gd rfl) rfl rfl rfl rfl rfl ?_
    refine g_iload_n 33 (gd rfl) rfl rfl ?_
    refine g_iaload 34 (gd rfl) rfl (n := 32) rfl (in_ix h2 rfl) (fun z29 e30 => ?_)
    refine g_iload_n 35 (gd rfl) rfl rfl ?_
    refine g_iconst (-1) 36 (gd rfl) rfl rfl ?_
    refine g_ixor 37 (gd rfl) rfl (fun z31 e32 => ?_)
    refine g_iand 38 (gd rfl) rfl (fun z33 e34 => ?_)
    refine g_istore 40 (gd rfl) rfl (Nat.le_of_ble_eq_true rfl) ?_
    refine g_iload 42 (gd rfl) rfl rfl ?_
    refine g_iconst 2 43 (gd rfl) rfl rfl ?_
    refine g_cmp_lt 46 56 (gd rfl) rfl rfl (fun c35 => ?_) (fun c35 => ?_)
    · skip
      refine g_iload 58 (gd rfl) rfl rfl ?_
      refine g_istore 60 (gd rfl) rfl (Nat.le_of_ble_eq_true rfl) ?_
      exact gg_w (by omega) (gg_f (gf_cons rfl (gf_cons rfl (gf_cons rfl (gf_cons rfl (gf_cons rfl (gf_cons rfl (gf_cons rfl (gf_cons rfl gf_nil)))))))) (ct60 4294967296  z25 z33 z33   (mb_in _)))
    · skip
      exact n_le c35 (in_c 2 rfl) i28 rfl
  · skip
    have i36 := r_le2 1 3 c27 (in_c 1 rfl) h4 rfl
    refine g_iload 19 (gd rfl) rfl rfl ?_
    refine g_iload_n 20 (gd rfl) rfl rfl ?_
    refine g_ishr 21 (gd rfl) rfl (fun z37 e38 => ?_)
    refine g_iconst 1 22 (gd rfl) rfl rfl ?_
    refine g_iand 23 (gd rfl) rfl (fun z39 e40 => ?_)
    have i41 := in_and2 e40 (in_c 1 rfl) rfl
    refine g_if_eq 26 28 (gd rfl) rfl rfl (fun c42 => ?_) (fun c42 => ?_)
    · skip
      have i43 := z_eq 0 0 c42 i41 rfl
      refine g_aload_n 29 (gd rfl) rfl rfl ?_
      refine g_getA (q2 := 10) 32 (gd rfl) rfl rfl rfl rfl rfl ?_
      refine g_iload_n 33 (gd rfl) rfl rfl ?_
      refine g_iaload 34 (gd rfl) rfl (n := 32) rfl (in_ix h2 rfl) (fun z44 e45 => ?_)
      refine g_iload_n 35 (gd rfl) rfl rfl ?_
      refine g_iconst (-1) 36 (gd rfl) rfl rfl ?_
      refine g_ixor 37 (gd rfl) rfl (fun z46 e47 => ?_)
      refine g_iand 38 (gd rfl) rfl (fun z48 e49 => ?_)
      refine g_istore 40 (gd rfl) rfl (Nat.le_of_ble_eq_true rfl) ?_
      refine g_iload 42 (gd rfl) rfl rfl ?_
      refine g_iconst 2 43 (gd rfl) rfl rfl ?_
      refine g_cmp_lt 46 56 (gd rfl) rfl rfl (fun c50 => ?_) (fun c50 => ?_)
      · skip
        have i51 := r_lt1 1 1 c50 i36 (in_c 2 rfl) rfl
        refine g_iload 58 (gd rfl) rfl rfl ?_
        refine g_istore 60 (gd rfl) rfl (Nat.le_of_ble_eq_true rfl) ?_
        exact gg_w (by omega) (gg_f (gf_cons rfl (gf_cons rfl (gf_cons rfl (gf_cons rfl (gf_cons rfl (gf_cons rfl (gf_cons rfl (gf_cons rfl gf_nil)))))))) (ct60 4294967296  z25 z48 z48   (mb_in _)))
      · skip
        have i52 := r_le2 2 3 c50 (in_c 2 rfl) i36 rfl
        refine g_iload 48 (gd rfl) rfl rfl ?_
        refine g_iload 50 (gd rfl) rfl rfl ?_
        refine g_iand 51 (gd rfl) rfl (fun z53 e54 => ?_)
        refine g_if_eq 54 56 (gd rfl) rfl rfl (fun c55 => ?_) (fun c55 => ?_)
        · skip
          have i56 := z_eq 0 0 c55 (i_rng z53) rfl
          refine g_iload 58 (gd rfl) rfl rfl ?_
          refine g_istore 60 (gd rfl) rfl (Nat.le_of_ble_eq_true rfl) ?_
          exact gg_w (by omega) (gg_f (gf_cons rfl (gf_cons rfl (gf_cons rfl (gf_cons rfl (gf_cons rfl (gf_cons rfl (gf_cons rfl (gf_cons rfl gf_nil)))))))) (ct60 4294967296  z25 z48 z48   (mb_in _)))
        · skip
          refine g_iconst 1 55 (gd rfl) rfl rfl ?_
          exact g_ireturn (gd rfl) rfl (nb01 (in_w 0 1 (in_c 1 rfl) rfl)) (hP _ _ ⟨(Int32.ofInt 1), rfl, rfl, in_w 0 1 (in_c 1 rfl) rfl⟩)
    · skip
      have i57 := z_ne 1 1 c42 i41 rfl
      refine g_iconst 1 27 (gd rfl) rfl rfl ?_
      exact g_ireturn (gd rfl) rfl (nb01 (in_w 0 1 (in_c 1 rfl) rfl)) (hP _ _ ⟨(Int32.ofInt 1), rfl, rfl, in_w 0 1 (in_c 1 rfl) rfl⟩)

/-- GraphHouse$Ways.leads -/
theorem k_209_49_32 {Z : AmZ} {A : Nat → Nat} {s : GS} {ex : va_W} {d : Nat} {X : AmX} {x2 : Int32} {x3 : Int32} {x4 : Int32} (hd : 4 ≤ d) (hI : Inv s) (h2 : In x2 0 31) (h4 : In x4 0 3) : GC Z d 209 [.ref (A 49), .ref (A 32), .int x2, .int x3, .int x4] (WW Z A s ++ ex) 0 0 (fun v u => ∃ z : Int32, v = some (.int z) ∧ u = WW Z A s ++ ex ∧ In z 0 1) X := by
  intro post xp hP hX
  have ct60 : ∀ (k60 : Nat) (y60_5 : Int32) (y60_6 : Int32) (y60_7 : Int32), ((y60_7.toBitVec.toNat : Nat) : Int) < (k60 : Int) → GG Z (d - 1) 209 post (gx xp) (1 + k60 * 900) 60 (fun j => xlook j [(0, .ref (A 49)), (1, .ref (A 32)), (2, .int x2), (3, .int x3), (4, .int x4), (5, .int y60_5), (6, .int y60_6), (7, .int y60_7)]) [] (WW Z A s ++ ex) 0 0 := by
    intro k60
    induction k60 with
    | zero => intro y60_5 y60_6 y60_7  mm60; exact absurd mm60 (Int.not_lt.mpr (Int.natCast_nonneg _))
    | succ k60 ih60 =>
      intro y60_5 y60_6 y60_7  mm60
      refine gg_w (M := 1 + k60 * 900 + 900) (by omega) ?_
      refine g_iload 62 (gd rfl) rfl rfl ?_
      refine g_iconst 3 63 (gd rfl) rfl rfl ?_
      refine g_cmp_lt 66 105 (gd rfl) rfl rfl (fun c1 => ?_) (fun c1 => ?_)
      · skip
        have i2 := r_lt1 0 2 c1 h4 (in_c 3 rfl) rfl
        refine g_iconst 0 106 (gd rfl) rfl rfl ?_
        exact g_ireturn (gd rfl) rfl (nb01 (in_w 0 1 (in_c 0 rfl) rfl)) (hP _ _ ⟨(Int32.ofInt 0), rfl, rfl, in_w 0 1 (in_c 0 rfl) rfl⟩)
      · skip
        have i3 := r_le2 3 3 c1 (in_c 3 rfl) h4 rfl
        refine g_iload 68 (gd rfl) rfl rfl ?_
        refine g_if_eq 71 105 (gd rfl) rfl rfl (fun c4 => ?_) (fun c4 => ?_)
        · skip
          have i5 := z_eq 0 0 c4 (i_rng y60_7) rfl
          refine g_iconst 0 106 (gd rfl) rfl rfl ?_
          exact g_ireturn (gd rfl) rfl (nb01 (in_w 0 1 (in_c 0 rfl) rfl)) (hP _ _ ⟨(Int32.ofInt 0), rfl, rfl, in_w 0 1 (in_c 0 rfl) rfl⟩)
        · skip
          refine g_aload_n 72 (gd rfl) rfl rfl ?_
          refine g_getA (q2 := 40) 75 (gd rfl) rfl rfl rfl rfl rfl ?_
          refine g_iload 77 (gd rfl) rfl rfl ?_
          refine g_calls (As := [.int y60_7]) (r := [.ref (A 40)]) 80 (gd rfl) rfl rfl rfl rfl rfl (Nat.le_of_ble_eq_true rfl) (Nat.zero_le _) (Nat.zero_le _) (k_264n (by omega) c4) (fun v u h => ?_)
          obtain ⟨z6, rfl, rfl, i7⟩ := h
          show GG _ _ _ _ _ _ _ _ [.int z6, .ref (A 40)] _ _ _
          refine g_iaload 81 (gd rfl) rfl (n := 32) rfl (in_ix i7 rfl) (fun z8 e9 => ?_)
          refine g_iload_n 82 (gd rfl) rfl rfl ?_
          refine g_iconst (-1) 83 (gd rfl) rfl rfl ?_
          refine g_ixor 84 (gd rfl) rfl (fun z10 e11 => ?_)
          refine g_iand 85 (gd rfl) rfl (fun z12 e13 => ?_)
          refine g_iload 87 (gd rfl) rfl rfl ?_
          refine g_iand 88 (gd rfl) rfl (fun z14 e15 => ?_)
          refine g_if_eq 91 93 (gd rfl) rfl rfl (fun c16 => ?_) (fun c16 => ?_)
          · skip
            have i17 := z_eq 0 0 c16 (i_rng z14) rfl
            refine g_iload 95 (gd rfl) rfl rfl ?_
            refine g_iload 97 (gd rfl) rfl rfl ?_
            refine g_iconst 1 98 (gd rfl) rfl rfl ?_
            refine g_isub 99 (gd rfl) rfl (fun z18 e19 => ?_)
            refine g_iand 100 (gd rfl) rfl (fun z20 e21 => ?_)
            refine g_istore 102 (gd rfl) rfl (Nat.le_of_ble_eq_true rfl) ?_
            refine g_goto 60 (gd rfl) rfl ?_
            exact gg_w (by omega) (gg_f (gf_cons rfl (gf_cons rfl (gf_cons rfl (gf_cons rfl (gf_cons rfl (gf_cons rfl (gf_cons rfl (gf_cons rfl gf_nil)))))))) (ih60  y60_5 y60_6 z20   (mb e21 e19 c4 mm60)))
          · skip
            refine g_iconst 1 92 (gd rfl) rfl rfl ?_
            exact g_ireturn (gd rfl) rfl (nb01 (in_w 0 1 (in_c 1 rfl) rfl)) (hP _ _ ⟨(Int32.ofInt 1), rfl, rfl, in_w 0 1 (in_c 1 rfl) rfl⟩)
  refine g_enter2 (k := 209) (N := 3865470567301) (by omega) rfl (Nat.le_of_ble_eq_true rfl) ?_
  refine g_aload_n 1 (gd rfl) rfl rfl ?_
  refine g_getA (q2 := 41) 4 (gd rfl) rfl rfl rfl rfl rfl ?_
  refine g_aload_n 5 (gd rfl) rfl rfl ?_
  refine g_getI 8 (gd rfl) rfl rfl rfl (fun z22 e23 => ?_)
  have i24 := inv_F hI 0 31 rfl e23
  refine g_iaload 9 (gd rfl) rfl (n := 32) rfl (in_ix i24 rfl) (fun z25 e26 => ?_)
  refine g_istore 11 (gd rfl) rfl (Nat.le_of_ble_eq_true rfl) ?_
  refine g_iload 13 (gd rfl) rfl rfl ?_
  refine g_iconst 1 14 (gd rfl) rfl rfl ?_
  refine g_cmp_lt 17 28 (gd rfl) rfl rfl (fun c27 => ?_) (fun c27 => ?_)
  · skip
    have i28 := r_lt1 0 0 c27 h4 (in_c 1 rfl) rfl
    refine g_aload_n 29 (gd rfl) rfl rfl ?_
    refine g_getA (q2 := 40) 32 (gd rfl) rfl rfl rfl rfl rfl ?_
    refine g_iload_n 33 (gd rfl) rfl rfl ?_
    refine g_iaload 34 (gd rfl) rfl (n := 32) rfl (in_ix h2 rfl) (fun z29 e30 => ?_)
    refine g_iload_n 35 (gd rfl) rfl rfl ?_
    refine g_iconst (-1) 36 (gd rfl) rfl rfl ?_
    refine g_ixor 37 (gd rfl) rfl (fun z31 e32 => ?_)
    refine g_iand 38 (gd rfl) rfl (fun z33 e34 => ?_)
    refine g_istore 40 (gd rfl) rfl (Nat.le_of_ble_eq_true rfl) ?_
    refine g_iload 42 (gd rfl) rfl rfl ?_
    refine g_iconst 2 43 (gd rfl) rfl rfl ?_
    refine g_cmp_lt 46 56 (gd rfl) rfl rfl (fun c35 => ?_) (fun c35 => ?_)
    · skip
      refine g_iload 58 (gd rfl) rfl rfl ?_
      refine g_istore 60 (gd rfl) rfl (Nat.le_of_ble_eq_true rfl) ?_
      exact gg_w (by omega) (gg_f (gf_cons rfl (gf_cons rfl (gf_cons rfl (gf_cons rfl (gf_cons rfl (gf_cons rfl (gf_cons rfl (gf_cons rfl gf_nil)))))))) (ct60 4294967296  z25 z33 z33   (mb_in _)))
    · skip
      exact n_le c35 (in_c 2 rfl) i28 rfl
  · skip
    have i36 := r_le2 1 3 c27 (in_c 1 rfl) h4 rfl
    refine g_iload 19 (gd rfl) rfl rfl ?_
    refine g_iload_n 20 (gd rfl) rfl rfl ?_
    refine g_ishr 21 (gd rfl) rfl (fun z37 e38 => ?_)
    refine g_iconst 1 22 (gd rfl) rfl rfl ?_
    refine g_iand 23 (gd rfl) rfl (fun z39 e40 => ?_)
    have i41 := in_and2 e40 (in_c 1 rfl) rfl
    refine g_if_eq 26 28 (gd rfl) rfl rfl (fun c42 => ?_) (fun c42 => ?_)
    · skip
      have i43 := z_eq 0 0 c42 i41 rfl
      refine g_aload_n 29 (gd rfl) rfl rfl ?_
      refine g_getA (q2 := 40) 32 (gd rfl) rfl rfl rfl rfl rfl ?_
      refine g_iload_n 33 (gd rfl) rfl rfl ?_
      refine g_iaload 34 (gd rfl) rfl (n := 32) rfl (in_ix h2 rfl) (fun z44 e45 => ?_)
      refine g_iload_n 35 (gd rfl) rfl rfl ?_
      refine g_iconst (-1) 36 (gd rfl) rfl rfl ?_
      refine g_ixor 37 (gd rfl) rfl (fun z46 e47 => ?_)
      refine g_iand 38 (gd rfl) rfl (fun z48 e49 => ?_)
      refine g_istore 40 (gd rfl) rfl (Nat.le_of_ble_eq_true rfl) ?_
      refine g_iload 42 (gd rfl) rfl rfl ?_
      refine g_iconst 2 43 (gd rfl) rfl rfl ?_
      refine g_cmp_lt 46 56 (gd rfl) rfl rfl (fun c50 => ?_) (fun c50 => ?_)
      · skip
        have i51 := r_lt1 1 1 c50 i36 (in_c 2 rfl) rfl
        refine g_iload 58 (gd rfl) rfl rfl ?_
        refine g_istore 60 (gd rfl) rfl (Nat.le_of_ble_eq_true rfl) ?_
        exact gg_w (by omega) (gg_f (gf_cons rfl (gf_cons rfl (gf_cons rfl (gf_cons rfl (gf_cons rfl (gf_cons rfl (gf_cons rfl (gf_cons rfl gf_nil)))))))) (ct60 4294967296  z25 z48 z48   (mb_in _)))
      · skip
        have i52 := r_le2 2 3 c50 (in_c 2 rfl) i36 rfl
        refine g_iload 48 (gd rfl) rfl rfl ?_
        refine g_iload 50 (gd rfl) rfl rfl ?_
        refine g_iand 51 (gd rfl) rfl (fun z53 e54 => ?_)
        refine g_if_eq 54 56 (gd rfl) rfl rfl (fun c55 => ?_) (fun c55 => ?_)
        · skip
          have i56 := z_eq 0 0 c55 (i_rng z53) rfl
          refine g_iload 58 (gd rfl) rfl rfl ?_
          refine g_istore 60 (gd rfl) rfl (Nat.le_of_ble_eq_true rfl) ?_
          exact gg_w (by omega) (gg_f (gf_cons rfl (gf_cons rfl (gf_cons rfl (gf_cons rfl (gf_cons rfl (gf_cons rfl (gf_cons rfl (gf_cons rfl gf_nil)))))))) (ct60 4294967296  z25 z48 z48   (mb_in _)))
        · skip
          refine g_iconst 1 55 (gd rfl) rfl rfl ?_
          exact g_ireturn (gd rfl) rfl (nb01 (in_w 0 1 (in_c 1 rfl) rfl)) (hP _ _ ⟨(Int32.ofInt 1), rfl, rfl, in_w 0 1 (in_c 1 rfl) rfl⟩)
    · skip
      have i57 := z_ne 1 1 c42 i41 rfl
      refine g_iconst 1 27 (gd rfl) rfl rfl ?_
      exact g_ireturn (gd rfl) rfl (nb01 (in_w 0 1 (in_c 1 rfl) rfl)) (hP _ _ ⟨(Int32.ofInt 1), rfl, rfl, in_w 0 1 (in_c 1 rfl) rfl⟩)

/-- GraphHouse.version -/
theorem k_218_0 {Z : AmZ} {A : Nat → Nat} {s : GS} {ex : va_W} {d : Nat} {X : AmX}  (hd : 1 ≤ d) (hI : Inv s)  : GC Z d 218 [.ref (A 0)] (WW Z A s ++ ex) 3 18 (fun v u => ∃ z : Int32, v = some (.int z) ∧ u = WW Z A s ++ ex ∧ In z 0 4000) X := by
  intro post xp hP hX
  refine g_enter2 (k := 218) (N := 900) (by omega) rfl (Nat.le_of_ble_eq_true rfl) ?_
  refine g_aload_n 1 (gd rfl) rfl rfl ?_
  refine g_getA (q2 := 1) 4 (gd rfl) rfl rfl rfl rfl rfl ?_
  refine g_getA (q2 := 2) 7 (gd rfl) rfl rfl rfl rfl rfl ?_
  refine g_getI 10 (gd rfl) rfl rfl rfl (fun z1 e2 => ?_)
  have i3 := inv_F hI 0 4000 rfl e2
  exact g_ireturn (gd rfl) rfl rfl (hP _ _ ⟨z1, rfl, rfl, in_w 0 4000 i3 rfl⟩)

/-- GraphHouse.size -/
theorem k_219_0 {Z : AmZ} {A : Nat → Nat} {s : GS} {ex : va_W} {d : Nat} {x1 : Int32} (hd : 7 ≤ d) (hI : Inv s)  : GC Z d 219 [.ref (A 0), .int x1] (WW Z A s ++ ex) 3 18 (fun v u => ∃ t : GS, Inv t ∧ ∃ z : Int32, v = some (.int z) ∧ u = WW Z A t ++ ex ∧ In z (-1) 160) (gE1 Z A ex) := by
  intro post xp hP hX
  refine g_enter2 (k := 219) (N := 900) (by omega) rfl (Nat.le_of_ble_eq_true rfl) ?_
  refine g_iload_n 1 (gd rfl) rfl rfl ?_
  refine g_if_lt 4 13 (gd rfl) rfl rfl (fun c1 => ?_) (fun c1 => ?_)
  · skip
    have i2 := z_lt (-2147483648) (-1) c1 (i_rng x1) rfl
    refine g_iconst 0 14 (gd rfl) rfl rfl ?_
    refine g_thr (E := am_IA) (y := yX11_allow) 17 (gd rfl) rfl rfl (Or.inl ⟨rfl, rfl, rfl⟩) (by omega) (Nat.le_of_ble_eq_true rfl) (Nat.le_of_ble_eq_true rfl) (Nat.le_of_ble_eq_true rfl) (fun c3 => ?_) (fun c3 => ?_)
    · skip
      exact zn_ne c3 (in_c 0 rfl) rfl
    · skip
      exact (hX _ _ ⟨rfl, s, hI, rfl⟩)
  · skip
    have i4 := z_ge 0 2147483647 c1 (i_rng x1) rfl
    refine g_iload_n 5 (gd rfl) rfl rfl ?_
    refine g_iconst 3 6 (gd rfl) rfl rfl ?_
    refine g_cmp_gt 9 13 (gd rfl) rfl rfl (fun c5 => ?_) (fun c5 => ?_)
    · skip
      have i6 := r_lt2 4 2147483647 c5 (in_c 3 rfl) i4 rfl
      refine g_iconst 0 14 (gd rfl) rfl rfl ?_
      refine g_thr (E := am_IA) (y := yX11_allow) 17 (gd rfl) rfl rfl (Or.inl ⟨rfl, rfl, rfl⟩) (by omega) (Nat.le_of_ble_eq_true rfl) (Nat.le_of_ble_eq_true rfl) (Nat.le_of_ble_eq_true rfl) (fun c7 => ?_) (fun c7 => ?_)
      · skip
        exact zn_ne c7 (in_c 0 rfl) rfl
      · skip
        exact (hX _ _ ⟨rfl, s, hI, rfl⟩)
    · skip
      have i8 := r_le1 0 3 c5 i4 (in_c 3 rfl) rfl
      refine g_iconst 1 10 (gd rfl) rfl rfl ?_
      refine g_goto 14 (gd rfl) rfl ?_
      refine g_thr (E := am_IA) (y := yX11_allow) 17 (gd rfl) rfl rfl (Or.inl ⟨rfl, rfl, rfl⟩) (by omega) (Nat.le_of_ble_eq_true rfl) (Nat.le_of_ble_eq_true rfl) (Nat.le_of_ble_eq_true rfl) (fun c9 => ?_) (fun c9 => ?_)
      · skip
        refine g_aload_n 18 (gd rfl) rfl rfl ?_
        refine g_callv (X := _) (As := []) (r := []) (b := A 0) (q := 0) 21 (gd rfl) rfl rfl rfl rfl rfl (ww_o rfl) (Nat.le_of_ble_eq_true rfl) (mc := 0) (ms := 0) (Nat.zero_le _) (Nat.zero_le _) (P := fun v u => _) ?_ (fun e u h => h) (fun v u h => h)
        intro po10 xx11 hp12 hx13
        refine g_enter2 (k := 259) (N := 300) (by omega) rfl (Nat.le_of_ble_eq_true rfl) ?_
        refine g_aload_n 1 (gd rfl) rfl rfl ?_
        refine g_getI 4 (gd rfl) rfl rfl rfl (fun z14 e15 => ?_)
        have i16 := inv_F hI (-1) 4000 rfl e15
        refine g_iconst (-1) 5 (gd rfl) rfl rfl ?_
        refine g_cmp_ne 8 18 (gd rfl) rfl rfl (fun c17 => ?_) (fun c17 => ?_)
        · skip
          have i18 := r_ne1 0 4000 c17 i16 (in_c (-1) rfl) rfl
          refine g_aload_n 19 (gd rfl) rfl rfl ?_
          refine g_getA (q2 := 32) 22 (gd rfl) rfl rfl rfl rfl rfl ?_
          refine g_areturn (gd rfl) rfl (hp12 _ _ ?_)
          show GG _ _ _ _ _ _ _ _ [.ref (A 32)] _ _ _
          refine g_astore_n 22 (gd rfl) rfl (Nat.le_of_ble_eq_true rfl) ?_
          refine g_iload_n 23 (gd rfl) rfl rfl ?_
          refine g_tsw [48, 53, 58] 63 (gd rfl) rfl rfl rfl ⟨fun c19 => ?_, fun c19 => ?_, fun c19 => ?_, trivial⟩ (fun c19 => ?_)
          · skip
            have i20 := sw_eq c19
            refine g_aload_n 49 (gd rfl) rfl rfl ?_
            refine g_getI 52 (gd rfl) rfl rfl rfl (fun z21 e22 => ?_)
            have i23 := inv_F hI 0 32 rfl e22
            exact g_ireturn (gd rfl) rfl rfl (hP _ _ ⟨s, hI, z21, rfl, rfl, in_w (-1) 160 i23 rfl⟩)
          · skip
            have i24 := sw_eq c19
            refine g_aload_n 54 (gd rfl) rfl rfl ?_
            refine g_getI 57 (gd rfl) rfl rfl rfl (fun z25 e26 => ?_)
            have i27 := inv_F hI 0 160 rfl e26
            exact g_ireturn (gd rfl) rfl rfl (hP _ _ ⟨s, hI, z25, rfl, rfl, in_w (-1) 160 i27 rfl⟩)
          · skip
            have i28 := sw_eq c19
            refine g_aload_n 59 (gd rfl) rfl rfl ?_
            refine g_callv (X := _) (As := []) (r := []) (b := A 32) (q := 32) 62 (gd rfl) rfl rfl rfl rfl rfl (ww_o rfl) (Nat.le_of_ble_eq_true rfl) (Nat.zero_le _) (Nat.zero_le _) (k_98_32 (by omega) hI ) (fun e u h => h) (fun v u h => ?_)
            obtain ⟨z29, rfl, rfl, i30⟩ := h
            show GG _ _ _ _ _ _ _ _ [.int z29] _ _ _
            exact g_ireturn (gd rfl) rfl rfl (hP _ _ ⟨s, hI, z29, rfl, rfl, in_w (-1) 160 i30 rfl⟩)
          · skip
            refine g_aload_n 64 (gd rfl) rfl rfl ?_
            refine g_getI 67 (gd rfl) rfl rfl rfl (fun z31 e32 => ?_)
            have i33 := inv_F hI 0 160 rfl e32
            refine g_iconst 1 68 (gd rfl) rfl rfl ?_
            refine g_isub 69 (gd rfl) rfl (fun z34 e35 => ?_)
            have i36 := in_sub (-1) 159 e35 i33 (in_c 1 rfl) rfl rfl
            exact g_ireturn (gd rfl) rfl rfl (hP _ _ ⟨s, hI, z34, rfl, rfl, in_w (-1) 160 i36 rfl⟩)
        · skip
          have i37 := r_eq1 (-1) (-1) c17 i16 (in_c (-1) rfl) rfl
          refine g_aload_n 9 (gd rfl) rfl rfl ?_
          refine g_getA (q2 := 1) 12 (gd rfl) rfl rfl rfl rfl rfl ?_
          refine g_getA (q2 := 2) 15 (gd rfl) rfl rfl rfl rfl rfl ?_
          refine g_goto 22 (gd rfl) rfl ?_
          refine g_areturn (gd rfl) rfl (hp12 _ _ ?_)
          show GG _ _ _ _ _ _ _ _ [.ref (A 2)] _ _ _
          refine g_astore_n 22 (gd rfl) rfl (Nat.le_of_ble_eq_true rfl) ?_
          refine g_iload_n 23 (gd rfl) rfl rfl ?_
          refine g_tsw [48, 53, 58] 63 (gd rfl) rfl rfl rfl ⟨fun c38 => ?_, fun c38 => ?_, fun c38 => ?_, trivial⟩ (fun c38 => ?_)
          · skip
            have i39 := sw_eq c38
            refine g_aload_n 49 (gd rfl) rfl rfl ?_
            refine g_getI 52 (gd rfl) rfl rfl rfl (fun z40 e41 => ?_)
            have i42 := inv_F hI 0 32 rfl e41
            exact g_ireturn (gd rfl) rfl rfl (hP _ _ ⟨s, hI, z40, rfl, rfl, in_w (-1) 160 i42 rfl⟩)
          · skip
            have i43 := sw_eq c38
            refine g_aload_n 54 (gd rfl) rfl rfl ?_
            refine g_getI 57 (gd rfl) rfl rfl rfl (fun z44 e45 => ?_)
            have i46 := inv_F hI 0 160 rfl e45
            exact g_ireturn (gd rfl) rfl rfl (hP _ _ ⟨s, hI, z44, rfl, rfl, in_w (-1) 160 i46 rfl⟩)
          · skip
            have i47 := sw_eq c38
            refine g_aload_n 59 (gd rfl) rfl rfl ?_
            refine g_callv (X := _) (As := []) (r := []) (b := A 2) (q := 2) 62 (gd rfl) rfl rfl rfl rfl rfl (ww_o rfl) (Nat.le_of_ble_eq_true rfl) (Nat.zero_le _) (Nat.zero_le _) (k_98_2 (by omega) hI ) (fun e u h => h) (fun v u h => ?_)
            obtain ⟨z48, rfl, rfl, i49⟩ := h
            show GG _ _ _ _ _ _ _ _ [.int z48] _ _ _
            exact g_ireturn (gd rfl) rfl rfl (hP _ _ ⟨s, hI, z48, rfl, rfl, in_w (-1) 160 i49 rfl⟩)
          · skip
            refine g_aload_n 64 (gd rfl) rfl rfl ?_
            refine g_getI 67 (gd rfl) rfl rfl rfl (fun z50 e51 => ?_)
            have i52 := inv_F hI 0 160 rfl e51
            refine g_iconst 1 68 (gd rfl) rfl rfl ?_
            refine g_isub 69 (gd rfl) rfl (fun z53 e54 => ?_)
            have i55 := in_sub (-1) 159 e54 i52 (in_c 1 rfl) rfl rfl
            exact g_ireturn (gd rfl) rfl rfl (hP _ _ ⟨s, hI, z53, rfl, rfl, in_w (-1) 160 i55 rfl⟩)
      · skip
        exact zn_eq c9 (in_c 1 rfl) rfl

/-- GraphHouse.told -/
theorem k_220_0 {Z : AmZ} {A : Nat → Nat} {s : GS} {ex : va_W} {d : Nat} {x1 : Int32} {x2 : Int32} (hd : 7 ≤ d) (hI : Inv s)  : GC Z d 220 [.ref (A 0), .int x1, .int x2] (WW Z A s ++ ex) 3 18 (fun v u => ∃ t : GS, Inv t ∧ ∃ z : Int64, v = some (.long z) ∧ u = WW Z A t ++ ex) (gE1 Z A ex) := by
  intro post xp hP hX
  have ct24 : ∀ (s : GS) , Inv s → GG Z (d - 1) 220 post (gx xp) (901) 24 (fun j => xlook j [(0, .ref (A 0)), (1, .int x1), (2, .int x2)]) [] (WW Z A s ++ ex) 3 18 := by
    intro s  hI 
    refine g_iconst 0 25 (gd rfl) rfl rfl ?_
    refine g_thr (E := am_IA) (y := yX11_allow) 28 (gd rfl) rfl rfl (Or.inl ⟨rfl, rfl, rfl⟩) (by omega) (Nat.le_of_ble_eq_true rfl) (Nat.le_of_ble_eq_true rfl) (Nat.le_of_ble_eq_true rfl) (fun c1 => ?_) (fun c1 => ?_)
    · skip
      exact zn_ne c1 (in_c 0 rfl) rfl
    · skip
      exact (hX _ _ ⟨rfl, s, hI, rfl⟩)
  refine g_enter2 (k := 220) (N := 1801) (by omega) rfl (Nat.le_of_ble_eq_true rfl) ?_
  refine g_iload_n 1 (gd rfl) rfl rfl ?_
  refine g_if_lt 4 24 (gd rfl) rfl rfl (fun c2 => ?_) (fun c2 => ?_)
  · skip
    have i3 := z_lt (-2147483648) (-1) c2 (i_rng x1) rfl
    exact gg_w (by omega) (gg_f (gf_cons rfl (gf_cons rfl (gf_cons rfl gf_nil))) (ct24 s  hI ))
  · skip
    have i4 := z_ge 0 2147483647 c2 (i_rng x1) rfl
    refine g_iload_n 5 (gd rfl) rfl rfl ?_
    refine g_sipush 160 8 (gd rfl) rfl rfl ?_
    refine g_cmp_ge 11 24 (gd rfl) rfl rfl (fun c5 => ?_) (fun c5 => ?_)
    · skip
      have i6 := r_le2 160 2147483647 c5 (in_c 160 rfl) i4 rfl
      exact gg_w (by omega) (gg_f (gf_cons rfl (gf_cons rfl (gf_cons rfl gf_nil))) (ct24 s  hI ))
    · skip
      have i7 := r_lt1 0 159 c5 i4 (in_c 160 rfl) rfl
      refine g_iload_n 12 (gd rfl) rfl rfl ?_
      refine g_if_lt 15 24 (gd rfl) rfl rfl (fun c8 => ?_) (fun c8 => ?_)
      · skip
        have i9 := z_lt (-2147483648) (-1) c8 (i_rng x2) rfl
        exact gg_w (by omega) (gg_f (gf_cons rfl (gf_cons rfl (gf_cons rfl gf_nil))) (ct24 s  hI ))
      · skip
        have i10 := z_ge 0 2147483647 c8 (i_rng x2) rfl
        refine g_iload_n 16 (gd rfl) rfl rfl ?_
        refine g_iconst 4 17 (gd rfl) rfl rfl ?_
        refine g_cmp_gt 20 24 (gd rfl) rfl rfl (fun c11 => ?_) (fun c11 => ?_)
        · skip
          have i12 := r_lt2 5 2147483647 c11 (in_c 4 rfl) i10 rfl
          exact gg_w (by omega) (gg_f (gf_cons rfl (gf_cons rfl (gf_cons rfl gf_nil))) (ct24 s  hI ))
        · skip
          have i13 := r_le1 0 4 c11 i10 (in_c 4 rfl) rfl
          refine g_iconst 1 21 (gd rfl) rfl rfl ?_
          refine g_goto 25 (gd rfl) rfl ?_
          refine g_thr (E := am_IA) (y := yX11_allow) 28 (gd rfl) rfl rfl (Or.inl ⟨rfl, rfl, rfl⟩) (by omega) (Nat.le_of_ble_eq_true rfl) (Nat.le_of_ble_eq_true rfl) (Nat.le_of_ble_eq_true rfl) (fun c14 => ?_) (fun c14 => ?_)
          · skip
            refine g_aload_n 29 (gd rfl) rfl rfl ?_
            refine g_callv (X := _) (As := []) (r := []) (b := A 0) (q := 0) 32 (gd rfl) rfl rfl rfl rfl rfl (ww_o rfl) (Nat.le_of_ble_eq_true rfl) (mc := 0) (ms := 0) (Nat.zero_le _) (Nat.zero_le _) (P := fun v u => _) ?_ (fun e u h => h) (fun v u h => h)
            intro po15 xx16 hp17 hx18
            refine g_enter2 (k := 259) (N := 300) (by omega) rfl (Nat.le_of_ble_eq_true rfl) ?_
            refine g_aload_n 1 (gd rfl) rfl rfl ?_
            refine g_getI 4 (gd rfl) rfl rfl rfl (fun z19 e20 => ?_)
            have i21 := inv_F hI (-1) 4000 rfl e20
            refine g_iconst (-1) 5 (gd rfl) rfl rfl ?_
            refine g_cmp_ne 8 18 (gd rfl) rfl rfl (fun c22 => ?_) (fun c22 => ?_)
            · skip
              have i23 := r_ne1 0 4000 c22 i21 (in_c (-1) rfl) rfl
              refine g_aload_n 19 (gd rfl) rfl rfl ?_
              refine g_getA (q2 := 32) 22 (gd rfl) rfl rfl rfl rfl rfl ?_
              refine g_areturn (gd rfl) rfl (hp17 _ _ ?_)
              show GG _ _ _ _ _ _ _ _ [.ref (A 32)] _ _ _
              refine g_astore_n 33 (gd rfl) rfl (Nat.le_of_ble_eq_true rfl) ?_
              refine g_aload_n 34 (gd rfl) rfl rfl ?_
              refine g_iload_n 35 (gd rfl) rfl rfl ?_
              refine g_callv (X := _) (As := [.int x1]) (r := []) (b := A 32) (q := 32) 38 (gd rfl) rfl rfl rfl rfl rfl (ww_o rfl) (Nat.le_of_ble_eq_true rfl) (mc := 0) (ms := 0) (Nat.zero_le _) (Nat.zero_le _) (P := fun v u => _) ?_ (fun e u h => h) (fun v u h => h)
              intro po24 xx25 hp26 hx27
              refine g_enter2 (k := 96) (N := 300) (by omega) rfl (Nat.le_of_ble_eq_true rfl) ?_
              refine g_iload_n 1 (gd rfl) rfl rfl ?_
              refine g_if_lt 4 26 (gd rfl) rfl rfl (fun c28 => ?_) (fun c28 => ?_)
              · skip
                exact zn_lt c28 i7 rfl
              · skip
                refine g_iload_n 5 (gd rfl) rfl rfl ?_
                refine g_aload_n 6 (gd rfl) rfl rfl ?_
                refine g_getI 9 (gd rfl) rfl rfl rfl (fun z29 e30 => ?_)
                have i31 := inv_F hI 0 160 rfl e30
                refine g_cmp_ge 12 26 (gd rfl) rfl rfl (fun c32 => ?_) (fun c32 => ?_)
                · skip
                  have i33 := r_le1 0 159 c32 i31 i7 rfl
                  refine g_iconst 0 27 (gd rfl) rfl rfl ?_
                  refine g_ireturn (gd rfl) rfl (nb01 (in_w 0 1 (in_c 0 rfl) rfl)) (hp26 _ _ ?_)
                  show GG _ _ _ _ _ _ _ _ [.int (Int32.ofInt 0)] _ _ _
                  refine g_if_ne 41 45 (gd rfl) rfl rfl (fun c34 => ?_) (fun c34 => ?_)
                  · skip
                    exact zn_ne c34 (in_c 0 rfl) rfl
                  · skip
                    refine g_ldc2_w 9000000000000000 44 (gd rfl) rfl rfl ?_
                    exact g_lreturn (gd rfl) rfl (hP _ _ ⟨s, hI, (Int64.ofInt 9000000000000000), rfl, rfl⟩)
                · skip
                  have i35 := r_lt2 1 160 c32 i7 i31 rfl
                  refine g_aload_n 13 (gd rfl) rfl rfl ?_
                  refine g_getA (q2 := 34) 16 (gd rfl) rfl rfl rfl rfl rfl ?_
                  refine g_iload_n 17 (gd rfl) rfl rfl ?_
                  refine g_iaload 18 (gd rfl) rfl (n := 160) rfl (in_ix i7 rfl) (fun z36 e37 => ?_)
                  have i38 := inv_I hI (n := 160) (t := 0) (-1) 31 rfl (in_ix i7 rfl) rfl e37
                  refine g_iconst (-1) 19 (gd rfl) rfl rfl ?_
                  refine g_cmp_eq 22 26 (gd rfl) rfl rfl (fun c39 => ?_) (fun c39 => ?_)
                  · skip
                    have i40 := r_eq1 (-1) (-1) c39 i38 (in_c (-1) rfl) rfl
                    refine g_iconst 0 27 (gd rfl) rfl rfl ?_
                    refine g_ireturn (gd rfl) rfl (nb01 (in_w 0 1 (in_c 0 rfl) rfl)) (hp26 _ _ ?_)
                    show GG _ _ _ _ _ _ _ _ [.int (Int32.ofInt 0)] _ _ _
                    refine g_if_ne 41 45 (gd rfl) rfl rfl (fun c41 => ?_) (fun c41 => ?_)
                    · skip
                      exact zn_ne c41 (in_c 0 rfl) rfl
                    · skip
                      refine g_ldc2_w 9000000000000000 44 (gd rfl) rfl rfl ?_
                      exact g_lreturn (gd rfl) rfl (hP _ _ ⟨s, hI, (Int64.ofInt 9000000000000000), rfl, rfl⟩)
                  · skip
                    have i42 := r_ne1 0 31 c39 i38 (in_c (-1) rfl) rfl
                    refine g_iconst 1 23 (gd rfl) rfl rfl ?_
                    refine g_goto 27 (gd rfl) rfl ?_
                    refine g_ireturn (gd rfl) rfl (nb01 (in_w 0 1 (in_c 1 rfl) rfl)) (hp26 _ _ ?_)
                    show GG _ _ _ _ _ _ _ _ [.int (Int32.ofInt 1)] _ _ _
                    refine g_if_ne 41 45 (gd rfl) rfl rfl (fun c43 => ?_) (fun c43 => ?_)
                    · skip
                      refine g_iload_n 46 (gd rfl) rfl rfl ?_
                      refine g_if_ne 49 57 (gd rfl) rfl rfl (fun c44 => ?_) (fun c44 => ?_)
                      · skip
                        have i45 := z_ne 1 4 c44 i13 rfl
                        refine g_iload_n 58 (gd rfl) rfl rfl ?_
                        refine g_iconst 1 59 (gd rfl) rfl rfl ?_
                        refine g_cmp_ne 62 72 (gd rfl) rfl rfl (fun c46 => ?_) (fun c46 => ?_)
                        · skip
                          have i47 := r_ne1 2 4 c46 i45 (in_c 1 rfl) rfl
                          refine g_aload_n 73 (gd rfl) rfl rfl ?_
                          refine g_iload_n 74 (gd rfl) rfl rfl ?_
                          refine g_iload_n 75 (gd rfl) rfl rfl ?_
                          refine g_iconst 2 76 (gd rfl) rfl rfl ?_
                          refine g_isub 77 (gd rfl) rfl (fun z48 e49 => ?_)
                          have i50 := in_sub 0 2 e49 i47 (in_c 2 rfl) rfl rfl
                          refine g_callv (X := _) (As := [.int x1, .int z48]) (r := []) (b := A 32) (q := 32) 80 (gd rfl) rfl rfl rfl rfl rfl (ww_o rfl) (Nat.le_of_ble_eq_true rfl) (mc := 0) (ms := 0) (Nat.zero_le _) (Nat.zero_le _) (P := fun v u => _) ?_ (fun e u h => h) (fun v u h => h)
                          intro po51 xx52 hp53 hx54
                          refine g_enter2 (k := 100) (N := 300) (by omega) rfl (Nat.le_of_ble_eq_true rfl) ?_
                          refine g_iload_n 1 (gd rfl) rfl rfl ?_
                          refine g_if_ne 4 11 (gd rfl) rfl rfl (fun c55 => ?_) (fun c55 => ?_)
                          · skip
                            have i56 := z_ne 1 2 c55 i50 rfl
                            refine g_iload_n 12 (gd rfl) rfl rfl ?_
                            refine g_iconst 1 13 (gd rfl) rfl rfl ?_
                            refine g_cmp_ne 16 25 (gd rfl) rfl rfl (fun c57 => ?_) (fun c57 => ?_)
                            · skip
                              have i58 := r_ne1 2 2 c57 i56 (in_c 1 rfl) rfl
                              refine g_aload_n 26 (gd rfl) rfl rfl ?_
                              refine g_getA (q2 := 38) 29 (gd rfl) rfl rfl rfl rfl rfl ?_
                              refine g_iload_n 30 (gd rfl) rfl rfl ?_
                              refine g_iaload 31 (gd rfl) rfl (n := 160) rfl (in_ix i7 rfl) (fun z59 e60 => ?_)
                              have i61 := inv_I hI (n := 160) (t := 0) 0 25 rfl (in_ix i7 rfl) rfl e60
                              refine g_ireturn (gd rfl) rfl rfl (hp53 _ _ ?_)
                              show GG _ _ _ _ _ _ _ _ [.int z59] _ _ _
                              refine g_i2l 81 (gd rfl) rfl (fun z62 e63 => ?_)
                              have i64 := l_i e63 i61
                              exact g_lreturn (gd rfl) rfl (hP _ _ ⟨s, hI, z62, rfl, rfl⟩)
                            · skip
                              have i65 := r_eq1 1 1 c57 i56 (in_c 1 rfl) rfl
                              refine g_aload_n 17 (gd rfl) rfl rfl ?_
                              refine g_getA (q2 := 37) 20 (gd rfl) rfl rfl rfl rfl rfl ?_
                              refine g_iload_n 21 (gd rfl) rfl rfl ?_
                              refine g_iaload 22 (gd rfl) rfl (n := 160) rfl (in_ix i7 rfl) (fun z66 e67 => ?_)
                              have i68 := inv_I hI (n := 160) (t := 0) 0 1000000 rfl (in_ix i7 rfl) rfl e67
                              refine g_goto 31 (gd rfl) rfl ?_
                              refine g_ireturn (gd rfl) rfl rfl (hp53 _ _ ?_)
                              show GG _ _ _ _ _ _ _ _ [.int z66] _ _ _
                              refine g_i2l 81 (gd rfl) rfl (fun z69 e70 => ?_)
                              have i71 := l_i e70 i68
                              exact g_lreturn (gd rfl) rfl (hP _ _ ⟨s, hI, z69, rfl, rfl⟩)
                          · skip
                            have i72 := z_eq 0 0 c55 i50 rfl
                            refine g_aload_n 5 (gd rfl) rfl rfl ?_
                            refine g_getA (q2 := 36) 8 (gd rfl) rfl rfl rfl rfl rfl ?_
                            refine g_iload_n 9 (gd rfl) rfl rfl ?_
                            refine g_iaload 10 (gd rfl) rfl (n := 160) rfl (in_ix i7 rfl) (fun z73 e74 => ?_)
                            have i75 := inv_I hI (n := 160) (t := 0) (-1000000) 1000000 rfl (in_ix i7 rfl) rfl e74
                            refine g_ireturn (gd rfl) rfl rfl (hp53 _ _ ?_)
                            show GG _ _ _ _ _ _ _ _ [.int z73] _ _ _
                            refine g_i2l 81 (gd rfl) rfl (fun z76 e77 => ?_)
                            have i78 := l_i e77 i75
                            exact g_lreturn (gd rfl) rfl (hP _ _ ⟨s, hI, z76, rfl, rfl⟩)
                        · skip
                          have i79 := r_eq1 1 1 c46 i45 (in_c 1 rfl) rfl
                          refine g_aload_n 63 (gd rfl) rfl rfl ?_
                          refine g_getA (q2 := 35) 66 (gd rfl) rfl rfl rfl rfl rfl ?_
                          refine g_iload_n 67 (gd rfl) rfl rfl ?_
                          refine g_iaload 68 (gd rfl) rfl (n := 160) rfl (in_ix i7 rfl) (fun z80 e81 => ?_)
                          have i82 := inv_I hI (n := 160) (t := 0) 0 31 rfl (in_ix i7 rfl) rfl e81
                          refine g_i2l 69 (gd rfl) rfl (fun z83 e84 => ?_)
                          have i85 := l_i e84 i82
                          refine g_goto 81 (gd rfl) rfl ?_
                          exact g_lreturn (gd rfl) rfl (hP _ _ ⟨s, hI, z83, rfl, rfl⟩)
                      · skip
                        have i86 := z_eq 0 0 c44 i13 rfl
                        refine g_aload_n 50 (gd rfl) rfl rfl ?_
                        refine g_getA (q2 := 34) 53 (gd rfl) rfl rfl rfl rfl rfl ?_
                        refine g_iload_n 54 (gd rfl) rfl rfl ?_
                        refine g_iaload 55 (gd rfl) rfl (n := 160) rfl (in_ix i7 rfl) (fun z87 e88 => ?_)
                        have q89 : z36 = z87 := (e37).trans e88.symm
                        subst q89
                        refine g_i2l 56 (gd rfl) rfl (fun z90 e91 => ?_)
                        have i92 := l_i e91 i42
                        exact g_lreturn (gd rfl) rfl (hP _ _ ⟨s, hI, z90, rfl, rfl⟩)
                    · skip
                      exact zn_eq c43 (in_c 1 rfl) rfl
            · skip
              have i93 := r_eq1 (-1) (-1) c22 i21 (in_c (-1) rfl) rfl
              refine g_aload_n 9 (gd rfl) rfl rfl ?_
              refine g_getA (q2 := 1) 12 (gd rfl) rfl rfl rfl rfl rfl ?_
              refine g_getA (q2 := 2) 15 (gd rfl) rfl rfl rfl rfl rfl ?_
              refine g_goto 22 (gd rfl) rfl ?_
              refine g_areturn (gd rfl) rfl (hp17 _ _ ?_)
              show GG _ _ _ _ _ _ _ _ [.ref (A 2)] _ _ _
              refine g_astore_n 33 (gd rfl) rfl (Nat.le_of_ble_eq_true rfl) ?_
              refine g_aload_n 34 (gd rfl) rfl rfl ?_
              refine g_iload_n 35 (gd rfl) rfl rfl ?_
              refine g_callv (X := _) (As := [.int x1]) (r := []) (b := A 2) (q := 2) 38 (gd rfl) rfl rfl rfl rfl rfl (ww_o rfl) (Nat.le_of_ble_eq_true rfl) (mc := 0) (ms := 0) (Nat.zero_le _) (Nat.zero_le _) (P := fun v u => _) ?_ (fun e u h => h) (fun v u h => h)
              intro po94 xx95 hp96 hx97
              refine g_enter2 (k := 96) (N := 300) (by omega) rfl (Nat.le_of_ble_eq_true rfl) ?_
              refine g_iload_n 1 (gd rfl) rfl rfl ?_
              refine g_if_lt 4 26 (gd rfl) rfl rfl (fun c98 => ?_) (fun c98 => ?_)
              · skip
                exact zn_lt c98 i7 rfl
              · skip
                refine g_iload_n 5 (gd rfl) rfl rfl ?_
                refine g_aload_n 6 (gd rfl) rfl rfl ?_
                refine g_getI 9 (gd rfl) rfl rfl rfl (fun z99 e100 => ?_)
                have i101 := inv_F hI 0 160 rfl e100
                refine g_cmp_ge 12 26 (gd rfl) rfl rfl (fun c102 => ?_) (fun c102 => ?_)
                · skip
                  have i103 := r_le1 0 159 c102 i101 i7 rfl
                  refine g_iconst 0 27 (gd rfl) rfl rfl ?_
                  refine g_ireturn (gd rfl) rfl (nb01 (in_w 0 1 (in_c 0 rfl) rfl)) (hp96 _ _ ?_)
                  show GG _ _ _ _ _ _ _ _ [.int (Int32.ofInt 0)] _ _ _
                  refine g_if_ne 41 45 (gd rfl) rfl rfl (fun c104 => ?_) (fun c104 => ?_)
                  · skip
                    exact zn_ne c104 (in_c 0 rfl) rfl
                  · skip
                    refine g_ldc2_w 9000000000000000 44 (gd rfl) rfl rfl ?_
                    exact g_lreturn (gd rfl) rfl (hP _ _ ⟨s, hI, (Int64.ofInt 9000000000000000), rfl, rfl⟩)
                · skip
                  have i105 := r_lt2 1 160 c102 i7 i101 rfl
                  refine g_aload_n 13 (gd rfl) rfl rfl ?_
                  refine g_getA (q2 := 4) 16 (gd rfl) rfl rfl rfl rfl rfl ?_
                  refine g_iload_n 17 (gd rfl) rfl rfl ?_
                  refine g_iaload 18 (gd rfl) rfl (n := 160) rfl (in_ix i7 rfl) (fun z106 e107 => ?_)
                  have i108 := inv_I hI (n := 160) (t := 0) (-1) 31 rfl (in_ix i7 rfl) rfl e107
                  refine g_iconst (-1) 19 (gd rfl) rfl rfl ?_
                  refine g_cmp_eq 22 26 (gd rfl) rfl rfl (fun c109 => ?_) (fun c109 => ?_)
                  · skip
                    have i110 := r_eq1 (-1) (-1) c109 i108 (in_c (-1) rfl) rfl
                    refine g_iconst 0 27 (gd rfl) rfl rfl ?_
                    refine g_ireturn (gd rfl) rfl (nb01 (in_w 0 1 (in_c 0 rfl) rfl)) (hp96 _ _ ?_)
                    show GG _ _ _ _ _ _ _ _ [.int (Int32.ofInt 0)] _ _ _
                    refine g_if_ne 41 45 (gd rfl) rfl rfl (fun c111 => ?_) (fun c111 => ?_)
                    · skip
                      exact zn_ne c111 (in_c 0 rfl) rfl
                    · skip
                      refine g_ldc2_w 9000000000000000 44 (gd rfl) rfl rfl ?_
                      exact g_lreturn (gd rfl) rfl (hP _ _ ⟨s, hI, (Int64.ofInt 9000000000000000), rfl, rfl⟩)
                  · skip
                    have i112 := r_ne1 0 31 c109 i108 (in_c (-1) rfl) rfl
                    refine g_iconst 1 23 (gd rfl) rfl rfl ?_
                    refine g_goto 27 (gd rfl) rfl ?_
                    refine g_ireturn (gd rfl) rfl (nb01 (in_w 0 1 (in_c 1 rfl) rfl)) (hp96 _ _ ?_)
                    show GG _ _ _ _ _ _ _ _ [.int (Int32.ofInt 1)] _ _ _
                    refine g_if_ne 41 45 (gd rfl) rfl rfl (fun c113 => ?_) (fun c113 => ?_)
                    · skip
                      refine g_iload_n 46 (gd rfl) rfl rfl ?_
                      refine g_if_ne 49 57 (gd rfl) rfl rfl (fun c114 => ?_) (fun c114 => ?_)
                      · skip
                        have i115 := z_ne 1 4 c114 i13 rfl
                        refine g_iload_n 58 (gd rfl) rfl rfl ?_
                        refine g_iconst 1 59 (gd rfl) rfl rfl ?_
                        refine g_cmp_ne 62 72 (gd rfl) rfl rfl (fun c116 => ?_) (fun c116 => ?_)
                        · skip
                          have i117 := r_ne1 2 4 c116 i115 (in_c 1 rfl) rfl
                          refine g_aload_n 73 (gd rfl) rfl rfl ?_
                          refine g_iload_n 74 (gd rfl) rfl rfl ?_
                          refine g_iload_n 75 (gd rfl) rfl rfl ?_
                          refine g_iconst 2 76 (gd rfl) rfl rfl ?_
                          refine g_isub 77 (gd rfl) rfl (fun z118 e119 => ?_)
                          have i120 := in_sub 0 2 e119 i117 (in_c 2 rfl) rfl rfl
                          refine g_callv (X := _) (As := [.int x1, .int z118]) (r := []) (b := A 2) (q := 2) 80 (gd rfl) rfl rfl rfl rfl rfl (ww_o rfl) (Nat.le_of_ble_eq_true rfl) (mc := 0) (ms := 0) (Nat.zero_le _) (Nat.zero_le _) (P := fun v u => _) ?_ (fun e u h => h) (fun v u h => h)
                          intro po121 xx122 hp123 hx124
                          refine g_enter2 (k := 100) (N := 300) (by omega) rfl (Nat.le_of_ble_eq_true rfl) ?_
                          refine g_iload_n 1 (gd rfl) rfl rfl ?_
                          refine g_if_ne 4 11 (gd rfl) rfl rfl (fun c125 => ?_) (fun c125 => ?_)
                          · skip
                            have i126 := z_ne 1 2 c125 i120 rfl
                            refine g_iload_n 12 (gd rfl) rfl rfl ?_
                            refine g_iconst 1 13 (gd rfl) rfl rfl ?_
                            refine g_cmp_ne 16 25 (gd rfl) rfl rfl (fun c127 => ?_) (fun c127 => ?_)
                            · skip
                              have i128 := r_ne1 2 2 c127 i126 (in_c 1 rfl) rfl
                              refine g_aload_n 26 (gd rfl) rfl rfl ?_
                              refine g_getA (q2 := 8) 29 (gd rfl) rfl rfl rfl rfl rfl ?_
                              refine g_iload_n 30 (gd rfl) rfl rfl ?_
                              refine g_iaload 31 (gd rfl) rfl (n := 160) rfl (in_ix i7 rfl) (fun z129 e130 => ?_)
                              have i131 := inv_I hI (n := 160) (t := 0) 0 25 rfl (in_ix i7 rfl) rfl e130
                              refine g_ireturn (gd rfl) rfl rfl (hp123 _ _ ?_)
                              show GG _ _ _ _ _ _ _ _ [.int z129] _ _ _
                              refine g_i2l 81 (gd rfl) rfl (fun z132 e133 => ?_)
                              have i134 := l_i e133 i131
                              exact g_lreturn (gd rfl) rfl (hP _ _ ⟨s, hI, z132, rfl, rfl⟩)
                            · skip
                              have i135 := r_eq1 1 1 c127 i126 (in_c 1 rfl) rfl
                              refine g_aload_n 17 (gd rfl) rfl rfl ?_
                              refine g_getA (q2 := 7) 20 (gd rfl) rfl rfl rfl rfl rfl ?_
                              refine g_iload_n 21 (gd rfl) rfl rfl ?_
                              refine g_iaload 22 (gd rfl) rfl (n := 160) rfl (in_ix i7 rfl) (fun z136 e137 => ?_)
                              have i138 := inv_I hI (n := 160) (t := 0) 0 1000000 rfl (in_ix i7 rfl) rfl e137
                              refine g_goto 31 (gd rfl) rfl ?_
                              refine g_ireturn (gd rfl) rfl rfl (hp123 _ _ ?_)
                              show GG _ _ _ _ _ _ _ _ [.int z136] _ _ _
                              refine g_i2l 81 (gd rfl) rfl (fun z139 e140 => ?_)
                              have i141 := l_i e140 i138
                              exact g_lreturn (gd rfl) rfl (hP _ _ ⟨s, hI, z139, rfl, rfl⟩)
                          · skip
                            have i142 := z_eq 0 0 c125 i120 rfl
                            refine g_aload_n 5 (gd rfl) rfl rfl ?_
                            refine g_getA (q2 := 6) 8 (gd rfl) rfl rfl rfl rfl rfl ?_
                            refine g_iload_n 9 (gd rfl) rfl rfl ?_
                            refine g_iaload 10 (gd rfl) rfl (n := 160) rfl (in_ix i7 rfl) (fun z143 e144 => ?_)
                            have i145 := inv_I hI (n := 160) (t := 0) (-1000000) 1000000 rfl (in_ix i7 rfl) rfl e144
                            refine g_ireturn (gd rfl) rfl rfl (hp123 _ _ ?_)
                            show GG _ _ _ _ _ _ _ _ [.int z143] _ _ _
                            refine g_i2l 81 (gd rfl) rfl (fun z146 e147 => ?_)
                            have i148 := l_i e147 i145
                            exact g_lreturn (gd rfl) rfl (hP _ _ ⟨s, hI, z146, rfl, rfl⟩)
                        · skip
                          have i149 := r_eq1 1 1 c116 i115 (in_c 1 rfl) rfl
                          refine g_aload_n 63 (gd rfl) rfl rfl ?_
                          refine g_getA (q2 := 5) 66 (gd rfl) rfl rfl rfl rfl rfl ?_
                          refine g_iload_n 67 (gd rfl) rfl rfl ?_
                          refine g_iaload 68 (gd rfl) rfl (n := 160) rfl (in_ix i7 rfl) (fun z150 e151 => ?_)
                          have i152 := inv_I hI (n := 160) (t := 0) 0 31 rfl (in_ix i7 rfl) rfl e151
                          refine g_i2l 69 (gd rfl) rfl (fun z153 e154 => ?_)
                          have i155 := l_i e154 i152
                          refine g_goto 81 (gd rfl) rfl ?_
                          exact g_lreturn (gd rfl) rfl (hP _ _ ⟨s, hI, z153, rfl, rfl⟩)
                      · skip
                        have i156 := z_eq 0 0 c114 i13 rfl
                        refine g_aload_n 50 (gd rfl) rfl rfl ?_
                        refine g_getA (q2 := 4) 53 (gd rfl) rfl rfl rfl rfl rfl ?_
                        refine g_iload_n 54 (gd rfl) rfl rfl ?_
                        refine g_iaload 55 (gd rfl) rfl (n := 160) rfl (in_ix i7 rfl) (fun z157 e158 => ?_)
                        have q159 : z106 = z157 := (e107).trans e158.symm
                        subst q159
                        refine g_i2l 56 (gd rfl) rfl (fun z160 e161 => ?_)
                        have i162 := l_i e161 i112
                        exact g_lreturn (gd rfl) rfl (hP _ _ ⟨s, hI, z160, rfl, rfl⟩)
                    · skip
                      exact zn_eq c113 (in_c 1 rfl) rfl
          · skip
            exact zn_eq c14 (in_c 1 rfl) rfl

/-- GraphHouse.labelOf -/
theorem k_221_0 {Z : AmZ} {A : Nat → Nat} {s : GS} {ex : va_W} {d : Nat} {x1 : Int32} (hd : 7 ≤ d) (hI : Inv s)  : GC Z d 221 [.ref (A 0), .int x1] (WW Z A s ++ ex) 3 18 (fun v u => ∃ t : GS, Inv t ∧ ∃ z : Int32, v = some (.int z) ∧ u = WW Z A t ++ ex ∧ In z 0 25) (gE1 Z A ex) := by
  intro post xp hP hX
  refine g_enter2 (k := 221) (N := 900) (by omega) rfl (Nat.le_of_ble_eq_true rfl) ?_
  refine g_aload_n 1 (gd rfl) rfl rfl ?_
  refine g_callv (X := _) (As := []) (r := []) (b := A 0) (q := 0) 4 (gd rfl) rfl rfl rfl rfl rfl (ww_o rfl) (Nat.le_of_ble_eq_true rfl) (mc := 0) (ms := 0) (Nat.zero_le _) (Nat.zero_le _) (P := fun v u => _) ?_ (fun e u h => h) (fun v u h => h)
  intro po1 xx2 hp3 hx4
  refine g_enter2 (k := 259) (N := 300) (by omega) rfl (Nat.le_of_ble_eq_true rfl) ?_
  refine g_aload_n 1 (gd rfl) rfl rfl ?_
  refine g_getI 4 (gd rfl) rfl rfl rfl (fun z5 e6 => ?_)
  have i7 := inv_F hI (-1) 4000 rfl e6
  refine g_iconst (-1) 5 (gd rfl) rfl rfl ?_
  refine g_cmp_ne 8 18 (gd rfl) rfl rfl (fun c8 => ?_) (fun c8 => ?_)
  · skip
    have i9 := r_ne1 0 4000 c8 i7 (in_c (-1) rfl) rfl
    refine g_aload_n 19 (gd rfl) rfl rfl ?_
    refine g_getA (q2 := 32) 22 (gd rfl) rfl rfl rfl rfl rfl ?_
    refine g_areturn (gd rfl) rfl (hp3 _ _ ?_)
    show GG _ _ _ _ _ _ _ _ [.ref (A 32)] _ _ _
    refine g_astore_n 5 (gd rfl) rfl (Nat.le_of_ble_eq_true rfl) ?_
    refine g_aload_n 6 (gd rfl) rfl rfl ?_
    refine g_iload_n 7 (gd rfl) rfl rfl ?_
    refine g_callv (X := _) (As := [.int x1]) (r := []) (b := A 32) (q := 32) 10 (gd rfl) rfl rfl rfl rfl rfl (ww_o rfl) (Nat.le_of_ble_eq_true rfl) (mc := 0) (ms := 0) (Nat.zero_le _) (Nat.zero_le _) (P := fun v u => _) ?_ (fun e u h => h) (fun v u h => h)
    intro po10 xx11 hp12 hx13
    refine g_enter2 (k := 94) (N := 300) (by omega) rfl (Nat.le_of_ble_eq_true rfl) ?_
    refine g_iload_n 1 (gd rfl) rfl rfl ?_
    refine g_if_lt 4 16 (gd rfl) rfl rfl (fun c14 => ?_) (fun c14 => ?_)
    · skip
      have i15 := z_lt (-2147483648) (-1) c14 (i_rng x1) rfl
      refine g_iconst 0 17 (gd rfl) rfl rfl ?_
      refine g_ireturn (gd rfl) rfl (nb01 (in_w 0 1 (in_c 0 rfl) rfl)) (hp12 _ _ ?_)
      show GG _ _ _ _ _ _ _ _ [.int (Int32.ofInt 0)] _ _ _
      refine g_thr (E := am_IA) (y := yX11_allow) 13 (gd rfl) rfl rfl (Or.inl ⟨rfl, rfl, rfl⟩) (by omega) (Nat.le_of_ble_eq_true rfl) (Nat.le_of_ble_eq_true rfl) (Nat.le_of_ble_eq_true rfl) (fun c16 => ?_) (fun c16 => ?_)
      · skip
        exact zn_ne c16 (in_c 0 rfl) rfl
      · skip
        exact (hX _ _ ⟨rfl, s, hI, rfl⟩)
    · skip
      have i17 := z_ge 0 2147483647 c14 (i_rng x1) rfl
      refine g_iload_n 5 (gd rfl) rfl rfl ?_
      refine g_aload_n 6 (gd rfl) rfl rfl ?_
      refine g_getI 9 (gd rfl) rfl rfl rfl (fun z18 e19 => ?_)
      have i20 := inv_F hI 0 32 rfl e19
      refine g_cmp_ge 12 16 (gd rfl) rfl rfl (fun c21 => ?_) (fun c21 => ?_)
      · skip
        refine g_iconst 0 17 (gd rfl) rfl rfl ?_
        refine g_ireturn (gd rfl) rfl (nb01 (in_w 0 1 (in_c 0 rfl) rfl)) (hp12 _ _ ?_)
        show GG _ _ _ _ _ _ _ _ [.int (Int32.ofInt 0)] _ _ _
        refine g_thr (E := am_IA) (y := yX11_allow) 13 (gd rfl) rfl rfl (Or.inl ⟨rfl, rfl, rfl⟩) (by omega) (Nat.le_of_ble_eq_true rfl) (Nat.le_of_ble_eq_true rfl) (Nat.le_of_ble_eq_true rfl) (fun c22 => ?_) (fun c22 => ?_)
        · skip
          exact zn_ne c22 (in_c 0 rfl) rfl
        · skip
          exact (hX _ _ ⟨rfl, s, hI, rfl⟩)
      · skip
        have i23 := r_lt1 0 31 c21 i17 i20 rfl
        have i24 := r_lt2 1 32 c21 i17 i20 rfl
        refine g_iconst 1 13 (gd rfl) rfl rfl ?_
        refine g_goto 17 (gd rfl) rfl ?_
        refine g_ireturn (gd rfl) rfl (nb01 (in_w 0 1 (in_c 1 rfl) rfl)) (hp12 _ _ ?_)
        show GG _ _ _ _ _ _ _ _ [.int (Int32.ofInt 1)] _ _ _
        refine g_thr (E := am_IA) (y := yX11_allow) 13 (gd rfl) rfl rfl (Or.inl ⟨rfl, rfl, rfl⟩) (by omega) (Nat.le_of_ble_eq_true rfl) (Nat.le_of_ble_eq_true rfl) (Nat.le_of_ble_eq_true rfl) (fun c25 => ?_) (fun c25 => ?_)
        · skip
          refine g_aload_n 14 (gd rfl) rfl rfl ?_
          refine g_getA (q2 := 33) 17 (gd rfl) rfl rfl rfl rfl rfl ?_
          refine g_iload_n 18 (gd rfl) rfl rfl ?_
          refine g_iaload 19 (gd rfl) rfl (n := 32) rfl (in_ix i23 rfl) (fun z26 e27 => ?_)
          have i28 := inv_I hI (n := 32) (t := 0) 0 25 rfl (in_ix i23 rfl) rfl e27
          exact g_ireturn (gd rfl) rfl rfl (hP _ _ ⟨s, hI, z26, rfl, rfl, in_w 0 25 i28 rfl⟩)
        · skip
          exact zn_eq c25 (in_c 1 rfl) rfl
  · skip
    have i29 := r_eq1 (-1) (-1) c8 i7 (in_c (-1) rfl) rfl
    refine g_aload_n 9 (gd rfl) rfl rfl ?_
    refine g_getA (q2 := 1) 12 (gd rfl) rfl rfl rfl rfl rfl ?_
    refine g_getA (q2 := 2) 15 (gd rfl) rfl rfl rfl rfl rfl ?_
    refine g_goto 22 (gd rfl) rfl ?_
    refine g_areturn (gd rfl) rfl (hp3 _ _ ?_)
    show GG _ _ _ _ _ _ _ _ [.ref (A 2)] _ _ _
    refine g_astore_n 5 (gd rfl) rfl (Nat.le_of_ble_eq_true rfl) ?_
    refine g_aload_n 6 (gd rfl) rfl rfl ?_
    refine g_iload_n 7 (gd rfl) rfl rfl ?_
    refine g_callv (X := _) (As := [.int x1]) (r := []) (b := A 2) (q := 2) 10 (gd rfl) rfl rfl rfl rfl rfl (ww_o rfl) (Nat.le_of_ble_eq_true rfl) (mc := 0) (ms := 0) (Nat.zero_le _) (Nat.zero_le _) (P := fun v u => _) ?_ (fun e u h => h) (fun v u h => h)
    intro po30 xx31 hp32 hx33
    refine g_enter2 (k := 94) (N := 300) (by omega) rfl (Nat.le_of_ble_eq_true rfl) ?_
    refine g_iload_n 1 (gd rfl) rfl rfl ?_
    refine g_if_lt 4 16 (gd rfl) rfl rfl (fun c34 => ?_) (fun c34 => ?_)
    · skip
      have i35 := z_lt (-2147483648) (-1) c34 (i_rng x1) rfl
      refine g_iconst 0 17 (gd rfl) rfl rfl ?_
      refine g_ireturn (gd rfl) rfl (nb01 (in_w 0 1 (in_c 0 rfl) rfl)) (hp32 _ _ ?_)
      show GG _ _ _ _ _ _ _ _ [.int (Int32.ofInt 0)] _ _ _
      refine g_thr (E := am_IA) (y := yX11_allow) 13 (gd rfl) rfl rfl (Or.inl ⟨rfl, rfl, rfl⟩) (by omega) (Nat.le_of_ble_eq_true rfl) (Nat.le_of_ble_eq_true rfl) (Nat.le_of_ble_eq_true rfl) (fun c36 => ?_) (fun c36 => ?_)
      · skip
        exact zn_ne c36 (in_c 0 rfl) rfl
      · skip
        exact (hX _ _ ⟨rfl, s, hI, rfl⟩)
    · skip
      have i37 := z_ge 0 2147483647 c34 (i_rng x1) rfl
      refine g_iload_n 5 (gd rfl) rfl rfl ?_
      refine g_aload_n 6 (gd rfl) rfl rfl ?_
      refine g_getI 9 (gd rfl) rfl rfl rfl (fun z38 e39 => ?_)
      have i40 := inv_F hI 0 32 rfl e39
      refine g_cmp_ge 12 16 (gd rfl) rfl rfl (fun c41 => ?_) (fun c41 => ?_)
      · skip
        refine g_iconst 0 17 (gd rfl) rfl rfl ?_
        refine g_ireturn (gd rfl) rfl (nb01 (in_w 0 1 (in_c 0 rfl) rfl)) (hp32 _ _ ?_)
        show GG _ _ _ _ _ _ _ _ [.int (Int32.ofInt 0)] _ _ _
        refine g_thr (E := am_IA) (y := yX11_allow) 13 (gd rfl) rfl rfl (Or.inl ⟨rfl, rfl, rfl⟩) (by omega) (Nat.le_of_ble_eq_true rfl) (Nat.le_of_ble_eq_true rfl) (Nat.le_of_ble_eq_true rfl) (fun c42 => ?_) (fun c42 => ?_)
        · skip
          exact zn_ne c42 (in_c 0 rfl) rfl
        · skip
          exact (hX _ _ ⟨rfl, s, hI, rfl⟩)
      · skip
        have i43 := r_lt1 0 31 c41 i37 i40 rfl
        have i44 := r_lt2 1 32 c41 i37 i40 rfl
        refine g_iconst 1 13 (gd rfl) rfl rfl ?_
        refine g_goto 17 (gd rfl) rfl ?_
        refine g_ireturn (gd rfl) rfl (nb01 (in_w 0 1 (in_c 1 rfl) rfl)) (hp32 _ _ ?_)
        show GG _ _ _ _ _ _ _ _ [.int (Int32.ofInt 1)] _ _ _
        refine g_thr (E := am_IA) (y := yX11_allow) 13 (gd rfl) rfl rfl (Or.inl ⟨rfl, rfl, rfl⟩) (by omega) (Nat.le_of_ble_eq_true rfl) (Nat.le_of_ble_eq_true rfl) (Nat.le_of_ble_eq_true rfl) (fun c45 => ?_) (fun c45 => ?_)
        · skip
          refine g_aload_n 14 (gd rfl) rfl rfl ?_
          refine g_getA (q2 := 3) 17 (gd rfl) rfl rfl rfl rfl rfl ?_
          refine g_iload_n 18 (gd rfl) rfl rfl ?_
          refine g_iaload 19 (gd rfl) rfl (n := 32) rfl (in_ix i43 rfl) (fun z46 e47 => ?_)
          have i48 := inv_I hI (n := 32) (t := 0) 0 25 rfl (in_ix i43 rfl) rfl e47
          exact g_ireturn (gd rfl) rfl rfl (hP _ _ ⟨s, hI, z46, rfl, rfl, in_w 0 25 i48 rfl⟩)
        · skip
          exact zn_eq c45 (in_c 1 rfl) rfl

/-- GraphHouse.arcAt -/
theorem k_222_0 {Z : AmZ} {A : Nat → Nat} {s : GS} {ex : va_W} {d : Nat} {x1 : Int32} {x2 : Int32} {x3 : Int32} (hd : 7 ≤ d) (hI : Inv s)  : GC Z d 222 [.ref (A 0), .int x1, .int x2, .int x3] (WW Z A s ++ ex) 3 18 (fun v u => ∃ t : GS, Inv t ∧ ∃ z : Int32, v = some (.int z) ∧ u = WW Z A t ++ ex ∧ In z (-1) 159) (gE1 Z A ex) := by
  intro post xp hP hX
  have ct32 : ∀ (s : GS) , Inv s → GG Z (d - 1) 222 post (gx xp) (901) 32 (fun j => xlook j [(0, .ref (A 0)), (1, .int x1), (2, .int x2), (3, .int x3)]) [] (WW Z A s ++ ex) 3 18 := by
    intro s  hI 
    refine g_iconst 0 33 (gd rfl) rfl rfl ?_
    refine g_thr (E := am_IA) (y := yX11_allow) 36 (gd rfl) rfl rfl (Or.inl ⟨rfl, rfl, rfl⟩) (by omega) (Nat.le_of_ble_eq_true rfl) (Nat.le_of_ble_eq_true rfl) (Nat.le_of_ble_eq_true rfl) (fun c1 => ?_) (fun c1 => ?_)
    · skip
      exact zn_ne c1 (in_c 0 rfl) rfl
    · skip
      exact (hX _ _ ⟨rfl, s, hI, rfl⟩)
  refine g_enter2 (k := 222) (N := 1801) (by omega) rfl (Nat.le_of_ble_eq_true rfl) ?_
  refine g_aload_n 1 (gd rfl) rfl rfl ?_
  refine g_callv (X := _) (As := []) (r := []) (b := A 0) (q := 0) 4 (gd rfl) rfl rfl rfl rfl rfl (ww_o rfl) (Nat.le_of_ble_eq_true rfl) (mc := 0) (ms := 0) (Nat.zero_le _) (Nat.zero_le _) (P := fun v u => _) ?_ (fun e u h => h) (fun v u h => h)
  intro po2 xx3 hp4 hx5
  refine g_enter2 (k := 259) (N := 300) (by omega) rfl (Nat.le_of_ble_eq_true rfl) ?_
  refine g_aload_n 1 (gd rfl) rfl rfl ?_
  refine g_getI 4 (gd rfl) rfl rfl rfl (fun z6 e7 => ?_)
  have i8 := inv_F hI (-1) 4000 rfl e7
  refine g_iconst (-1) 5 (gd rfl) rfl rfl ?_
  refine g_cmp_ne 8 18 (gd rfl) rfl rfl (fun c9 => ?_) (fun c9 => ?_)
  · skip
    have i10 := r_ne1 0 4000 c9 i8 (in_c (-1) rfl) rfl
    refine g_aload_n 19 (gd rfl) rfl rfl ?_
    refine g_getA (q2 := 32) 22 (gd rfl) rfl rfl rfl rfl rfl ?_
    refine g_areturn (gd rfl) rfl (hp4 _ _ ?_)
    show GG _ _ _ _ _ _ _ _ [.ref (A 32)] _ _ _
    refine g_astore 6 (gd rfl) rfl (Nat.le_of_ble_eq_true rfl) ?_
    refine g_aload 8 (gd rfl) rfl rfl ?_
    refine g_iload_n 9 (gd rfl) rfl rfl ?_
    refine g_callv (X := _) (As := [.int x1]) (r := []) (b := A 32) (q := 32) 12 (gd rfl) rfl rfl rfl rfl rfl (ww_o rfl) (Nat.le_of_ble_eq_true rfl) (mc := 0) (ms := 0) (Nat.zero_le _) (Nat.zero_le _) (P := fun v u => _) ?_ (fun e u h => h) (fun v u h => h)
    intro po11 xx12 hp13 hx14
    refine g_enter2 (k := 94) (N := 300) (by omega) rfl (Nat.le_of_ble_eq_true rfl) ?_
    refine g_iload_n 1 (gd rfl) rfl rfl ?_
    refine g_if_lt 4 16 (gd rfl) rfl rfl (fun c15 => ?_) (fun c15 => ?_)
    · skip
      have i16 := z_lt (-2147483648) (-1) c15 (i_rng x1) rfl
      refine g_iconst 0 17 (gd rfl) rfl rfl ?_
      refine g_ireturn (gd rfl) rfl (nb01 (in_w 0 1 (in_c 0 rfl) rfl)) (hp13 _ _ ?_)
      show GG _ _ _ _ _ _ _ _ [.int (Int32.ofInt 0)] _ _ _
      refine g_if_eq 15 32 (gd rfl) rfl rfl (fun c17 => ?_) (fun c17 => ?_)
      · skip
        exact gg_w (by omega) (gg_f (gf_cons rfl (gf_cons rfl (gf_cons rfl (gf_cons rfl gf_nil)))) (ct32 s  hI ))
      · skip
        exact zn_ne c17 (in_c 0 rfl) rfl
    · skip
      have i18 := z_ge 0 2147483647 c15 (i_rng x1) rfl
      refine g_iload_n 5 (gd rfl) rfl rfl ?_
      refine g_aload_n 6 (gd rfl) rfl rfl ?_
      refine g_getI 9 (gd rfl) rfl rfl rfl (fun z19 e20 => ?_)
      have i21 := inv_F hI 0 32 rfl e20
      refine g_cmp_ge 12 16 (gd rfl) rfl rfl (fun c22 => ?_) (fun c22 => ?_)
      · skip
        refine g_iconst 0 17 (gd rfl) rfl rfl ?_
        refine g_ireturn (gd rfl) rfl (nb01 (in_w 0 1 (in_c 0 rfl) rfl)) (hp13 _ _ ?_)
        show GG _ _ _ _ _ _ _ _ [.int (Int32.ofInt 0)] _ _ _
        refine g_if_eq 15 32 (gd rfl) rfl rfl (fun c23 => ?_) (fun c23 => ?_)
        · skip
          exact gg_w (by omega) (gg_f (gf_cons rfl (gf_cons rfl (gf_cons rfl (gf_cons rfl gf_nil)))) (ct32 s  hI ))
        · skip
          exact zn_ne c23 (in_c 0 rfl) rfl
      · skip
        have i24 := r_lt1 0 31 c22 i18 i21 rfl
        have i25 := r_lt2 1 32 c22 i18 i21 rfl
        refine g_iconst 1 13 (gd rfl) rfl rfl ?_
        refine g_goto 17 (gd rfl) rfl ?_
        refine g_ireturn (gd rfl) rfl (nb01 (in_w 0 1 (in_c 1 rfl) rfl)) (hp13 _ _ ?_)
        show GG _ _ _ _ _ _ _ _ [.int (Int32.ofInt 1)] _ _ _
        refine g_if_eq 15 32 (gd rfl) rfl rfl (fun c26 => ?_) (fun c26 => ?_)
        · skip
          exact zn_eq c26 (in_c 1 rfl) rfl
        · skip
          refine g_iload_n 16 (gd rfl) rfl rfl ?_
          refine g_if_lt 19 32 (gd rfl) rfl rfl (fun c27 => ?_) (fun c27 => ?_)
          · skip
            have i28 := z_lt (-2147483648) (-1) c27 (i_rng x2) rfl
            exact gg_w (by omega) (gg_f (gf_cons rfl (gf_cons rfl (gf_cons rfl (gf_cons rfl gf_nil)))) (ct32 s  hI ))
          · skip
            have i29 := z_ge 0 2147483647 c27 (i_rng x2) rfl
            refine g_iload_n 20 (gd rfl) rfl rfl ?_
            refine g_iconst 1 21 (gd rfl) rfl rfl ?_
            refine g_cmp_gt 24 32 (gd rfl) rfl rfl (fun c30 => ?_) (fun c30 => ?_)
            · skip
              have i31 := r_lt2 2 2147483647 c30 (in_c 1 rfl) i29 rfl
              exact gg_w (by omega) (gg_f (gf_cons rfl (gf_cons rfl (gf_cons rfl (gf_cons rfl gf_nil)))) (ct32 s  hI ))
            · skip
              have i32 := r_le1 0 1 c30 i29 (in_c 1 rfl) rfl
              refine g_iload_n 25 (gd rfl) rfl rfl ?_
              refine g_if_lt 28 32 (gd rfl) rfl rfl (fun c33 => ?_) (fun c33 => ?_)
              · skip
                have i34 := z_lt (-2147483648) (-1) c33 (i_rng x3) rfl
                exact gg_w (by omega) (gg_f (gf_cons rfl (gf_cons rfl (gf_cons rfl (gf_cons rfl gf_nil)))) (ct32 s  hI ))
              · skip
                have i35 := z_ge 0 2147483647 c33 (i_rng x3) rfl
                refine g_iconst 1 29 (gd rfl) rfl rfl ?_
                refine g_goto 33 (gd rfl) rfl ?_
                refine g_thr (E := am_IA) (y := yX11_allow) 36 (gd rfl) rfl rfl (Or.inl ⟨rfl, rfl, rfl⟩) (by omega) (Nat.le_of_ble_eq_true rfl) (Nat.le_of_ble_eq_true rfl) (Nat.le_of_ble_eq_true rfl) (fun c36 => ?_) (fun c36 => ?_)
                · skip
                  refine g_aload 38 (gd rfl) rfl rfl ?_
                  refine g_callv (X := _) (As := []) (r := []) (b := A 32) (q := 32) 41 (gd rfl) rfl rfl rfl rfl rfl (ww_o rfl) (Nat.le_of_ble_eq_true rfl) (Nat.zero_le _) (Nat.zero_le _) (k_106_32 (by omega) hI ) (fun e u h => h) (fun v u h => ?_)
                  obtain ⟨s37, hI38, rfl, rfl⟩ := h
                  show GG _ _ _ _ _ _ _ _ [] _ _ _
                  refine g_iload_n 42 (gd rfl) rfl rfl ?_
                  refine g_if_ne 45 75 (gd rfl) rfl rfl (fun c41 => ?_) (fun c41 => ?_)
                  · skip
                    have i42 := z_ne 1 1 c41 i32 rfl
                    refine g_iload_n 76 (gd rfl) rfl rfl ?_
                    refine g_aload 78 (gd rfl) rfl rfl ?_
                    refine g_iload_n 79 (gd rfl) rfl rfl ?_
                    refine g_callv (X := _) (As := [.int x1]) (r := [.int x3]) (b := A 32) (q := 32) 82 (gd rfl) rfl rfl rfl rfl rfl (ww_o rfl) (Nat.le_of_ble_eq_true rfl) (mc := 0) (ms := 0) (Nat.zero_le _) (Nat.zero_le _) (P := fun v u => _) ?_ (fun e u h => h) (fun v u h => h)
                    intro po43 xx44 hp45 hx46
                    refine g_enter2 (k := 104) (N := 300) (by omega) rfl (Nat.le_of_ble_eq_true rfl) ?_
                    refine g_aload_n 1 (gd rfl) rfl rfl ?_
                    refine g_getA (q2 := 44) 4 (gd rfl) rfl rfl rfl rfl rfl ?_
                    refine g_iload_n 5 (gd rfl) rfl rfl ?_
                    refine g_iconst 1 6 (gd rfl) rfl rfl ?_
                    refine g_iadd 7 (gd rfl) rfl (fun z47 e48 => ?_)
                    have i49 := in_add 1 32 e48 i24 (in_c 1 rfl) rfl rfl
                    refine g_iaload 8 (gd rfl) rfl (n := 33) rfl (in_ix i49 rfl) (fun z50 e51 => ?_)
                    have i52 := inv_I hI38 (n := 33) (t := 0) 0 160 rfl (in_ix i49 rfl) rfl e51
                    refine g_aload_n 9 (gd rfl) rfl rfl ?_
                    refine g_getA (q2 := 44) 12 (gd rfl) rfl rfl rfl rfl rfl ?_
                    refine g_iload_n 13 (gd rfl) rfl rfl ?_
                    refine g_iaload 14 (gd rfl) rfl (n := 33) rfl (in_ix i24 rfl) (fun z53 e54 => ?_)
                    have i55 := inv_I hI38 (n := 33) (t := 0) 0 160 rfl (in_ix i24 rfl) rfl e54
                    refine g_isub 15 (gd rfl) rfl (fun z56 e57 => ?_)
                    have i58 := in_sub (-160) 160 e57 i52 i55 rfl rfl
                    refine g_ireturn (gd rfl) rfl rfl (hp45 _ _ ?_)
                    show GG _ _ _ _ _ _ _ _ [.int z56, .int x3] _ _ _
                    refine g_cmp_ge 85 103 (gd rfl) rfl rfl (fun c59 => ?_) (fun c59 => ?_)
                    · skip
                      refine g_iconst (-1) 104 (gd rfl) rfl rfl ?_
                      exact g_ireturn (gd rfl) rfl rfl (hP _ _ ⟨s37, hI38, (Int32.ofInt (-1)), rfl, rfl, in_w (-1) 159 (in_c (-1) rfl) rfl⟩)
                    · skip
                      have i60 := r_lt1 0 159 c59 i35 i58 rfl
                      have i61 := r_lt2 1 160 c59 i35 i58 rfl
                      refine g_aload 87 (gd rfl) rfl rfl ?_
                      refine g_getA (q2 := 45) 90 (gd rfl) rfl rfl rfl rfl rfl ?_
                      refine g_aload 92 (gd rfl) rfl rfl ?_
                      refine g_getA (q2 := 44) 95 (gd rfl) rfl rfl rfl rfl rfl ?_
                      refine g_iload_n 96 (gd rfl) rfl rfl ?_
                      refine g_iaload 97 (gd rfl) rfl (n := 33) rfl (in_ix i24 rfl) (fun z62 e63 => ?_)
                      have q64 : z53 = z62 := (e54).trans e63.symm
                      subst q64
                      refine g_iload_n 98 (gd rfl) rfl rfl ?_
                      refine g_iadd 99 (gd rfl) rfl (fun z65 e66 => ?_)
                      have i67 := in_add 0 319 e66 i55 i60 rfl rfl
                      have i68 : In z65 0 159 := by have a0 := i60; unfold In at a0; have a1 := i42; unfold In at a1; have a2 := i24; unfold In at a2; have a3 := i67; unfold In at a3; have a4 := t_add e66 i55 i60 rfl; have a5 := i55; unfold In at a5; have a6 := i61; unfold In at a6; have a7 := t_sub e57 i52 i55 rfl; have a8 := i52; unfold In at a8; have a9 := i49; unfold In at a9; have a10 := t_add e48 i24 (in_c 1 rfl) rfl; have a11 := (in_c 1 rfl); unfold In at a11; exact ⟨by omega, by omega⟩
                      refine g_iaload 100 (gd rfl) rfl (n := 160) rfl (in_ix i68 rfl) (fun z69 e70 => ?_)
                      have i71 := inv_I hI38 (n := 160) (t := 0) 0 159 rfl (in_ix i68 rfl) rfl e70
                      refine g_goto 104 (gd rfl) rfl ?_
                      exact g_ireturn (gd rfl) rfl rfl (hP _ _ ⟨s37, hI38, z69, rfl, rfl, in_w (-1) 159 i71 rfl⟩)
                  · skip
                    have i72 := z_eq 0 0 c41 i32 rfl
                    refine g_iload_n 46 (gd rfl) rfl rfl ?_
                    refine g_aload 48 (gd rfl) rfl rfl ?_
                    refine g_iload_n 49 (gd rfl) rfl rfl ?_
                    refine g_callv (X := _) (As := [.int x1]) (r := [.int x3]) (b := A 32) (q := 32) 52 (gd rfl) rfl rfl rfl rfl rfl (ww_o rfl) (Nat.le_of_ble_eq_true rfl) (mc := 0) (ms := 0) (Nat.zero_le _) (Nat.zero_le _) (P := fun v u => _) ?_ (fun e u h => h) (fun v u h => h)
                    intro po73 xx74 hp75 hx76
                    refine g_enter2 (k := 103) (N := 300) (by omega) rfl (Nat.le_of_ble_eq_true rfl) ?_
                    refine g_aload_n 1 (gd rfl) rfl rfl ?_
                    refine g_getA (q2 := 42) 4 (gd rfl) rfl rfl rfl rfl rfl ?_
                    refine g_iload_n 5 (gd rfl) rfl rfl ?_
                    refine g_iconst 1 6 (gd rfl) rfl rfl ?_
                    refine g_iadd 7 (gd rfl) rfl (fun z77 e78 => ?_)
                    have i79 := in_add 1 32 e78 i24 (in_c 1 rfl) rfl rfl
                    refine g_iaload 8 (gd rfl) rfl (n := 33) rfl (in_ix i79 rfl) (fun z80 e81 => ?_)
                    have i82 := inv_I hI38 (n := 33) (t := 0) 0 160 rfl (in_ix i79 rfl) rfl e81
                    refine g_aload_n 9 (gd rfl) rfl rfl ?_
                    refine g_getA (q2 := 42) 12 (gd rfl) rfl rfl rfl rfl rfl ?_
                    refine g_iload_n 13 (gd rfl) rfl rfl ?_
                    refine g_iaload 14 (gd rfl) rfl (n := 33) rfl (in_ix i24 rfl) (fun z83 e84 => ?_)
                    have i85 := inv_I hI38 (n := 33) (t := 0) 0 160 rfl (in_ix i24 rfl) rfl e84
                    refine g_isub 15 (gd rfl) rfl (fun z86 e87 => ?_)
                    have i88 := in_sub (-160) 160 e87 i82 i85 rfl rfl
                    refine g_ireturn (gd rfl) rfl rfl (hp75 _ _ ?_)
                    show GG _ _ _ _ _ _ _ _ [.int z86, .int x3] _ _ _
                    refine g_cmp_ge 55 73 (gd rfl) rfl rfl (fun c89 => ?_) (fun c89 => ?_)
                    · skip
                      refine g_iconst (-1) 74 (gd rfl) rfl rfl ?_
                      exact g_ireturn (gd rfl) rfl rfl (hP _ _ ⟨s37, hI38, (Int32.ofInt (-1)), rfl, rfl, in_w (-1) 159 (in_c (-1) rfl) rfl⟩)
                    · skip
                      have i90 := r_lt1 0 159 c89 i35 i88 rfl
                      have i91 := r_lt2 1 160 c89 i35 i88 rfl
                      refine g_aload 57 (gd rfl) rfl rfl ?_
                      refine g_getA (q2 := 43) 60 (gd rfl) rfl rfl rfl rfl rfl ?_
                      refine g_aload 62 (gd rfl) rfl rfl ?_
                      refine g_getA (q2 := 42) 65 (gd rfl) rfl rfl rfl rfl rfl ?_
                      refine g_iload_n 66 (gd rfl) rfl rfl ?_
                      refine g_iaload 67 (gd rfl) rfl (n := 33) rfl (in_ix i24 rfl) (fun z92 e93 => ?_)
                      have q94 : z83 = z92 := (e84).trans e93.symm
                      subst q94
                      refine g_iload_n 68 (gd rfl) rfl rfl ?_
                      refine g_iadd 69 (gd rfl) rfl (fun z95 e96 => ?_)
                      have i97 := in_add 0 319 e96 i85 i90 rfl rfl
                      have i98 : In z95 0 159 := by have a0 := i90; unfold In at a0; have a1 := i72; unfold In at a1; have a2 := i24; unfold In at a2; have a3 := i97; unfold In at a3; have a4 := t_add e96 i85 i90 rfl; have a5 := i85; unfold In at a5; have a6 := i91; unfold In at a6; have a7 := t_sub e87 i82 i85 rfl; have a8 := i82; unfold In at a8; have a9 := i79; unfold In at a9; have a10 := t_add e78 i24 (in_c 1 rfl) rfl; have a11 := (in_c 1 rfl); unfold In at a11; exact ⟨by omega, by omega⟩
                      refine g_iaload 70 (gd rfl) rfl (n := 160) rfl (in_ix i98 rfl) (fun z99 e100 => ?_)
                      have i101 := inv_I hI38 (n := 160) (t := 0) 0 159 rfl (in_ix i98 rfl) rfl e100
                      refine g_goto 74 (gd rfl) rfl ?_
                      exact g_ireturn (gd rfl) rfl rfl (hP _ _ ⟨s37, hI38, z99, rfl, rfl, in_w (-1) 159 i101 rfl⟩)
                · skip
                  exact zn_eq c36 (in_c 1 rfl) rfl
  · skip
    have i102 := r_eq1 (-1) (-1) c9 i8 (in_c (-1) rfl) rfl
    refine g_aload_n 9 (gd rfl) rfl rfl ?_
    refine g_getA (q2 := 1) 12 (gd rfl) rfl rfl rfl rfl rfl ?_
    refine g_getA (q2 := 2) 15 (gd rfl) rfl rfl rfl rfl rfl ?_
    refine g_goto 22 (gd rfl) rfl ?_
    refine g_areturn (gd rfl) rfl (hp4 _ _ ?_)
    show GG _ _ _ _ _ _ _ _ [.ref (A 2)] _ _ _
    refine g_astore 6 (gd rfl) rfl (Nat.le_of_ble_eq_true rfl) ?_
    refine g_aload 8 (gd rfl) rfl rfl ?_
    refine g_iload_n 9 (gd rfl) rfl rfl ?_
    refine g_callv (X := _) (As := [.int x1]) (r := []) (b := A 2) (q := 2) 12 (gd rfl) rfl rfl rfl rfl rfl (ww_o rfl) (Nat.le_of_ble_eq_true rfl) (mc := 0) (ms := 0) (Nat.zero_le _) (Nat.zero_le _) (P := fun v u => _) ?_ (fun e u h => h) (fun v u h => h)
    intro po103 xx104 hp105 hx106
    refine g_enter2 (k := 94) (N := 300) (by omega) rfl (Nat.le_of_ble_eq_true rfl) ?_
    refine g_iload_n 1 (gd rfl) rfl rfl ?_
    refine g_if_lt 4 16 (gd rfl) rfl rfl (fun c107 => ?_) (fun c107 => ?_)
    · skip
      have i108 := z_lt (-2147483648) (-1) c107 (i_rng x1) rfl
      refine g_iconst 0 17 (gd rfl) rfl rfl ?_
      refine g_ireturn (gd rfl) rfl (nb01 (in_w 0 1 (in_c 0 rfl) rfl)) (hp105 _ _ ?_)
      show GG _ _ _ _ _ _ _ _ [.int (Int32.ofInt 0)] _ _ _
      refine g_if_eq 15 32 (gd rfl) rfl rfl (fun c109 => ?_) (fun c109 => ?_)
      · skip
        exact gg_w (by omega) (gg_f (gf_cons rfl (gf_cons rfl (gf_cons rfl (gf_cons rfl gf_nil)))) (ct32 s  hI ))
      · skip
        exact zn_ne c109 (in_c 0 rfl) rfl
    · skip
      have i110 := z_ge 0 2147483647 c107 (i_rng x1) rfl
      refine g_iload_n 5 (gd rfl) rfl rfl ?_
      refine g_aload_n 6 (gd rfl) rfl rfl ?_
      refine g_getI 9 (gd rfl) rfl rfl rfl (fun z111 e112 => ?_)
      have i113 := inv_F hI 0 32 rfl e112
      refine g_cmp_ge 12 16 (gd rfl) rfl rfl (fun c114 => ?_) (fun c114 => ?_)
      · skip
        refine g_iconst 0 17 (gd rfl) rfl rfl ?_
        refine g_ireturn (gd rfl) rfl (nb01 (in_w 0 1 (in_c 0 rfl) rfl)) (hp105 _ _ ?_)
        show GG _ _ _ _ _ _ _ _ [.int (Int32.ofInt 0)] _ _ _
        refine g_if_eq 15 32 (gd rfl) rfl rfl (fun c115 => ?_) (fun c115 => ?_)
        · skip
          exact gg_w (by omega) (gg_f (gf_cons rfl (gf_cons rfl (gf_cons rfl (gf_cons rfl gf_nil)))) (ct32 s  hI ))
        · skip
          exact zn_ne c115 (in_c 0 rfl) rfl
      · skip
        have i116 := r_lt1 0 31 c114 i110 i113 rfl
        have i117 := r_lt2 1 32 c114 i110 i113 rfl
        refine g_iconst 1 13 (gd rfl) rfl rfl ?_
        refine g_goto 17 (gd rfl) rfl ?_
        refine g_ireturn (gd rfl) rfl (nb01 (in_w 0 1 (in_c 1 rfl) rfl)) (hp105 _ _ ?_)
        show GG _ _ _ _ _ _ _ _ [.int (Int32.ofInt 1)] _ _ _
        refine g_if_eq 15 32 (gd rfl) rfl rfl (fun c118 => ?_) (fun c118 => ?_)
        · skip
          exact zn_eq c118 (in_c 1 rfl) rfl
        · skip
          refine g_iload_n 16 (gd rfl) rfl rfl ?_
          refine g_if_lt 19 32 (gd rfl) rfl rfl (fun c119 => ?_) (fun c119 => ?_)
          · skip
            have i120 := z_lt (-2147483648) (-1) c119 (i_rng x2) rfl
            exact gg_w (by omega) (gg_f (gf_cons rfl (gf_cons rfl (gf_cons rfl (gf_cons rfl gf_nil)))) (ct32 s  hI ))
          · skip
            have i121 := z_ge 0 2147483647 c119 (i_rng x2) rfl
            refine g_iload_n 20 (gd rfl) rfl rfl ?_
            refine g_iconst 1 21 (gd rfl) rfl rfl ?_
            refine g_cmp_gt 24 32 (gd rfl) rfl rfl (fun c122 => ?_) (fun c122 => ?_)
            · skip
              have i123 := r_lt2 2 2147483647 c122 (in_c 1 rfl) i121 rfl
              exact gg_w (by omega) (gg_f (gf_cons rfl (gf_cons rfl (gf_cons rfl (gf_cons rfl gf_nil)))) (ct32 s  hI ))
            · skip
              have i124 := r_le1 0 1 c122 i121 (in_c 1 rfl) rfl
              refine g_iload_n 25 (gd rfl) rfl rfl ?_
              refine g_if_lt 28 32 (gd rfl) rfl rfl (fun c125 => ?_) (fun c125 => ?_)
              · skip
                have i126 := z_lt (-2147483648) (-1) c125 (i_rng x3) rfl
                exact gg_w (by omega) (gg_f (gf_cons rfl (gf_cons rfl (gf_cons rfl (gf_cons rfl gf_nil)))) (ct32 s  hI ))
              · skip
                have i127 := z_ge 0 2147483647 c125 (i_rng x3) rfl
                refine g_iconst 1 29 (gd rfl) rfl rfl ?_
                refine g_goto 33 (gd rfl) rfl ?_
                refine g_thr (E := am_IA) (y := yX11_allow) 36 (gd rfl) rfl rfl (Or.inl ⟨rfl, rfl, rfl⟩) (by omega) (Nat.le_of_ble_eq_true rfl) (Nat.le_of_ble_eq_true rfl) (Nat.le_of_ble_eq_true rfl) (fun c128 => ?_) (fun c128 => ?_)
                · skip
                  refine g_aload 38 (gd rfl) rfl rfl ?_
                  refine g_callv (X := _) (As := []) (r := []) (b := A 2) (q := 2) 41 (gd rfl) rfl rfl rfl rfl rfl (ww_o rfl) (Nat.le_of_ble_eq_true rfl) (Nat.zero_le _) (Nat.zero_le _) (k_106_2 (by omega) hI ) (fun e u h => h) (fun v u h => ?_)
                  obtain ⟨s129, hI130, rfl, rfl⟩ := h
                  show GG _ _ _ _ _ _ _ _ [] _ _ _
                  refine g_iload_n 42 (gd rfl) rfl rfl ?_
                  refine g_if_ne 45 75 (gd rfl) rfl rfl (fun c133 => ?_) (fun c133 => ?_)
                  · skip
                    have i134 := z_ne 1 1 c133 i124 rfl
                    refine g_iload_n 76 (gd rfl) rfl rfl ?_
                    refine g_aload 78 (gd rfl) rfl rfl ?_
                    refine g_iload_n 79 (gd rfl) rfl rfl ?_
                    refine g_callv (X := _) (As := [.int x1]) (r := [.int x3]) (b := A 2) (q := 2) 82 (gd rfl) rfl rfl rfl rfl rfl (ww_o rfl) (Nat.le_of_ble_eq_true rfl) (mc := 0) (ms := 0) (Nat.zero_le _) (Nat.zero_le _) (P := fun v u => _) ?_ (fun e u h => h) (fun v u h => h)
                    intro po135 xx136 hp137 hx138
                    refine g_enter2 (k := 104) (N := 300) (by omega) rfl (Nat.le_of_ble_eq_true rfl) ?_
                    refine g_aload_n 1 (gd rfl) rfl rfl ?_
                    refine g_getA (q2 := 14) 4 (gd rfl) rfl rfl rfl rfl rfl ?_
                    refine g_iload_n 5 (gd rfl) rfl rfl ?_
                    refine g_iconst 1 6 (gd rfl) rfl rfl ?_
                    refine g_iadd 7 (gd rfl) rfl (fun z139 e140 => ?_)
                    have i141 := in_add 1 32 e140 i116 (in_c 1 rfl) rfl rfl
                    refine g_iaload 8 (gd rfl) rfl (n := 33) rfl (in_ix i141 rfl) (fun z142 e143 => ?_)
                    have i144 := inv_I hI130 (n := 33) (t := 0) 0 160 rfl (in_ix i141 rfl) rfl e143
                    refine g_aload_n 9 (gd rfl) rfl rfl ?_
                    refine g_getA (q2 := 14) 12 (gd rfl) rfl rfl rfl rfl rfl ?_
                    refine g_iload_n 13 (gd rfl) rfl rfl ?_
                    refine g_iaload 14 (gd rfl) rfl (n := 33) rfl (in_ix i116 rfl) (fun z145 e146 => ?_)
                    have i147 := inv_I hI130 (n := 33) (t := 0) 0 160 rfl (in_ix i116 rfl) rfl e146
                    refine g_isub 15 (gd rfl) rfl (fun z148 e149 => ?_)
                    have i150 := in_sub (-160) 160 e149 i144 i147 rfl rfl
                    refine g_ireturn (gd rfl) rfl rfl (hp137 _ _ ?_)
                    show GG _ _ _ _ _ _ _ _ [.int z148, .int x3] _ _ _
                    refine g_cmp_ge 85 103 (gd rfl) rfl rfl (fun c151 => ?_) (fun c151 => ?_)
                    · skip
                      refine g_iconst (-1) 104 (gd rfl) rfl rfl ?_
                      exact g_ireturn (gd rfl) rfl rfl (hP _ _ ⟨s129, hI130, (Int32.ofInt (-1)), rfl, rfl, in_w (-1) 159 (in_c (-1) rfl) rfl⟩)
                    · skip
                      have i152 := r_lt1 0 159 c151 i127 i150 rfl
                      have i153 := r_lt2 1 160 c151 i127 i150 rfl
                      refine g_aload 87 (gd rfl) rfl rfl ?_
                      refine g_getA (q2 := 15) 90 (gd rfl) rfl rfl rfl rfl rfl ?_
                      refine g_aload 92 (gd rfl) rfl rfl ?_
                      refine g_getA (q2 := 14) 95 (gd rfl) rfl rfl rfl rfl rfl ?_
                      refine g_iload_n 96 (gd rfl) rfl rfl ?_
                      refine g_iaload 97 (gd rfl) rfl (n := 33) rfl (in_ix i116 rfl) (fun z154 e155 => ?_)
                      have q156 : z145 = z154 := (e146).trans e155.symm
                      subst q156
                      refine g_iload_n 98 (gd rfl) rfl rfl ?_
                      refine g_iadd 99 (gd rfl) rfl (fun z157 e158 => ?_)
                      have i159 := in_add 0 319 e158 i147 i152 rfl rfl
                      have i160 : In z157 0 159 := by have a0 := i152; unfold In at a0; have a1 := i134; unfold In at a1; have a2 := i116; unfold In at a2; have a3 := i159; unfold In at a3; have a4 := t_add e158 i147 i152 rfl; have a5 := i147; unfold In at a5; have a6 := i153; unfold In at a6; have a7 := t_sub e149 i144 i147 rfl; have a8 := i144; unfold In at a8; have a9 := i141; unfold In at a9; have a10 := t_add e140 i116 (in_c 1 rfl) rfl; have a11 := (in_c 1 rfl); unfold In at a11; exact ⟨by omega, by omega⟩
                      refine g_iaload 100 (gd rfl) rfl (n := 160) rfl (in_ix i160 rfl) (fun z161 e162 => ?_)
                      have i163 := inv_I hI130 (n := 160) (t := 0) 0 159 rfl (in_ix i160 rfl) rfl e162
                      refine g_goto 104 (gd rfl) rfl ?_
                      exact g_ireturn (gd rfl) rfl rfl (hP _ _ ⟨s129, hI130, z161, rfl, rfl, in_w (-1) 159 i163 rfl⟩)
                  · skip
                    have i164 := z_eq 0 0 c133 i124 rfl
                    refine g_iload_n 46 (gd rfl) rfl rfl ?_
                    refine g_aload 48 (gd rfl) rfl rfl ?_
                    refine g_iload_n 49 (gd rfl) rfl rfl ?_
                    refine g_callv (X := _) (As := [.int x1]) (r := [.int x3]) (b := A 2) (q := 2) 52 (gd rfl) rfl rfl rfl rfl rfl (ww_o rfl) (Nat.le_of_ble_eq_true rfl) (mc := 0) (ms := 0) (Nat.zero_le _) (Nat.zero_le _) (P := fun v u => _) ?_ (fun e u h => h) (fun v u h => h)
                    intro po165 xx166 hp167 hx168
                    refine g_enter2 (k := 103) (N := 300) (by omega) rfl (Nat.le_of_ble_eq_true rfl) ?_
                    refine g_aload_n 1 (gd rfl) rfl rfl ?_
                    refine g_getA (q2 := 12) 4 (gd rfl) rfl rfl rfl rfl rfl ?_
                    refine g_iload_n 5 (gd rfl) rfl rfl ?_
                    refine g_iconst 1 6 (gd rfl) rfl rfl ?_
                    refine g_iadd 7 (gd rfl) rfl (fun z169 e170 => ?_)
                    have i171 := in_add 1 32 e170 i116 (in_c 1 rfl) rfl rfl
                    refine g_iaload 8 (gd rfl) rfl (n := 33) rfl (in_ix i171 rfl) (fun z172 e173 => ?_)
                    have i174 := inv_I hI130 (n := 33) (t := 0) 0 160 rfl (in_ix i171 rfl) rfl e173
                    refine g_aload_n 9 (gd rfl) rfl rfl ?_
                    refine g_getA (q2 := 12) 12 (gd rfl) rfl rfl rfl rfl rfl ?_
                    refine g_iload_n 13 (gd rfl) rfl rfl ?_
                    refine g_iaload 14 (gd rfl) rfl (n := 33) rfl (in_ix i116 rfl) (fun z175 e176 => ?_)
                    have i177 := inv_I hI130 (n := 33) (t := 0) 0 160 rfl (in_ix i116 rfl) rfl e176
                    refine g_isub 15 (gd rfl) rfl (fun z178 e179 => ?_)
                    have i180 := in_sub (-160) 160 e179 i174 i177 rfl rfl
                    refine g_ireturn (gd rfl) rfl rfl (hp167 _ _ ?_)
                    show GG _ _ _ _ _ _ _ _ [.int z178, .int x3] _ _ _
                    refine g_cmp_ge 55 73 (gd rfl) rfl rfl (fun c181 => ?_) (fun c181 => ?_)
                    · skip
                      refine g_iconst (-1) 74 (gd rfl) rfl rfl ?_
                      exact g_ireturn (gd rfl) rfl rfl (hP _ _ ⟨s129, hI130, (Int32.ofInt (-1)), rfl, rfl, in_w (-1) 159 (in_c (-1) rfl) rfl⟩)
                    · skip
                      have i182 := r_lt1 0 159 c181 i127 i180 rfl
                      have i183 := r_lt2 1 160 c181 i127 i180 rfl
                      refine g_aload 57 (gd rfl) rfl rfl ?_
                      refine g_getA (q2 := 13) 60 (gd rfl) rfl rfl rfl rfl rfl ?_
                      refine g_aload 62 (gd rfl) rfl rfl ?_
                      refine g_getA (q2 := 12) 65 (gd rfl) rfl rfl rfl rfl rfl ?_
                      refine g_iload_n 66 (gd rfl) rfl rfl ?_
                      refine g_iaload 67 (gd rfl) rfl (n := 33) rfl (in_ix i116 rfl) (fun z184 e185 => ?_)
                      have q186 : z175 = z184 := (e176).trans e185.symm
                      subst q186
                      refine g_iload_n 68 (gd rfl) rfl rfl ?_
                      refine g_iadd 69 (gd rfl) rfl (fun z187 e188 => ?_)
                      have i189 := in_add 0 319 e188 i177 i182 rfl rfl
                      have i190 : In z187 0 159 := by have a0 := i182; unfold In at a0; have a1 := i164; unfold In at a1; have a2 := i116; unfold In at a2; have a3 := i189; unfold In at a3; have a4 := t_add e188 i177 i182 rfl; have a5 := i177; unfold In at a5; have a6 := i183; unfold In at a6; have a7 := t_sub e179 i174 i177 rfl; have a8 := i174; unfold In at a8; have a9 := i171; unfold In at a9; have a10 := t_add e170 i116 (in_c 1 rfl) rfl; have a11 := (in_c 1 rfl); unfold In at a11; exact ⟨by omega, by omega⟩
                      refine g_iaload 70 (gd rfl) rfl (n := 160) rfl (in_ix i190 rfl) (fun z191 e192 => ?_)
                      have i193 := inv_I hI130 (n := 160) (t := 0) 0 159 rfl (in_ix i190 rfl) rfl e192
                      refine g_goto 74 (gd rfl) rfl ?_
                      exact g_ireturn (gd rfl) rfl rfl (hP _ _ ⟨s129, hI130, z191, rfl, rfl, in_w (-1) 159 i193 rfl⟩)
                · skip
                  exact zn_eq c128 (in_c 1 rfl) rfl

/-- GraphHouse.type -/
theorem k_223_0 {Z : AmZ} {A : Nat → Nat} {s : GS} {ex : va_W} {d : Nat} {x1 : Int32} (hd : 7 ≤ d) (hI : Inv s)  : GC Z d 223 [.ref (A 0), .int x1] (WW Z A s ++ ex) 3 18 (fun v u => ∃ t : GS, Inv t ∧ ∃ z : Int32, v = some (.int z) ∧ u = WW Z A t ++ ex ∧ In z 1 1000) (gE2 Z A ex) := by
  intro post xp hP hX
  refine g_enter2 (k := 223) (N := 900) (by omega) rfl (Nat.le_of_ble_eq_true rfl) ?_
  refine g_iload_n 1 (gd rfl) rfl rfl ?_
  refine g_bipush 32 3 (gd rfl) rfl rfl ?_
  refine g_cmp_lt 6 16 (gd rfl) rfl rfl (fun c1 => ?_) (fun c1 => ?_)
  · skip
    have i2 := r_lt1 (-2147483648) 31 c1 (i_rng x1) (in_c 32 rfl) rfl
    refine g_iconst 0 17 (gd rfl) rfl rfl ?_
    refine g_thr (E := am_IA) (y := yX11_allow) 20 (gd rfl) rfl rfl (Or.inl ⟨rfl, rfl, rfl⟩) (by omega) (Nat.le_of_ble_eq_true rfl) (Nat.le_of_ble_eq_true rfl) (Nat.le_of_ble_eq_true rfl) (fun c3 => ?_) (fun c3 => ?_)
    · skip
      exact zn_ne c3 (in_c 0 rfl) rfl
    · skip
      exact (hX _ _ ⟨Or.inl rfl, s, hI, rfl⟩)
  · skip
    have i4 := r_le2 32 2147483647 c1 (in_c 32 rfl) (i_rng x1) rfl
    refine g_iload_n 7 (gd rfl) rfl rfl ?_
    refine g_bipush 126 9 (gd rfl) rfl rfl ?_
    refine g_cmp_gt 12 16 (gd rfl) rfl rfl (fun c5 => ?_) (fun c5 => ?_)
    · skip
      have i6 := r_lt2 127 2147483647 c5 (in_c 126 rfl) i4 rfl
      refine g_iconst 0 17 (gd rfl) rfl rfl ?_
      refine g_thr (E := am_IA) (y := yX11_allow) 20 (gd rfl) rfl rfl (Or.inl ⟨rfl, rfl, rfl⟩) (by omega) (Nat.le_of_ble_eq_true rfl) (Nat.le_of_ble_eq_true rfl) (Nat.le_of_ble_eq_true rfl) (fun c7 => ?_) (fun c7 => ?_)
      · skip
        exact zn_ne c7 (in_c 0 rfl) rfl
      · skip
        exact (hX _ _ ⟨Or.inl rfl, s, hI, rfl⟩)
    · skip
      have i8 := r_le1 32 126 c5 i4 (in_c 126 rfl) rfl
      refine g_iconst 1 13 (gd rfl) rfl rfl ?_
      refine g_goto 17 (gd rfl) rfl ?_
      refine g_thr (E := am_IA) (y := yX11_allow) 20 (gd rfl) rfl rfl (Or.inl ⟨rfl, rfl, rfl⟩) (by omega) (Nat.le_of_ble_eq_true rfl) (Nat.le_of_ble_eq_true rfl) (Nat.le_of_ble_eq_true rfl) (fun c9 => ?_) (fun c9 => ?_)
      · skip
        refine g_aload_n 21 (gd rfl) rfl rfl ?_
        refine g_getA (q2 := 46) 24 (gd rfl) rfl rfl rfl rfl rfl ?_
        refine g_getI 27 (gd rfl) rfl rfl rfl (fun z10 e11 => ?_)
        have i12 := inv_F hI 0 1000 rfl e11
        refine g_sipush 1000 30 (gd rfl) rfl rfl ?_
        refine g_cmp_ge 33 37 (gd rfl) rfl rfl (fun c13 => ?_) (fun c13 => ?_)
        · skip
          have i14 := r_le2 1000 1000 c13 (in_c 1000 rfl) i12 rfl
          refine g_iconst 0 38 (gd rfl) rfl rfl ?_
          refine g_thr (E := am_IS) (y := yX11_ready) 41 (gd rfl) rfl rfl (Or.inr ⟨rfl, rfl, rfl⟩) (by omega) (Nat.le_of_ble_eq_true rfl) (Nat.le_of_ble_eq_true rfl) (Nat.le_of_ble_eq_true rfl) (fun c15 => ?_) (fun c15 => ?_)
          · skip
            exact zn_ne c15 (in_c 0 rfl) rfl
          · skip
            exact (hX _ _ ⟨Or.inr rfl, s, hI, rfl⟩)
        · skip
          have i16 := r_lt1 0 999 c13 i12 (in_c 1000 rfl) rfl
          refine g_iconst 1 34 (gd rfl) rfl rfl ?_
          refine g_goto 38 (gd rfl) rfl ?_
          refine g_thr (E := am_IS) (y := yX11_ready) 41 (gd rfl) rfl rfl (Or.inr ⟨rfl, rfl, rfl⟩) (by omega) (Nat.le_of_ble_eq_true rfl) (Nat.le_of_ble_eq_true rfl) (Nat.le_of_ble_eq_true rfl) (fun c17 => ?_) (fun c17 => ?_)
          · skip
            refine g_aload_n 42 (gd rfl) rfl rfl ?_
            refine g_getA (q2 := 46) 45 (gd rfl) rfl rfl rfl rfl rfl ?_
            refine g_getA (q2 := 47) 48 (gd rfl) rfl rfl rfl rfl rfl ?_
            refine g_aload_n 49 (gd rfl) rfl rfl ?_
            refine g_getA (q2 := 46) 52 (gd rfl) rfl rfl rfl rfl rfl ?_
            refine g_getI 55 (gd rfl) rfl rfl rfl (fun z18 e19 => ?_)
            have q20 : z10 = z18 := (e11).trans e19.symm
            subst q20
            refine g_iload_n 56 (gd rfl) rfl rfl ?_
            refine g_i2c 57 (gd rfl) rfl (fun z21 e22 => ?_)
            have i23 := in_i2c e22
            refine g_castore 58 (gd rfl) rfl (n := 1000) rfl (in_ix i16 rfl) ?_
            have hI24 := inv_sI (q := 47) (j := z10.toNatClampNeg) hI rfl (in_w 0 65535 (nar_c z21) rfl)
            refine g_aload_n 59 (gd rfl) rfl rfl ?_
            refine g_getA (q2 := 46) 62 (gd rfl) rfl rfl rfl rfl rfl ?_
            refine g_dup 63 (gd rfl) rfl rfl ?_
            refine g_getI 66 (gd rfl) rfl rfl rfl (fun z25 e26 => ?_)
            have q27 : z10 = z25 := (e11).trans e26.symm
            subst q27
            refine g_iconst 1 67 (gd rfl) rfl rfl ?_
            refine g_iadd 68 (gd rfl) rfl (fun z28 e29 => ?_)
            have i30 := in_add 1 1000 e29 i16 (in_c 1 rfl) rfl rfl
            refine g_putI 71 (gd rfl) rfl rfl rfl rfl ?_
            have hI31 := inv_sF (q := 46) (j := 1) hI24 rfl (in_w 0 1000 i30 rfl)
            refine g_aload_n 72 (gd rfl) rfl rfl ?_
            refine g_getA (q2 := 46) 75 (gd rfl) rfl rfl rfl rfl rfl ?_
            refine g_getI 78 (gd rfl) rfl rfl rfl (fun z32 e33 => ?_)
            have q34 : z28 = z32 := (sF_get).trans e33.symm
            subst q34
            exact g_ireturn (gd rfl) rfl rfl (hP _ _ ⟨(sF (sI s 47 z10.toNatClampNeg (vp_nar .char z21)) 46 1 z28), hI31, z28, rfl, rfl, in_w 1 1000 i30 rfl⟩)
          · skip
            exact zn_eq c17 (in_c 1 rfl) rfl
      · skip
        exact zn_eq c9 (in_c 1 rfl) rfl

/-- GraphHouse.wipe -/
theorem k_224_0 {Z : AmZ} {A : Nat → Nat} {s : GS} {ex : va_W} {d : Nat} {X : AmX}  (hd : 1 ≤ d) (hI : Inv s)  : GC Z d 224 [.ref (A 0)] (WW Z A s ++ ex) 3 18 (fun v u => ∃ t : GS, Inv t ∧ ∃ z : Int32, v = some (.int z) ∧ u = WW Z A t ++ ex ∧ In z 0 1000) X := by
  intro post xp hP hX
  refine g_enter2 (k := 224) (N := 900) (by omega) rfl (Nat.le_of_ble_eq_true rfl) ?_
  refine g_aload_n 1 (gd rfl) rfl rfl ?_
  refine g_getA (q2 := 46) 4 (gd rfl) rfl rfl rfl rfl rfl ?_
  refine g_getI 7 (gd rfl) rfl rfl rfl (fun z1 e2 => ?_)
  have i3 := inv_F hI 0 1000 rfl e2
  refine g_istore_n 8 (gd rfl) rfl (Nat.le_of_ble_eq_true rfl) ?_
  refine g_aload_n 9 (gd rfl) rfl rfl ?_
  refine g_getA (q2 := 46) 12 (gd rfl) rfl rfl rfl rfl rfl ?_
  refine g_iconst 0 13 (gd rfl) rfl rfl ?_
  refine g_putI 16 (gd rfl) rfl rfl rfl rfl ?_
  have hI4 := inv_sF (q := 46) (j := 1) hI rfl (in_w 0 1000 (in_c 0 rfl) rfl)
  refine g_iload_n 17 (gd rfl) rfl rfl ?_
  exact g_ireturn (gd rfl) rfl rfl (hP _ _ ⟨(sF s 46 1 (Int32.ofInt 0)), hI4, z1, rfl, rfl, in_w 0 1000 i3 rfl⟩)

/-- GraphHouse.fault -/
theorem k_226_0 {Z : AmZ} {A : Nat → Nat} {s : GS} {ex : va_W} {d : Nat} {x1 : Int32} (hd : 7 ≤ d) (hI : Inv s)  : GC Z d 226 [.ref (A 0), .int x1] (WW Z A s ++ ex) 3 18 (fun v u => ∃ t : GS, Inv t ∧ ∃ z : Int32, v = some (.int z) ∧ u = WW Z A t ++ ex ∧ In z (-1) 1000) (gE1 Z A ex) := by
  intro post xp hP hX
  refine g_enter2 (k := 226) (N := 900) (by omega) rfl (Nat.le_of_ble_eq_true rfl) ?_
  refine g_iload_n 1 (gd rfl) rfl rfl ?_
  refine g_if_lt 4 13 (gd rfl) rfl rfl (fun c1 => ?_) (fun c1 => ?_)
  · skip
    have i2 := z_lt (-2147483648) (-1) c1 (i_rng x1) rfl
    refine g_iconst 0 14 (gd rfl) rfl rfl ?_
    refine g_thr (E := am_IA) (y := yX11_allow) 17 (gd rfl) rfl rfl (Or.inl ⟨rfl, rfl, rfl⟩) (by omega) (Nat.le_of_ble_eq_true rfl) (Nat.le_of_ble_eq_true rfl) (Nat.le_of_ble_eq_true rfl) (fun c3 => ?_) (fun c3 => ?_)
    · skip
      exact zn_ne c3 (in_c 0 rfl) rfl
    · skip
      exact (hX _ _ ⟨rfl, s, hI, rfl⟩)
  · skip
    have i4 := z_ge 0 2147483647 c1 (i_rng x1) rfl
    refine g_iload_n 5 (gd rfl) rfl rfl ?_
    refine g_iconst 1 6 (gd rfl) rfl rfl ?_
    refine g_cmp_gt 9 13 (gd rfl) rfl rfl (fun c5 => ?_) (fun c5 => ?_)
    · skip
      have i6 := r_lt2 2 2147483647 c5 (in_c 1 rfl) i4 rfl
      refine g_iconst 0 14 (gd rfl) rfl rfl ?_
      refine g_thr (E := am_IA) (y := yX11_allow) 17 (gd rfl) rfl rfl (Or.inl ⟨rfl, rfl, rfl⟩) (by omega) (Nat.le_of_ble_eq_true rfl) (Nat.le_of_ble_eq_true rfl) (Nat.le_of_ble_eq_true rfl) (fun c7 => ?_) (fun c7 => ?_)
      · skip
        exact zn_ne c7 (in_c 0 rfl) rfl
      · skip
        exact (hX _ _ ⟨rfl, s, hI, rfl⟩)
    · skip
      have i8 := r_le1 0 1 c5 i4 (in_c 1 rfl) rfl
      refine g_iconst 1 10 (gd rfl) rfl rfl ?_
      refine g_goto 14 (gd rfl) rfl ?_
      refine g_thr (E := am_IA) (y := yX11_allow) 17 (gd rfl) rfl rfl (Or.inl ⟨rfl, rfl, rfl⟩) (by omega) (Nat.le_of_ble_eq_true rfl) (Nat.le_of_ble_eq_true rfl) (Nat.le_of_ble_eq_true rfl) (fun c9 => ?_) (fun c9 => ?_)
      · skip
        refine g_iload_n 18 (gd rfl) rfl rfl ?_
        refine g_if_ne 21 31 (gd rfl) rfl rfl (fun c10 => ?_) (fun c10 => ?_)
        · skip
          have i11 := z_ne 1 1 c10 i8 rfl
          refine g_aload_n 32 (gd rfl) rfl rfl ?_
          refine g_getA (q2 := 46) 35 (gd rfl) rfl rfl rfl rfl rfl ?_
          refine g_getI 38 (gd rfl) rfl rfl rfl (fun z12 e13 => ?_)
          have i14 := inv_F hI (-1) 1000 rfl e13
          exact g_ireturn (gd rfl) rfl rfl (hP _ _ ⟨s, hI, z12, rfl, rfl, in_w (-1) 1000 i14 rfl⟩)
        · skip
          have i15 := z_eq 0 0 c10 i8 rfl
          refine g_aload_n 22 (gd rfl) rfl rfl ?_
          refine g_getA (q2 := 46) 25 (gd rfl) rfl rfl rfl rfl rfl ?_
          refine g_getI 28 (gd rfl) rfl rfl rfl (fun z16 e17 => ?_)
          have i18 := inv_F hI (-1) 5 rfl e17
          refine g_goto 38 (gd rfl) rfl ?_
          exact g_ireturn (gd rfl) rfl rfl (hP _ _ ⟨s, hI, z16, rfl, rfl, in_w (-1) 1000 i18 rfl⟩)
      · skip
        exact zn_eq c9 (in_c 1 rfl) rfl

/-- GraphHouse.printed -/
theorem k_228_0 {Z : AmZ} {A : Nat → Nat} {s : GS} {ex : va_W} {d : Nat} {x1 : Int32} (hd : 7 ≤ d) (hI : Inv s)  : GC Z d 228 [.ref (A 0), .int x1] (WW Z A s ++ ex) 3 18 (fun v u => ∃ t : GS, Inv t ∧ ∃ z : Int32, v = some (.int z) ∧ u = WW Z A t ++ ex ∧ In z 0 65535) (gE1 Z A ex) := by
  intro post xp hP hX
  refine g_enter2 (k := 228) (N := 900) (by omega) rfl (Nat.le_of_ble_eq_true rfl) ?_
  refine g_iload_n 1 (gd rfl) rfl rfl ?_
  refine g_if_lt 4 19 (gd rfl) rfl rfl (fun c1 => ?_) (fun c1 => ?_)
  · skip
    have i2 := z_lt (-2147483648) (-1) c1 (i_rng x1) rfl
    refine g_iconst 0 20 (gd rfl) rfl rfl ?_
    refine g_thr (E := am_IA) (y := yX11_allow) 23 (gd rfl) rfl rfl (Or.inl ⟨rfl, rfl, rfl⟩) (by omega) (Nat.le_of_ble_eq_true rfl) (Nat.le_of_ble_eq_true rfl) (Nat.le_of_ble_eq_true rfl) (fun c3 => ?_) (fun c3 => ?_)
    · skip
      exact zn_ne c3 (in_c 0 rfl) rfl
    · skip
      exact (hX _ _ ⟨rfl, s, hI, rfl⟩)
  · skip
    have i4 := z_ge 0 2147483647 c1 (i_rng x1) rfl
    refine g_iload_n 5 (gd rfl) rfl rfl ?_
    refine g_aload_n 6 (gd rfl) rfl rfl ?_
    refine g_getA (q2 := 46) 9 (gd rfl) rfl rfl rfl rfl rfl ?_
    refine g_getI 12 (gd rfl) rfl rfl rfl (fun z5 e6 => ?_)
    have i7 := inv_F hI 0 4608 rfl e6
    refine g_cmp_ge 15 19 (gd rfl) rfl rfl (fun c8 => ?_) (fun c8 => ?_)
    · skip
      refine g_iconst 0 20 (gd rfl) rfl rfl ?_
      refine g_thr (E := am_IA) (y := yX11_allow) 23 (gd rfl) rfl rfl (Or.inl ⟨rfl, rfl, rfl⟩) (by omega) (Nat.le_of_ble_eq_true rfl) (Nat.le_of_ble_eq_true rfl) (Nat.le_of_ble_eq_true rfl) (fun c9 => ?_) (fun c9 => ?_)
      · skip
        exact zn_ne c9 (in_c 0 rfl) rfl
      · skip
        exact (hX _ _ ⟨rfl, s, hI, rfl⟩)
    · skip
      have i10 := r_lt1 0 4607 c8 i4 i7 rfl
      have i11 := r_lt2 1 4608 c8 i4 i7 rfl
      refine g_iconst 1 16 (gd rfl) rfl rfl ?_
      refine g_goto 20 (gd rfl) rfl ?_
      refine g_thr (E := am_IA) (y := yX11_allow) 23 (gd rfl) rfl rfl (Or.inl ⟨rfl, rfl, rfl⟩) (by omega) (Nat.le_of_ble_eq_true rfl) (Nat.le_of_ble_eq_true rfl) (Nat.le_of_ble_eq_true rfl) (fun c12 => ?_) (fun c12 => ?_)
      · skip
        refine g_aload_n 24 (gd rfl) rfl rfl ?_
        refine g_getA (q2 := 46) 27 (gd rfl) rfl rfl rfl rfl rfl ?_
        refine g_getA (q2 := 48) 30 (gd rfl) rfl rfl rfl rfl rfl ?_
        refine g_iload_n 31 (gd rfl) rfl rfl ?_
        refine g_caload 32 (gd rfl) rfl (n := 4608) rfl (in_ix i10 rfl) (fun z13 e14 => ?_)
        have i15 := inv_I hI (n := 4608) (t := 2) 0 65535 rfl (in_ix i10 rfl) rfl e14
        exact g_ireturn (gd rfl) rfl rfl (hP _ _ ⟨s, hI, z13, rfl, rfl, in_w 0 65535 i15 rfl⟩)
      · skip
        exact zn_eq c12 (in_c 1 rfl) rfl

/-- GraphHouse.clique -/
theorem k_239_0 {Z : AmZ} {A : Nat → Nat} {s : GS} {ex : va_W} {d : Nat} {x1 : Int32} (hd : 106 ≤ d) (hI : Inv s)  : GC Z d 239 [.ref (A 0), .int x1] (WW Z A s ++ ex) 3 18 (fun v u => ∃ t : GS, Inv t ∧ ∃ z : Int32, v = some (.int z) ∧ u = WW Z A t ++ ex ∧ In z (-1) 32) (gE1 Z A ex) := by
  intro post xp hP hX
  have ct36 : ∀ (k36 : Nat) (s : GS) (y36_2 : Int32) (y36_3 : Int32), Inv s → In x1 0 62 → In y36_3 0 120 → 120 - (y36_3).toInt < (k36 : Int) → GG Z (d - 1) 239 post (gx xp) (1 + k36 * 900) 36 (fun j => xlook j [(0, .ref (A 0)), (1, .int x1), (2, .int y36_2), (3, .int y36_3)]) [] (WW Z A s ++ ex) 2 12 := by
    intro k36
    induction k36 with
    | zero => intro s y36_2 y36_3 hI j36_1 j36_3 mm36; exact m_no mm36 j36_3 rfl
    | succ k36 ih36 =>
      intro s y36_2 y36_3 hI j36_1 j36_3 mm36
      refine gg_w (M := 1 + k36 * 900 + 900) (by omega) ?_
      refine g_iload_n 37 (gd rfl) rfl rfl ?_
      refine g_iload_n 38 (gd rfl) rfl rfl ?_
      refine g_cmp_ge 41 53 (gd rfl) rfl rfl (fun c1 => ?_) (fun c1 => ?_)
      · skip
        refine g_iload_n 54 (gd rfl) rfl rfl ?_
        refine g_calls (As := [.int y36_2]) (r := []) 57 (gd rfl) rfl rfl rfl rfl rfl (Nat.le_of_ble_eq_true rfl) (Nat.zero_le _) (Nat.zero_le _) (k_264 (by omega)) (fun v u h => ?_)
        obtain ⟨z2, rfl, rfl, i3⟩ := h
        show GG _ _ _ _ _ _ _ _ [.int z2] _ _ _
        exact g_ireturn (gd rfl) rfl rfl (hP _ _ ⟨s, hI, z2, rfl, rfl, in_w (-1) 32 i3 rfl⟩)
      · skip
        have i4 := r_lt1 0 61 c1 j36_3 j36_1 rfl
        have i5 := r_lt2 1 62 c1 j36_3 j36_1 rfl
        refine g_iload_n 42 (gd rfl) rfl rfl ?_
        refine g_iload_n 43 (gd rfl) rfl rfl ?_
        refine g_iconst 1 44 (gd rfl) rfl rfl ?_
        refine g_isub 45 (gd rfl) rfl (fun z6 e7 => ?_)
        refine g_iand 46 (gd rfl) rfl (fun z8 e9 => ?_)
        refine g_istore_n 47 (gd rfl) rfl (Nat.le_of_ble_eq_true rfl) ?_
        refine g_iinc 50 (gd rfl) rfl rfl (Nat.le_of_ble_eq_true rfl) (fun z10 e11 => ?_)
        have i12 := in_add 1 62 e11 i4 (in_c 1 rfl) rfl rfl
        refine g_goto 36 (gd rfl) rfl ?_
        exact gg_w (by omega) (gg_f (gf_cons rfl (gf_cons rfl (gf_cons rfl (gf_cons rfl gf_nil)))) (ih36 s z8 z10 hI (in_w 0 62 i5 rfl) (in_w 0 120 i12 rfl) (m_up mm36 (t_add e11 i4 (in_c 1 rfl) rfl) (in_w 1 1 (in_c 1 rfl) rfl))))
  refine g_enter2 (k := 239) (N := 109801) (by omega) rfl (Nat.le_of_ble_eq_true rfl) ?_
  refine g_iload_n 1 (gd rfl) rfl rfl ?_
  refine g_if_lt 4 8 (gd rfl) rfl rfl (fun c13 => ?_) (fun c13 => ?_)
  · skip
    have i14 := z_lt (-2147483648) (-1) c13 (i_rng x1) rfl
    refine g_iconst 0 9 (gd rfl) rfl rfl ?_
    refine g_thr (E := am_IA) (y := yX11_allow) 12 (gd rfl) rfl rfl (Or.inl ⟨rfl, rfl, rfl⟩) (by omega) (Nat.le_of_ble_eq_true rfl) (Nat.le_of_ble_eq_true rfl) (Nat.le_of_ble_eq_true rfl) (fun c15 => ?_) (fun c15 => ?_)
    · skip
      exact zn_ne c15 (in_c 0 rfl) rfl
    · skip
      exact (hX _ _ ⟨rfl, s, hI, rfl⟩)
  · skip
    have i16 := z_ge 0 2147483647 c13 (i_rng x1) rfl
    refine g_iconst 1 5 (gd rfl) rfl rfl ?_
    refine g_goto 9 (gd rfl) rfl ?_
    refine g_thr (E := am_IA) (y := yX11_allow) 12 (gd rfl) rfl rfl (Or.inl ⟨rfl, rfl, rfl⟩) (by omega) (Nat.le_of_ble_eq_true rfl) (Nat.le_of_ble_eq_true rfl) (Nat.le_of_ble_eq_true rfl) (fun c17 => ?_) (fun c17 => ?_)
    · skip
      refine g_aload_n 13 (gd rfl) rfl rfl ?_
      refine g_getA (q2 := 60) 16 (gd rfl) rfl rfl rfl rfl rfl ?_
      refine g_aload_n 17 (gd rfl) rfl rfl ?_
      refine g_callv (X := _) (As := []) (r := [.ref (A 60)]) (b := A 0) (q := 0) 20 (gd rfl) rfl rfl rfl rfl rfl (ww_o rfl) (Nat.le_of_ble_eq_true rfl) (mc := 0) (ms := 0) (Nat.zero_le _) (Nat.zero_le _) (P := fun v u => _) ?_ (fun e u h => h) (fun v u h => h)
      intro po18 xx19 hp20 hx21
      refine g_enter2 (k := 259) (N := 300) (by omega) rfl (Nat.le_of_ble_eq_true rfl) ?_
      refine g_aload_n 1 (gd rfl) rfl rfl ?_
      refine g_getI 4 (gd rfl) rfl rfl rfl (fun z22 e23 => ?_)
      have i24 := inv_F hI (-1) 4000 rfl e23
      refine g_iconst (-1) 5 (gd rfl) rfl rfl ?_
      refine g_cmp_ne 8 18 (gd rfl) rfl rfl (fun c25 => ?_) (fun c25 => ?_)
      · skip
        have i26 := r_ne1 0 4000 c25 i24 (in_c (-1) rfl) rfl
        refine g_aload_n 19 (gd rfl) rfl rfl ?_
        refine g_getA (q2 := 32) 22 (gd rfl) rfl rfl rfl rfl rfl ?_
        refine g_areturn (gd rfl) rfl (hp20 _ _ ?_)
        show GG _ _ _ _ _ _ _ _ [.ref (A 32), .ref (A 60)] _ _ _
        refine g_callv (X := _) (As := [.ref (A 32)]) (r := []) (b := A 60) (q := 60) 23 (gd rfl) rfl rfl rfl rfl rfl (ww_o rfl) (Nat.le_of_ble_eq_true rfl) (mc := 0) (ms := 0) (Nat.zero_le _) (Nat.zero_le _) (P := fun v u => _) ?_ (fun e u h => h) (fun v u h => h)
        intro po27 xx28 hp29 hx30
        refine g_enter2 (k := 41) (N := 300) (by omega) rfl (Nat.le_of_ble_eq_true rfl) ?_
        refine g_aload_n 1 (gd rfl) rfl rfl ?_
        refine g_getI 4 (gd rfl) rfl rfl rfl (fun z31 e32 => ?_)
        have i33 := inv_F hI (-1) 4000 rfl e32
        refine g_aload_n 5 (gd rfl) rfl rfl ?_
        refine g_getI 8 (gd rfl) rfl rfl rfl (fun z34 e35 => ?_)
        have i36 := inv_F hI 0 4000 rfl e35
        refine g_cmp_eq 11 42 (gd rfl) rfl rfl (fun c37 => ?_) (fun c37 => ?_)
        · skip
          have i38 := r_eq1 0 4000 c37 i33 i36 rfl
          refine g_aload_n 43 (gd rfl) rfl rfl ?_
          refine g_getI 46 (gd rfl) rfl rfl rfl (fun z39 e40 => ?_)
          refine g_ireturn (gd rfl) rfl rfl (hp29 _ _ ?_)
          show GG _ _ _ _ _ _ _ _ [.int z39] _ _ _
          refine g_istore_n 24 (gd rfl) rfl (Nat.le_of_ble_eq_true rfl) ?_
          refine g_iload_n 25 (gd rfl) rfl rfl ?_
          refine g_iload_n 26 (gd rfl) rfl rfl ?_
          refine g_calls (As := [.int z39]) (r := [.int x1]) 29 (gd rfl) rfl rfl rfl rfl rfl (Nat.le_of_ble_eq_true rfl) (Nat.zero_le _) (Nat.zero_le _) (k_414 (by omega) hI ) (fun v u h => ?_)
          obtain ⟨z41, rfl, rfl, i42⟩ := h
          show GG _ _ _ _ _ _ _ _ [.int z41, .int x1] _ _ _
          refine g_cmp_lt 32 34 (gd rfl) rfl rfl (fun c43 => ?_) (fun c43 => ?_)
          · skip
            have i44 := r_lt1 0 62 c43 i16 i42 rfl
            have i45 := r_lt2 1 63 c43 i16 i42 rfl
            refine g_iconst 0 35 (gd rfl) rfl rfl ?_
            refine g_istore_n 36 (gd rfl) rfl (Nat.le_of_ble_eq_true rfl) ?_
            exact gg_w (by omega) (gg_f (gf_cons rfl (gf_cons rfl (gf_cons rfl (gf_cons rfl gf_nil)))) (ct36 121 s z39 (Int32.ofInt 0) hI (in_w 0 62 i44 rfl) (in_w 0 120 (in_c 0 rfl) rfl) (m_in 121 (in_w 0 120 (in_c 0 rfl) rfl) rfl)))
          · skip
            refine g_iconst (-1) 33 (gd rfl) rfl rfl ?_
            exact g_ireturn (gd rfl) rfl rfl (hP _ _ ⟨s, hI, (Int32.ofInt (-1)), rfl, rfl, in_w (-1) 32 (in_c (-1) rfl) rfl⟩)
        · skip
          refine g_aload_n 12 (gd rfl) rfl rfl ?_
          refine g_aload_n 13 (gd rfl) rfl rfl ?_
          refine g_getI 16 (gd rfl) rfl rfl rfl (fun z46 e47 => ?_)
          have q48 : z34 = z46 := (e35).trans e47.symm
          subst q48
          refine g_putI 19 (gd rfl) rfl rfl rfl rfl ?_
          have hI49 := inv_sF (q := 60) (j := 0) hI rfl (in_w (-1) 4000 i36 rfl)
          refine g_aload_n 20 (gd rfl) rfl rfl ?_
          refine g_callv (X := _) (As := []) (r := []) (b := A 32) (q := 32) 23 (gd rfl) rfl rfl rfl rfl rfl (ww_o rfl) (Nat.le_of_ble_eq_true rfl) (Nat.zero_le _) (Nat.zero_le _) (k_106_32 (by omega) hI49 ) (fun e u h => h) (fun v u h => ?_)
          obtain ⟨s50, hI51, rfl, rfl⟩ := h
          show GG _ _ _ _ _ _ _ _ [] _ _ _
          refine g_aload_n 24 (gd rfl) rfl rfl ?_
          refine g_iconst 0 25 (gd rfl) rfl rfl ?_
          refine g_putI 28 (gd rfl) rfl rfl rfl rfl ?_
          have hI54 := inv_sF (q := 60) (j := 1) hI51 rfl (in_w (-2147483648) 2147483647 (in_c 0 rfl) rfl)
          refine g_aload_n 29 (gd rfl) rfl rfl ?_
          refine g_aload_n 30 (gd rfl) rfl rfl ?_
          refine g_getA (q2 := 39) 33 (gd rfl) rfl rfl rfl rfl rfl ?_
          refine g_iconst 0 34 (gd rfl) rfl rfl ?_
          refine g_aload_n 35 (gd rfl) rfl rfl ?_
          refine g_callv (X := _) (As := []) (r := [.int (Int32.ofInt 0), .ref (A 39), .ref (A 60)]) (b := A 32) (q := 32) 38 (gd rfl) rfl rfl rfl rfl rfl (ww_o rfl) (Nat.le_of_ble_eq_true rfl) (mc := 0) (ms := 0) (Nat.zero_le _) (Nat.zero_le _) (P := fun v u => _) ?_ (fun e u h => h) (fun v u h => h)
          intro po55 xx56 hp57 hx58
          refine g_enter2 (k := 102) (N := 300) (by omega) rfl (Nat.le_of_ble_eq_true rfl) ?_
          refine g_aload_n 1 (gd rfl) rfl rfl ?_
          refine g_getI 4 (gd rfl) rfl rfl rfl (fun z59 e60 => ?_)
          have i61 := inv_F hI54 0 32 rfl e60
          refine g_bipush 32 6 (gd rfl) rfl rfl ?_
          refine g_cmp_lt 9 13 (gd rfl) rfl rfl (fun c62 => ?_) (fun c62 => ?_)
          · skip
            have i63 := r_lt1 0 31 c62 i61 (in_c 32 rfl) rfl
            refine g_iconst 1 14 (gd rfl) rfl rfl ?_
            refine g_aload_n 15 (gd rfl) rfl rfl ?_
            refine g_getI 18 (gd rfl) rfl rfl rfl (fun z64 e65 => ?_)
            have q66 : z59 = z64 := (e60).trans e65.symm
            subst q66
            refine g_ishl 19 (gd rfl) rfl (fun z67 e68 => ?_)
            refine g_iconst 1 20 (gd rfl) rfl rfl ?_
            refine g_isub 21 (gd rfl) rfl (fun z69 e70 => ?_)
            refine g_ireturn (gd rfl) rfl rfl (hp57 _ _ ?_)
            show GG _ _ _ _ _ _ _ _ [.int z69, .int (Int32.ofInt 0), .ref (A 39), .ref (A 60)] _ _ _
            refine g_iconst 0 39 (gd rfl) rfl rfl ?_
            refine g_callv (X := _) (As := [.ref (A 39), .int (Int32.ofInt 0), .int z69, .int (Int32.ofInt 0)]) (r := []) (b := A 60) (q := 60) 42 (gd rfl) rfl rfl rfl rfl rfl (ww_o rfl) (Nat.le_of_ble_eq_true rfl) (Nat.zero_le _) (Nat.zero_le _) (k_42_60_39 (by omega) hI54 (in_w 0 32 (in_c 0 rfl) rfl)) (fun e u h => h) (fun v u h => ?_)
            obtain ⟨s71, hI72, rfl, rfl⟩ := h
            show GG _ _ _ _ _ _ _ _ [] _ _ _
            refine g_aload_n 43 (gd rfl) rfl rfl ?_
            refine g_getI 46 (gd rfl) rfl rfl rfl (fun z75 e76 => ?_)
            refine g_ireturn (gd rfl) rfl rfl (hp29 _ _ ?_)
            show GG _ _ _ _ _ _ _ _ [.int z75] _ _ _
            refine g_istore_n 24 (gd rfl) rfl (Nat.le_of_ble_eq_true rfl) ?_
            refine g_iload_n 25 (gd rfl) rfl rfl ?_
            refine g_iload_n 26 (gd rfl) rfl rfl ?_
            refine g_calls (As := [.int z75]) (r := [.int x1]) 29 (gd rfl) rfl rfl rfl rfl rfl (Nat.le_of_ble_eq_true rfl) (Nat.zero_le _) (Nat.zero_le _) (k_414 (by omega) hI72 ) (fun v u h => ?_)
            obtain ⟨z77, rfl, rfl, i78⟩ := h
            show GG _ _ _ _ _ _ _ _ [.int z77, .int x1] _ _ _
            refine g_cmp_lt 32 34 (gd rfl) rfl rfl (fun c79 => ?_) (fun c79 => ?_)
            · skip
              have i80 := r_lt1 0 62 c79 i16 i78 rfl
              have i81 := r_lt2 1 63 c79 i16 i78 rfl
              refine g_iconst 0 35 (gd rfl) rfl rfl ?_
              refine g_istore_n 36 (gd rfl) rfl (Nat.le_of_ble_eq_true rfl) ?_
              exact gg_w (by omega) (gg_f (gf_cons rfl (gf_cons rfl (gf_cons rfl (gf_cons rfl gf_nil)))) (ct36 121 s71 z75 (Int32.ofInt 0) hI72 (in_w 0 62 i80 rfl) (in_w 0 120 (in_c 0 rfl) rfl) (m_in 121 (in_w 0 120 (in_c 0 rfl) rfl) rfl)))
            · skip
              refine g_iconst (-1) 33 (gd rfl) rfl rfl ?_
              exact g_ireturn (gd rfl) rfl rfl (hP _ _ ⟨s71, hI72, (Int32.ofInt (-1)), rfl, rfl, in_w (-1) 32 (in_c (-1) rfl) rfl⟩)
          · skip
            have i82 := r_le2 32 32 c62 (in_c 32 rfl) i61 rfl
            refine g_iconst (-1) 10 (gd rfl) rfl rfl ?_
            refine g_goto 21 (gd rfl) rfl ?_
            refine g_ireturn (gd rfl) rfl rfl (hp57 _ _ ?_)
            show GG _ _ _ _ _ _ _ _ [.int (Int32.ofInt (-1)), .int (Int32.ofInt 0), .ref (A 39), .ref (A 60)] _ _ _
            refine g_iconst 0 39 (gd rfl) rfl rfl ?_
            refine g_callv (X := _) (As := [.ref (A 39), .int (Int32.ofInt 0), .int (Int32.ofInt (-1)), .int (Int32.ofInt 0)]) (r := []) (b := A 60) (q := 60) 42 (gd rfl) rfl rfl rfl rfl rfl (ww_o rfl) (Nat.le_of_ble_eq_true rfl) (Nat.zero_le _) (Nat.zero_le _) (k_42_60_39 (by omega) hI54 (in_w 0 32 (in_c 0 rfl) rfl)) (fun e u h => h) (fun v u h => ?_)
            obtain ⟨s83, hI84, rfl, rfl⟩ := h
            show GG _ _ _ _ _ _ _ _ [] _ _ _
            refine g_aload_n 43 (gd rfl) rfl rfl ?_
            refine g_getI 46 (gd rfl) rfl rfl rfl (fun z87 e88 => ?_)
            refine g_ireturn (gd rfl) rfl rfl (hp29 _ _ ?_)
            show GG _ _ _ _ _ _ _ _ [.int z87] _ _ _
            refine g_istore_n 24 (gd rfl) rfl (Nat.le_of_ble_eq_true rfl) ?_
            refine g_iload_n 25 (gd rfl) rfl rfl ?_
            refine g_iload_n 26 (gd rfl) rfl rfl ?_
            refine g_calls (As := [.int z87]) (r := [.int x1]) 29 (gd rfl) rfl rfl rfl rfl rfl (Nat.le_of_ble_eq_true rfl) (Nat.zero_le _) (Nat.zero_le _) (k_414 (by omega) hI84 ) (fun v u h => ?_)
            obtain ⟨z89, rfl, rfl, i90⟩ := h
            show GG _ _ _ _ _ _ _ _ [.int z89, .int x1] _ _ _
            refine g_cmp_lt 32 34 (gd rfl) rfl rfl (fun c91 => ?_) (fun c91 => ?_)
            · skip
              have i92 := r_lt1 0 62 c91 i16 i90 rfl
              have i93 := r_lt2 1 63 c91 i16 i90 rfl
              refine g_iconst 0 35 (gd rfl) rfl rfl ?_
              refine g_istore_n 36 (gd rfl) rfl (Nat.le_of_ble_eq_true rfl) ?_
              exact gg_w (by omega) (gg_f (gf_cons rfl (gf_cons rfl (gf_cons rfl (gf_cons rfl gf_nil)))) (ct36 121 s83 z87 (Int32.ofInt 0) hI84 (in_w 0 62 i92 rfl) (in_w 0 120 (in_c 0 rfl) rfl) (m_in 121 (in_w 0 120 (in_c 0 rfl) rfl) rfl)))
            · skip
              refine g_iconst (-1) 33 (gd rfl) rfl rfl ?_
              exact g_ireturn (gd rfl) rfl rfl (hP _ _ ⟨s83, hI84, (Int32.ofInt (-1)), rfl, rfl, in_w (-1) 32 (in_c (-1) rfl) rfl⟩)
      · skip
        have i94 := r_eq1 (-1) (-1) c25 i24 (in_c (-1) rfl) rfl
        refine g_aload_n 9 (gd rfl) rfl rfl ?_
        refine g_getA (q2 := 1) 12 (gd rfl) rfl rfl rfl rfl rfl ?_
        refine g_getA (q2 := 2) 15 (gd rfl) rfl rfl rfl rfl rfl ?_
        refine g_goto 22 (gd rfl) rfl ?_
        refine g_areturn (gd rfl) rfl (hp20 _ _ ?_)
        show GG _ _ _ _ _ _ _ _ [.ref (A 2), .ref (A 60)] _ _ _
        refine g_callv (X := _) (As := [.ref (A 2)]) (r := []) (b := A 60) (q := 60) 23 (gd rfl) rfl rfl rfl rfl rfl (ww_o rfl) (Nat.le_of_ble_eq_true rfl) (mc := 0) (ms := 0) (Nat.zero_le _) (Nat.zero_le _) (P := fun v u => _) ?_ (fun e u h => h) (fun v u h => h)
        intro po95 xx96 hp97 hx98
        refine g_enter2 (k := 41) (N := 300) (by omega) rfl (Nat.le_of_ble_eq_true rfl) ?_
        refine g_aload_n 1 (gd rfl) rfl rfl ?_
        refine g_getI 4 (gd rfl) rfl rfl rfl (fun z99 e100 => ?_)
        have i101 := inv_F hI (-1) 4000 rfl e100
        refine g_aload_n 5 (gd rfl) rfl rfl ?_
        refine g_getI 8 (gd rfl) rfl rfl rfl (fun z102 e103 => ?_)
        have i104 := inv_F hI 0 4000 rfl e103
        refine g_cmp_eq 11 42 (gd rfl) rfl rfl (fun c105 => ?_) (fun c105 => ?_)
        · skip
          have i106 := r_eq1 0 4000 c105 i101 i104 rfl
          refine g_aload_n 43 (gd rfl) rfl rfl ?_
          refine g_getI 46 (gd rfl) rfl rfl rfl (fun z107 e108 => ?_)
          refine g_ireturn (gd rfl) rfl rfl (hp97 _ _ ?_)
          show GG _ _ _ _ _ _ _ _ [.int z107] _ _ _
          refine g_istore_n 24 (gd rfl) rfl (Nat.le_of_ble_eq_true rfl) ?_
          refine g_iload_n 25 (gd rfl) rfl rfl ?_
          refine g_iload_n 26 (gd rfl) rfl rfl ?_
          refine g_calls (As := [.int z107]) (r := [.int x1]) 29 (gd rfl) rfl rfl rfl rfl rfl (Nat.le_of_ble_eq_true rfl) (Nat.zero_le _) (Nat.zero_le _) (k_414 (by omega) hI ) (fun v u h => ?_)
          obtain ⟨z109, rfl, rfl, i110⟩ := h
          show GG _ _ _ _ _ _ _ _ [.int z109, .int x1] _ _ _
          refine g_cmp_lt 32 34 (gd rfl) rfl rfl (fun c111 => ?_) (fun c111 => ?_)
          · skip
            have i112 := r_lt1 0 62 c111 i16 i110 rfl
            have i113 := r_lt2 1 63 c111 i16 i110 rfl
            refine g_iconst 0 35 (gd rfl) rfl rfl ?_
            refine g_istore_n 36 (gd rfl) rfl (Nat.le_of_ble_eq_true rfl) ?_
            exact gg_w (by omega) (gg_f (gf_cons rfl (gf_cons rfl (gf_cons rfl (gf_cons rfl gf_nil)))) (ct36 121 s z107 (Int32.ofInt 0) hI (in_w 0 62 i112 rfl) (in_w 0 120 (in_c 0 rfl) rfl) (m_in 121 (in_w 0 120 (in_c 0 rfl) rfl) rfl)))
          · skip
            refine g_iconst (-1) 33 (gd rfl) rfl rfl ?_
            exact g_ireturn (gd rfl) rfl rfl (hP _ _ ⟨s, hI, (Int32.ofInt (-1)), rfl, rfl, in_w (-1) 32 (in_c (-1) rfl) rfl⟩)
        · skip
          refine g_aload_n 12 (gd rfl) rfl rfl ?_
          refine g_aload_n 13 (gd rfl) rfl rfl ?_
          refine g_getI 16 (gd rfl) rfl rfl rfl (fun z114 e115 => ?_)
          have q116 : z102 = z114 := (e103).trans e115.symm
          subst q116
          refine g_putI 19 (gd rfl) rfl rfl rfl rfl ?_
          have hI117 := inv_sF (q := 60) (j := 0) hI rfl (in_w (-1) 4000 i104 rfl)
          refine g_aload_n 20 (gd rfl) rfl rfl ?_
          refine g_callv (X := _) (As := []) (r := []) (b := A 2) (q := 2) 23 (gd rfl) rfl rfl rfl rfl rfl (ww_o rfl) (Nat.le_of_ble_eq_true rfl) (Nat.zero_le _) (Nat.zero_le _) (k_106_2 (by omega) hI117 ) (fun e u h => h) (fun v u h => ?_)
          obtain ⟨s118, hI119, rfl, rfl⟩ := h
          show GG _ _ _ _ _ _ _ _ [] _ _ _
          refine g_aload_n 24 (gd rfl) rfl rfl ?_
          refine g_iconst 0 25 (gd rfl) rfl rfl ?_
          refine g_putI 28 (gd rfl) rfl rfl rfl rfl ?_
          have hI122 := inv_sF (q := 60) (j := 1) hI119 rfl (in_w (-2147483648) 2147483647 (in_c 0 rfl) rfl)
          refine g_aload_n 29 (gd rfl) rfl rfl ?_
          refine g_aload_n 30 (gd rfl) rfl rfl ?_
          refine g_getA (q2 := 9) 33 (gd rfl) rfl rfl rfl rfl rfl ?_
          refine g_iconst 0 34 (gd rfl) rfl rfl ?_
          refine g_aload_n 35 (gd rfl) rfl rfl ?_
          refine g_callv (X := _) (As := []) (r := [.int (Int32.ofInt 0), .ref (A 9), .ref (A 60)]) (b := A 2) (q := 2) 38 (gd rfl) rfl rfl rfl rfl rfl (ww_o rfl) (Nat.le_of_ble_eq_true rfl) (mc := 0) (ms := 0) (Nat.zero_le _) (Nat.zero_le _) (P := fun v u => _) ?_ (fun e u h => h) (fun v u h => h)
          intro po123 xx124 hp125 hx126
          refine g_enter2 (k := 102) (N := 300) (by omega) rfl (Nat.le_of_ble_eq_true rfl) ?_
          refine g_aload_n 1 (gd rfl) rfl rfl ?_
          refine g_getI 4 (gd rfl) rfl rfl rfl (fun z127 e128 => ?_)
          have i129 := inv_F hI122 0 32 rfl e128
          refine g_bipush 32 6 (gd rfl) rfl rfl ?_
          refine g_cmp_lt 9 13 (gd rfl) rfl rfl (fun c130 => ?_) (fun c130 => ?_)
          · skip
            have i131 := r_lt1 0 31 c130 i129 (in_c 32 rfl) rfl
            refine g_iconst 1 14 (gd rfl) rfl rfl ?_
            refine g_aload_n 15 (gd rfl) rfl rfl ?_
            refine g_getI 18 (gd rfl) rfl rfl rfl (fun z132 e133 => ?_)
            have q134 : z127 = z132 := (e128).trans e133.symm
            subst q134
            refine g_ishl 19 (gd rfl) rfl (fun z135 e136 => ?_)
            refine g_iconst 1 20 (gd rfl) rfl rfl ?_
            refine g_isub 21 (gd rfl) rfl (fun z137 e138 => ?_)
            refine g_ireturn (gd rfl) rfl rfl (hp125 _ _ ?_)
            show GG _ _ _ _ _ _ _ _ [.int z137, .int (Int32.ofInt 0), .ref (A 9), .ref (A 60)] _ _ _
            refine g_iconst 0 39 (gd rfl) rfl rfl ?_
            refine g_callv (X := _) (As := [.ref (A 9), .int (Int32.ofInt 0), .int z137, .int (Int32.ofInt 0)]) (r := []) (b := A 60) (q := 60) 42 (gd rfl) rfl rfl rfl rfl rfl (ww_o rfl) (Nat.le_of_ble_eq_true rfl) (Nat.zero_le _) (Nat.zero_le _) (k_42_60_9 (by omega) hI122 (in_w 0 32 (in_c 0 rfl) rfl)) (fun e u h => h) (fun v u h => ?_)
            obtain ⟨s139, hI140, rfl, rfl⟩ := h
            show GG _ _ _ _ _ _ _ _ [] _ _ _
            refine g_aload_n 43 (gd rfl) rfl rfl ?_
            refine g_getI 46 (gd rfl) rfl rfl rfl (fun z143 e144 => ?_)
            refine g_ireturn (gd rfl) rfl rfl (hp97 _ _ ?_)
            show GG _ _ _ _ _ _ _ _ [.int z143] _ _ _
            refine g_istore_n 24 (gd rfl) rfl (Nat.le_of_ble_eq_true rfl) ?_
            refine g_iload_n 25 (gd rfl) rfl rfl ?_
            refine g_iload_n 26 (gd rfl) rfl rfl ?_
            refine g_calls (As := [.int z143]) (r := [.int x1]) 29 (gd rfl) rfl rfl rfl rfl rfl (Nat.le_of_ble_eq_true rfl) (Nat.zero_le _) (Nat.zero_le _) (k_414 (by omega) hI140 ) (fun v u h => ?_)
            obtain ⟨z145, rfl, rfl, i146⟩ := h
            show GG _ _ _ _ _ _ _ _ [.int z145, .int x1] _ _ _
            refine g_cmp_lt 32 34 (gd rfl) rfl rfl (fun c147 => ?_) (fun c147 => ?_)
            · skip
              have i148 := r_lt1 0 62 c147 i16 i146 rfl
              have i149 := r_lt2 1 63 c147 i16 i146 rfl
              refine g_iconst 0 35 (gd rfl) rfl rfl ?_
              refine g_istore_n 36 (gd rfl) rfl (Nat.le_of_ble_eq_true rfl) ?_
              exact gg_w (by omega) (gg_f (gf_cons rfl (gf_cons rfl (gf_cons rfl (gf_cons rfl gf_nil)))) (ct36 121 s139 z143 (Int32.ofInt 0) hI140 (in_w 0 62 i148 rfl) (in_w 0 120 (in_c 0 rfl) rfl) (m_in 121 (in_w 0 120 (in_c 0 rfl) rfl) rfl)))
            · skip
              refine g_iconst (-1) 33 (gd rfl) rfl rfl ?_
              exact g_ireturn (gd rfl) rfl rfl (hP _ _ ⟨s139, hI140, (Int32.ofInt (-1)), rfl, rfl, in_w (-1) 32 (in_c (-1) rfl) rfl⟩)
          · skip
            have i150 := r_le2 32 32 c130 (in_c 32 rfl) i129 rfl
            refine g_iconst (-1) 10 (gd rfl) rfl rfl ?_
            refine g_goto 21 (gd rfl) rfl ?_
            refine g_ireturn (gd rfl) rfl rfl (hp125 _ _ ?_)
            show GG _ _ _ _ _ _ _ _ [.int (Int32.ofInt (-1)), .int (Int32.ofInt 0), .ref (A 9), .ref (A 60)] _ _ _
            refine g_iconst 0 39 (gd rfl) rfl rfl ?_
            refine g_callv (X := _) (As := [.ref (A 9), .int (Int32.ofInt 0), .int (Int32.ofInt (-1)), .int (Int32.ofInt 0)]) (r := []) (b := A 60) (q := 60) 42 (gd rfl) rfl rfl rfl rfl rfl (ww_o rfl) (Nat.le_of_ble_eq_true rfl) (Nat.zero_le _) (Nat.zero_le _) (k_42_60_9 (by omega) hI122 (in_w 0 32 (in_c 0 rfl) rfl)) (fun e u h => h) (fun v u h => ?_)
            obtain ⟨s151, hI152, rfl, rfl⟩ := h
            show GG _ _ _ _ _ _ _ _ [] _ _ _
            refine g_aload_n 43 (gd rfl) rfl rfl ?_
            refine g_getI 46 (gd rfl) rfl rfl rfl (fun z155 e156 => ?_)
            refine g_ireturn (gd rfl) rfl rfl (hp97 _ _ ?_)
            show GG _ _ _ _ _ _ _ _ [.int z155] _ _ _
            refine g_istore_n 24 (gd rfl) rfl (Nat.le_of_ble_eq_true rfl) ?_
            refine g_iload_n 25 (gd rfl) rfl rfl ?_
            refine g_iload_n 26 (gd rfl) rfl rfl ?_
            refine g_calls (As := [.int z155]) (r := [.int x1]) 29 (gd rfl) rfl rfl rfl rfl rfl (Nat.le_of_ble_eq_true rfl) (Nat.zero_le _) (Nat.zero_le _) (k_414 (by omega) hI152 ) (fun v u h => ?_)
            obtain ⟨z157, rfl, rfl, i158⟩ := h
            show GG _ _ _ _ _ _ _ _ [.int z157, .int x1] _ _ _
            refine g_cmp_lt 32 34 (gd rfl) rfl rfl (fun c159 => ?_) (fun c159 => ?_)
            · skip
              have i160 := r_lt1 0 62 c159 i16 i158 rfl
              have i161 := r_lt2 1 63 c159 i16 i158 rfl
              refine g_iconst 0 35 (gd rfl) rfl rfl ?_
              refine g_istore_n 36 (gd rfl) rfl (Nat.le_of_ble_eq_true rfl) ?_
              exact gg_w (by omega) (gg_f (gf_cons rfl (gf_cons rfl (gf_cons rfl (gf_cons rfl gf_nil)))) (ct36 121 s151 z155 (Int32.ofInt 0) hI152 (in_w 0 62 i160 rfl) (in_w 0 120 (in_c 0 rfl) rfl) (m_in 121 (in_w 0 120 (in_c 0 rfl) rfl) rfl)))
            · skip
              refine g_iconst (-1) 33 (gd rfl) rfl rfl ?_
              exact g_ireturn (gd rfl) rfl rfl (hP _ _ ⟨s151, hI152, (Int32.ofInt (-1)), rfl, rfl, in_w (-1) 32 (in_c (-1) rfl) rfl⟩)
    · skip
      exact zn_eq c17 (in_c 1 rfl) rfl

/-- GraphHouse.figures -/
theorem k_252_0 {Z : AmZ} {A : Nat → Nat} {s : GS} {ex : va_W} {d : Nat} {x1 : Int32} (hd : 7 ≤ d) (hI : Inv s)  : GC Z d 252 [.ref (A 0), .int x1] (WW Z A s ++ ex) 3 18 (fun v u => ∃ t : GS, Inv t ∧ ∃ z : Int64, v = some (.long z) ∧ u = WW Z A t ++ ex) (gE1 Z A ex) := by
  intro post xp hP hX
  refine g_enter2 (k := 252) (N := 900) (by omega) rfl (Nat.le_of_ble_eq_true rfl) ?_
  refine g_iload_n 1 (gd rfl) rfl rfl ?_
  refine g_if_lt 4 13 (gd rfl) rfl rfl (fun c1 => ?_) (fun c1 => ?_)
  · skip
    have i2 := z_lt (-2147483648) (-1) c1 (i_rng x1) rfl
    refine g_iconst 0 14 (gd rfl) rfl rfl ?_
    refine g_thr (E := am_IA) (y := yX11_allow) 17 (gd rfl) rfl rfl (Or.inl ⟨rfl, rfl, rfl⟩) (by omega) (Nat.le_of_ble_eq_true rfl) (Nat.le_of_ble_eq_true rfl) (Nat.le_of_ble_eq_true rfl) (fun c3 => ?_) (fun c3 => ?_)
    · skip
      exact zn_ne c3 (in_c 0 rfl) rfl
    · skip
      exact (hX _ _ ⟨rfl, s, hI, rfl⟩)
  · skip
    have i4 := z_ge 0 2147483647 c1 (i_rng x1) rfl
    refine g_iload_n 5 (gd rfl) rfl rfl ?_
    refine g_iconst 1 6 (gd rfl) rfl rfl ?_
    refine g_cmp_gt 9 13 (gd rfl) rfl rfl (fun c5 => ?_) (fun c5 => ?_)
    · skip
      have i6 := r_lt2 2 2147483647 c5 (in_c 1 rfl) i4 rfl
      refine g_iconst 0 14 (gd rfl) rfl rfl ?_
      refine g_thr (E := am_IA) (y := yX11_allow) 17 (gd rfl) rfl rfl (Or.inl ⟨rfl, rfl, rfl⟩) (by omega) (Nat.le_of_ble_eq_true rfl) (Nat.le_of_ble_eq_true rfl) (Nat.le_of_ble_eq_true rfl) (fun c7 => ?_) (fun c7 => ?_)
      · skip
        exact zn_ne c7 (in_c 0 rfl) rfl
      · skip
        exact (hX _ _ ⟨rfl, s, hI, rfl⟩)
    · skip
      have i8 := r_le1 0 1 c5 i4 (in_c 1 rfl) rfl
      refine g_iconst 1 10 (gd rfl) rfl rfl ?_
      refine g_goto 14 (gd rfl) rfl ?_
      refine g_thr (E := am_IA) (y := yX11_allow) 17 (gd rfl) rfl rfl (Or.inl ⟨rfl, rfl, rfl⟩) (by omega) (Nat.le_of_ble_eq_true rfl) (Nat.le_of_ble_eq_true rfl) (Nat.le_of_ble_eq_true rfl) (fun c9 => ?_) (fun c9 => ?_)
      · skip
        refine g_iload_n 18 (gd rfl) rfl rfl ?_
        refine g_if_ne 21 35 (gd rfl) rfl rfl (fun c10 => ?_) (fun c10 => ?_)
        · skip
          have i11 := z_ne 1 1 c10 i8 rfl
          refine g_aload_n 36 (gd rfl) rfl rfl ?_
          refine g_getA (q2 := 56) 39 (gd rfl) rfl rfl rfl rfl rfl ?_
          refine g_aload_n 40 (gd rfl) rfl rfl ?_
          refine g_callv (X := _) (As := []) (r := [.ref (A 56)]) (b := A 0) (q := 0) 43 (gd rfl) rfl rfl rfl rfl rfl (ww_o rfl) (Nat.le_of_ble_eq_true rfl) (mc := 0) (ms := 0) (Nat.zero_le _) (Nat.zero_le _) (P := fun v u => _) ?_ (fun e u h => h) (fun v u h => h)
          intro po12 xx13 hp14 hx15
          refine g_enter2 (k := 259) (N := 300) (by omega) rfl (Nat.le_of_ble_eq_true rfl) ?_
          refine g_aload_n 1 (gd rfl) rfl rfl ?_
          refine g_getI 4 (gd rfl) rfl rfl rfl (fun z16 e17 => ?_)
          have i18 := inv_F hI (-1) 4000 rfl e17
          refine g_iconst (-1) 5 (gd rfl) rfl rfl ?_
          refine g_cmp_ne 8 18 (gd rfl) rfl rfl (fun c19 => ?_) (fun c19 => ?_)
          · skip
            have i20 := r_ne1 0 4000 c19 i18 (in_c (-1) rfl) rfl
            refine g_aload_n 19 (gd rfl) rfl rfl ?_
            refine g_getA (q2 := 32) 22 (gd rfl) rfl rfl rfl rfl rfl ?_
            refine g_areturn (gd rfl) rfl (hp14 _ _ ?_)
            show GG _ _ _ _ _ _ _ _ [.ref (A 32), .ref (A 56)] _ _ _
            refine g_callv (X := _) (As := [.ref (A 32)]) (r := []) (b := A 56) (q := 56) 46 (gd rfl) rfl rfl rfl rfl rfl (ww_o rfl) (Nat.le_of_ble_eq_true rfl) (Nat.zero_le _) (Nat.zero_le _) (k_152_56_32 (by omega) hI ) (fun e u h => h) (fun v u h => ?_)
            obtain ⟨s21, hI22, z23, rfl, rfl⟩ := h
            show GG _ _ _ _ _ _ _ _ [.long z23] _ _ _
            exact g_lreturn (gd rfl) rfl (hP _ _ ⟨s21, hI22, z23, rfl, rfl⟩)
          · skip
            have i25 := r_eq1 (-1) (-1) c19 i18 (in_c (-1) rfl) rfl
            refine g_aload_n 9 (gd rfl) rfl rfl ?_
            refine g_getA (q2 := 1) 12 (gd rfl) rfl rfl rfl rfl rfl ?_
            refine g_getA (q2 := 2) 15 (gd rfl) rfl rfl rfl rfl rfl ?_
            refine g_goto 22 (gd rfl) rfl ?_
            refine g_areturn (gd rfl) rfl (hp14 _ _ ?_)
            show GG _ _ _ _ _ _ _ _ [.ref (A 2), .ref (A 56)] _ _ _
            refine g_callv (X := _) (As := [.ref (A 2)]) (r := []) (b := A 56) (q := 56) 46 (gd rfl) rfl rfl rfl rfl rfl (ww_o rfl) (Nat.le_of_ble_eq_true rfl) (Nat.zero_le _) (Nat.zero_le _) (k_152_56_2 (by omega) hI ) (fun e u h => h) (fun v u h => ?_)
            obtain ⟨s26, hI27, z28, rfl, rfl⟩ := h
            show GG _ _ _ _ _ _ _ _ [.long z28] _ _ _
            exact g_lreturn (gd rfl) rfl (hP _ _ ⟨s26, hI27, z28, rfl, rfl⟩)
        · skip
          have i30 := z_eq 0 0 c10 i8 rfl
          refine g_aload_n 22 (gd rfl) rfl rfl ?_
          refine g_getA (q2 := 56) 25 (gd rfl) rfl rfl rfl rfl rfl ?_
          refine g_aload_n 26 (gd rfl) rfl rfl ?_
          refine g_callv (X := _) (As := []) (r := [.ref (A 56)]) (b := A 0) (q := 0) 29 (gd rfl) rfl rfl rfl rfl rfl (ww_o rfl) (Nat.le_of_ble_eq_true rfl) (mc := 0) (ms := 0) (Nat.zero_le _) (Nat.zero_le _) (P := fun v u => _) ?_ (fun e u h => h) (fun v u h => h)
          intro po31 xx32 hp33 hx34
          refine g_enter2 (k := 259) (N := 300) (by omega) rfl (Nat.le_of_ble_eq_true rfl) ?_
          refine g_aload_n 1 (gd rfl) rfl rfl ?_
          refine g_getI 4 (gd rfl) rfl rfl rfl (fun z35 e36 => ?_)
          have i37 := inv_F hI (-1) 4000 rfl e36
          refine g_iconst (-1) 5 (gd rfl) rfl rfl ?_
          refine g_cmp_ne 8 18 (gd rfl) rfl rfl (fun c38 => ?_) (fun c38 => ?_)
          · skip
            have i39 := r_ne1 0 4000 c38 i37 (in_c (-1) rfl) rfl
            refine g_aload_n 19 (gd rfl) rfl rfl ?_
            refine g_getA (q2 := 32) 22 (gd rfl) rfl rfl rfl rfl rfl ?_
            refine g_areturn (gd rfl) rfl (hp33 _ _ ?_)
            show GG _ _ _ _ _ _ _ _ [.ref (A 32), .ref (A 56)] _ _ _
            refine g_callv (X := _) (As := [.ref (A 32)]) (r := []) (b := A 56) (q := 56) 32 (gd rfl) rfl rfl rfl rfl rfl (ww_o rfl) (Nat.le_of_ble_eq_true rfl) (Nat.zero_le _) (Nat.zero_le _) (k_151_56_32 (by omega) hI ) (fun e u h => h) (fun v u h => ?_)
            obtain ⟨s40, hI41, z42, rfl, rfl⟩ := h
            show GG _ _ _ _ _ _ _ _ [.long z42] _ _ _
            refine g_goto 46 (gd rfl) rfl ?_
            exact g_lreturn (gd rfl) rfl (hP _ _ ⟨s40, hI41, z42, rfl, rfl⟩)
          · skip
            have i44 := r_eq1 (-1) (-1) c38 i37 (in_c (-1) rfl) rfl
            refine g_aload_n 9 (gd rfl) rfl rfl ?_
            refine g_getA (q2 := 1) 12 (gd rfl) rfl rfl rfl rfl rfl ?_
            refine g_getA (q2 := 2) 15 (gd rfl) rfl rfl rfl rfl rfl ?_
            refine g_goto 22 (gd rfl) rfl ?_
            refine g_areturn (gd rfl) rfl (hp33 _ _ ?_)
            show GG _ _ _ _ _ _ _ _ [.ref (A 2), .ref (A 56)] _ _ _
            refine g_callv (X := _) (As := [.ref (A 2)]) (r := []) (b := A 56) (q := 56) 32 (gd rfl) rfl rfl rfl rfl rfl (ww_o rfl) (Nat.le_of_ble_eq_true rfl) (Nat.zero_le _) (Nat.zero_le _) (k_151_56_2 (by omega) hI ) (fun e u h => h) (fun v u h => ?_)
            obtain ⟨s45, hI46, z47, rfl, rfl⟩ := h
            show GG _ _ _ _ _ _ _ _ [.long z47] _ _ _
            refine g_goto 46 (gd rfl) rfl ?_
            exact g_lreturn (gd rfl) rfl (hP _ _ ⟨s45, hI46, z47, rfl, rfl⟩)
      · skip
        exact zn_eq c9 (in_c 1 rfl) rfl

/-- GraphHouse.state -/
theorem k_257_0 {Z : AmZ} {A : Nat → Nat} {s : GS} {ex : va_W} {d : Nat} {x1 : Int32} (hd : 7 ≤ d) (hI : Inv s)  : GC Z d 257 [.ref (A 0), .int x1] (WW Z A s ++ ex) 3 18 (fun v u => ∃ t : GS, Inv t ∧ ∃ z : Int64, v = some (.long z) ∧ u = WW Z A t ++ ex) (gE1 Z A ex) := by
  intro post xp hP hX
  refine g_enter2 (k := 257) (N := 900) (by omega) rfl (Nat.le_of_ble_eq_true rfl) ?_
  refine g_iload_n 1 (gd rfl) rfl rfl ?_
  refine g_if_lt 4 19 (gd rfl) rfl rfl (fun c1 => ?_) (fun c1 => ?_)
  · skip
    have i2 := z_lt (-2147483648) (-1) c1 (i_rng x1) rfl
    refine g_iconst 0 20 (gd rfl) rfl rfl ?_
    refine g_thr (E := am_IA) (y := yX11_allow) 23 (gd rfl) rfl rfl (Or.inl ⟨rfl, rfl, rfl⟩) (by omega) (Nat.le_of_ble_eq_true rfl) (Nat.le_of_ble_eq_true rfl) (Nat.le_of_ble_eq_true rfl) (fun c3 => ?_) (fun c3 => ?_)
    · skip
      exact zn_ne c3 (in_c 0 rfl) rfl
    · skip
      exact (hX _ _ ⟨rfl, s, hI, rfl⟩)
  · skip
    have i4 := z_ge 0 2147483647 c1 (i_rng x1) rfl
    refine g_iload_n 5 (gd rfl) rfl rfl ?_
    refine g_aload_n 6 (gd rfl) rfl rfl ?_
    refine g_getA (q2 := 102) 9 (gd rfl) rfl rfl rfl rfl rfl ?_
    refine g_getI 12 (gd rfl) rfl rfl rfl (fun z5 e6 => ?_)
    have i7 := inv_F hI 0 32 rfl e6
    refine g_cmp_ge 15 19 (gd rfl) rfl rfl (fun c8 => ?_) (fun c8 => ?_)
    · skip
      refine g_iconst 0 20 (gd rfl) rfl rfl ?_
      refine g_thr (E := am_IA) (y := yX11_allow) 23 (gd rfl) rfl rfl (Or.inl ⟨rfl, rfl, rfl⟩) (by omega) (Nat.le_of_ble_eq_true rfl) (Nat.le_of_ble_eq_true rfl) (Nat.le_of_ble_eq_true rfl) (fun c9 => ?_) (fun c9 => ?_)
      · skip
        exact zn_ne c9 (in_c 0 rfl) rfl
      · skip
        exact (hX _ _ ⟨rfl, s, hI, rfl⟩)
    · skip
      have i10 := r_lt1 0 31 c8 i4 i7 rfl
      have i11 := r_lt2 1 32 c8 i4 i7 rfl
      refine g_iconst 1 16 (gd rfl) rfl rfl ?_
      refine g_goto 20 (gd rfl) rfl ?_
      refine g_thr (E := am_IA) (y := yX11_allow) 23 (gd rfl) rfl rfl (Or.inl ⟨rfl, rfl, rfl⟩) (by omega) (Nat.le_of_ble_eq_true rfl) (Nat.le_of_ble_eq_true rfl) (Nat.le_of_ble_eq_true rfl) (fun c12 => ?_) (fun c12 => ?_)
      · skip
        refine g_aload_n 24 (gd rfl) rfl rfl ?_
        refine g_getA (q2 := 102) 27 (gd rfl) rfl rfl rfl rfl rfl ?_
        refine g_getA (q2 := 107) 30 (gd rfl) rfl rfl rfl rfl rfl ?_
        refine g_iload_n 31 (gd rfl) rfl rfl ?_
        refine g_laload 32 (gd rfl) rfl (n := 32) rfl (in_ix i10 rfl) (fun z13 e14 => ?_)
        exact g_lreturn (gd rfl) rfl (hP _ _ ⟨s, hI, z13, rfl, rfl⟩)
      · skip
        exact zn_eq c12 (in_c 1 rfl) rfl

/-- GraphHouse.letters -/
theorem k_258_0 {Z : AmZ} {A : Nat → Nat} {s : GS} {ex : va_W} {d : Nat} {x1 : Int32} (hd : 7 ≤ d) (hI : Inv s)  : GC Z d 258 [.ref (A 0), .int x1] (WW Z A s ++ ex) 3 18 (fun v u => ∃ t : GS, Inv t ∧ ∃ z : Int32, v = some (.int z) ∧ u = WW Z A t ++ ex ∧ In z (-2147483648) 2147483647) (gE1 Z A ex) := by
  intro post xp hP hX
  refine g_enter2 (k := 258) (N := 900) (by omega) rfl (Nat.le_of_ble_eq_true rfl) ?_
  refine g_iload_n 1 (gd rfl) rfl rfl ?_
  refine g_if_lt 4 13 (gd rfl) rfl rfl (fun c1 => ?_) (fun c1 => ?_)
  · skip
    have i2 := z_lt (-2147483648) (-1) c1 (i_rng x1) rfl
    refine g_iconst 0 14 (gd rfl) rfl rfl ?_
    refine g_thr (E := am_IA) (y := yX11_allow) 17 (gd rfl) rfl rfl (Or.inl ⟨rfl, rfl, rfl⟩) (by omega) (Nat.le_of_ble_eq_true rfl) (Nat.le_of_ble_eq_true rfl) (Nat.le_of_ble_eq_true rfl) (fun c3 => ?_) (fun c3 => ?_)
    · skip
      exact zn_ne c3 (in_c 0 rfl) rfl
    · skip
      exact (hX _ _ ⟨rfl, s, hI, rfl⟩)
  · skip
    have i4 := z_ge 0 2147483647 c1 (i_rng x1) rfl
    refine g_iload_n 5 (gd rfl) rfl rfl ?_
    refine g_iconst 2 6 (gd rfl) rfl rfl ?_
    refine g_cmp_gt 9 13 (gd rfl) rfl rfl (fun c5 => ?_) (fun c5 => ?_)
    · skip
      have i6 := r_lt2 3 2147483647 c5 (in_c 2 rfl) i4 rfl
      refine g_iconst 0 14 (gd rfl) rfl rfl ?_
      refine g_thr (E := am_IA) (y := yX11_allow) 17 (gd rfl) rfl rfl (Or.inl ⟨rfl, rfl, rfl⟩) (by omega) (Nat.le_of_ble_eq_true rfl) (Nat.le_of_ble_eq_true rfl) (Nat.le_of_ble_eq_true rfl) (fun c7 => ?_) (fun c7 => ?_)
      · skip
        exact zn_ne c7 (in_c 0 rfl) rfl
      · skip
        exact (hX _ _ ⟨rfl, s, hI, rfl⟩)
    · skip
      have i8 := r_le1 0 2 c5 i4 (in_c 2 rfl) rfl
      refine g_iconst 1 10 (gd rfl) rfl rfl ?_
      refine g_goto 14 (gd rfl) rfl ?_
      refine g_thr (E := am_IA) (y := yX11_allow) 17 (gd rfl) rfl rfl (Or.inl ⟨rfl, rfl, rfl⟩) (by omega) (Nat.le_of_ble_eq_true rfl) (Nat.le_of_ble_eq_true rfl) (Nat.le_of_ble_eq_true rfl) (fun c9 => ?_) (fun c9 => ?_)
      · skip
        refine g_iload_n 18 (gd rfl) rfl rfl ?_
        refine g_if_ne 21 29 (gd rfl) rfl rfl (fun c10 => ?_) (fun c10 => ?_)
        · skip
          have i11 := z_ne 1 2 c10 i8 rfl
          refine g_iload_n 30 (gd rfl) rfl rfl ?_
          refine g_iconst 1 31 (gd rfl) rfl rfl ?_
          refine g_cmp_ne 34 44 (gd rfl) rfl rfl (fun c12 => ?_) (fun c12 => ?_)
          · skip
            have i13 := r_ne1 2 2 c12 i11 (in_c 1 rfl) rfl
            refine g_aload_n 45 (gd rfl) rfl rfl ?_
            refine g_getA (q2 := 102) 48 (gd rfl) rfl rfl rfl rfl rfl ?_
            refine g_getI 51 (gd rfl) rfl rfl rfl (fun z14 e15 => ?_)
            exact g_ireturn (gd rfl) rfl rfl (hP _ _ ⟨s, hI, z14, rfl, rfl, in_w (-2147483648) 2147483647 (i_rng z14) rfl⟩)
          · skip
            have i16 := r_eq1 1 1 c12 i11 (in_c 1 rfl) rfl
            refine g_aload_n 35 (gd rfl) rfl rfl ?_
            refine g_getA (q2 := 102) 38 (gd rfl) rfl rfl rfl rfl rfl ?_
            refine g_getI 41 (gd rfl) rfl rfl rfl (fun z17 e18 => ?_)
            refine g_goto 51 (gd rfl) rfl ?_
            exact g_ireturn (gd rfl) rfl rfl (hP _ _ ⟨s, hI, z17, rfl, rfl, in_w (-2147483648) 2147483647 (i_rng z17) rfl⟩)
        · skip
          have i19 := z_eq 0 0 c10 i8 rfl
          refine g_aload_n 22 (gd rfl) rfl rfl ?_
          refine g_getA (q2 := 102) 25 (gd rfl) rfl rfl rfl rfl rfl ?_
          refine g_getI 28 (gd rfl) rfl rfl rfl (fun z20 e21 => ?_)
          exact g_ireturn (gd rfl) rfl rfl (hP _ _ ⟨s, hI, z20, rfl, rfl, in_w (-2147483648) 2147483647 (i_rng z20) rfl⟩)
      · skip
        exact zn_eq c9 (in_c 1 rfl) rfl

/-- GraphHouse.flood -/
theorem k_266_9 {Z : AmZ} {A : Nat → Nat} {s : GS} {ex : va_W} {d : Nat} {X : AmX} {x1 : Int32} {x2 : Int32} (hd : 4 ≤ d) (hI : Inv s)  : GC Z d 266 [.ref (A 9), .int x1, .int x2] (WW Z A s ++ ex) 0 0 (fun v u => ∃ z : Int32, v = some (.int z) ∧ u = WW Z A s ++ ex ∧ In z (-2147483648) 2147483647) X := by
  intro post xp hP hX
  have ct8 : ∀ (k8 : Nat) (y8_3 : Int32) (y8_4 : Int32) (y8_5 : Int32), In y8_5 0 32 → 32 - (y8_5).toInt < (k8 : Int) → GG Z (d - 1) 266 post (gx xp) (1 + k8 * 900) 8 (fun j => xlook j [(0, .ref (A 9)), (1, .int x1), (2, .int x2), (3, .int y8_3), (4, .int y8_4), (5, .int y8_5)]) [] (WW Z A s ++ ex) 0 0 := by
    intro k8
    induction k8 with
    | zero => intro y8_3 y8_4 y8_5 j8_5 mm8; exact m_no mm8 j8_5 rfl
    | succ k8 ih8 =>
      intro y8_3 y8_4 y8_5 j8_5 mm8
      refine gg_w (M := 1 + k8 * 900 + 900) (by omega) ?_
      refine g_iload 10 (gd rfl) rfl rfl ?_
      refine g_bipush 32 12 (gd rfl) rfl rfl ?_
      refine g_cmp_ge 15 62 (gd rfl) rfl rfl (fun c1 => ?_) (fun c1 => ?_)
      · skip
        have i2 := r_le2 32 32 c1 (in_c 32 rfl) j8_5 rfl
        refine g_iload_n 63 (gd rfl) rfl rfl ?_
        exact g_ireturn (gd rfl) rfl rfl (hP _ _ ⟨y8_3, rfl, rfl, in_w (-2147483648) 2147483647 (i_rng y8_3) rfl⟩)
      · skip
        have i3 := r_lt1 0 31 c1 j8_5 (in_c 32 rfl) rfl
        refine g_iload 17 (gd rfl) rfl rfl ?_
        refine g_if_eq 20 62 (gd rfl) rfl rfl (fun c4 => ?_) (fun c4 => ?_)
        · skip
          have i5 := z_eq 0 0 c4 (i_rng y8_4) rfl
          refine g_iload_n 63 (gd rfl) rfl rfl ?_
          exact g_ireturn (gd rfl) rfl rfl (hP _ _ ⟨y8_3, rfl, rfl, in_w (-2147483648) 2147483647 (i_rng y8_3) rfl⟩)
        · skip
          refine g_aload_n 21 (gd rfl) rfl rfl ?_
          refine g_iload 23 (gd rfl) rfl rfl ?_
          refine g_calls (As := [.int y8_4]) (r := [.ref (A 9)]) 26 (gd rfl) rfl rfl rfl rfl rfl (Nat.le_of_ble_eq_true rfl) (Nat.zero_le _) (Nat.zero_le _) (k_264n (by omega) c4) (fun v u h => ?_)
          obtain ⟨z6, rfl, rfl, i7⟩ := h
          show GG _ _ _ _ _ _ _ _ [.int z6, .ref (A 9)] _ _ _
          refine g_iaload 27 (gd rfl) rfl (n := 32) rfl (in_ix i7 rfl) (fun z8 e9 => ?_)
          refine g_iload_n 28 (gd rfl) rfl rfl ?_
          refine g_iand 29 (gd rfl) rfl (fun z10 e11 => ?_)
          refine g_iload_n 30 (gd rfl) rfl rfl ?_
          refine g_iconst (-1) 31 (gd rfl) rfl rfl ?_
          refine g_ixor 32 (gd rfl) rfl (fun z12 e13 => ?_)
          refine g_iand 33 (gd rfl) rfl (fun z14 e15 => ?_)
          refine g_istore 35 (gd rfl) rfl (Nat.le_of_ble_eq_true rfl) ?_
          refine g_iload 37 (gd rfl) rfl rfl ?_
          refine g_iload 39 (gd rfl) rfl rfl ?_
          refine g_iconst 1 40 (gd rfl) rfl rfl ?_
          refine g_isub 41 (gd rfl) rfl (fun z16 e17 => ?_)
          refine g_iand 42 (gd rfl) rfl (fun z18 e19 => ?_)
          refine g_istore 44 (gd rfl) rfl (Nat.le_of_ble_eq_true rfl) ?_
          refine g_iload 46 (gd rfl) rfl rfl ?_
          refine g_iload 48 (gd rfl) rfl rfl ?_
          refine g_ior 49 (gd rfl) rfl (fun z20 e21 => ?_)
          refine g_istore 51 (gd rfl) rfl (Nat.le_of_ble_eq_true rfl) ?_
          refine g_iload_n 52 (gd rfl) rfl rfl ?_
          refine g_iload 54 (gd rfl) rfl rfl ?_
          refine g_ior 55 (gd rfl) rfl (fun z22 e23 => ?_)
          refine g_istore_n 56 (gd rfl) rfl (Nat.le_of_ble_eq_true rfl) ?_
          refine g_iinc 59 (gd rfl) rfl rfl (Nat.le_of_ble_eq_true rfl) (fun z24 e25 => ?_)
          have i26 := in_add 1 32 e25 i3 (in_c 1 rfl) rfl rfl
          refine g_goto 8 (gd rfl) rfl ?_
          exact gg_w (by omega) (gg_f (gf_cons rfl (gf_cons rfl (gf_cons rfl (gf_cons rfl (gf_cons rfl (gf_cons rfl gf_nil)))))) (ih8  z22 z20 z24  (in_w 0 32 i26 rfl) (m_up mm8 (t_add e25 i3 (in_c 1 rfl) rfl) (in_w 1 1 (in_c 1 rfl) rfl))))
  refine g_enter2 (k := 266) (N := 30601) (by omega) rfl (Nat.le_of_ble_eq_true rfl) ?_
  refine g_iload_n 1 (gd rfl) rfl rfl ?_
  refine g_istore_n 2 (gd rfl) rfl (Nat.le_of_ble_eq_true rfl) ?_
  refine g_iload_n 3 (gd rfl) rfl rfl ?_
  refine g_istore 5 (gd rfl) rfl (Nat.le_of_ble_eq_true rfl) ?_
  refine g_iconst 0 6 (gd rfl) rfl rfl ?_
  refine g_istore 8 (gd rfl) rfl (Nat.le_of_ble_eq_true rfl) ?_
  exact gg_w (by omega) (gg_f (gf_cons rfl (gf_cons rfl (gf_cons rfl (gf_cons rfl (gf_cons rfl (gf_cons rfl gf_nil)))))) (ct8 33  x1 x1 (Int32.ofInt 0)  (in_w 0 32 (in_c 0 rfl) rfl) (m_in 33 (in_w 0 32 (in_c 0 rfl) rfl) rfl)))

/-- GraphHouse.flood -/
theorem k_266_10 {Z : AmZ} {A : Nat → Nat} {s : GS} {ex : va_W} {d : Nat} {X : AmX} {x1 : Int32} {x2 : Int32} (hd : 4 ≤ d) (hI : Inv s) (h2 : In x2 (-1) (-1)) : GC Z d 266 [.ref (A 10), .int x1, .int x2] (WW Z A s ++ ex) 0 0 (fun v u => ∃ z : Int32, v = some (.int z) ∧ u = WW Z A s ++ ex ∧ In z (-2147483648) 2147483647) X := by
  intro post xp hP hX
  have ct8 : ∀ (k8 : Nat) (y8_3 : Int32) (y8_4 : Int32) (y8_5 : Int32), In y8_5 0 32 → 32 - (y8_5).toInt < (k8 : Int) → GG Z (d - 1) 266 post (gx xp) (1 + k8 * 900) 8 (fun j => xlook j [(0, .ref (A 10)), (1, .int x1), (2, .int x2), (3, .int y8_3), (4, .int y8_4), (5, .int y8_5)]) [] (WW Z A s ++ ex) 0 0 := by
    intro k8
    induction k8 with
    | zero => intro y8_3 y8_4 y8_5 j8_5 mm8; exact m_no mm8 j8_5 rfl
    | succ k8 ih8 =>
      intro y8_3 y8_4 y8_5 j8_5 mm8
      refine gg_w (M := 1 + k8 * 900 + 900) (by omega) ?_
      refine g_iload 10 (gd rfl) rfl rfl ?_
      refine g_bipush 32 12 (gd rfl) rfl rfl ?_
      refine g_cmp_ge 15 62 (gd rfl) rfl rfl (fun c1 => ?_) (fun c1 => ?_)
      · skip
        have i2 := r_le2 32 32 c1 (in_c 32 rfl) j8_5 rfl
        refine g_iload_n 63 (gd rfl) rfl rfl ?_
        exact g_ireturn (gd rfl) rfl rfl (hP _ _ ⟨y8_3, rfl, rfl, in_w (-2147483648) 2147483647 (i_rng y8_3) rfl⟩)
      · skip
        have i3 := r_lt1 0 31 c1 j8_5 (in_c 32 rfl) rfl
        refine g_iload 17 (gd rfl) rfl rfl ?_
        refine g_if_eq 20 62 (gd rfl) rfl rfl (fun c4 => ?_) (fun c4 => ?_)
        · skip
          have i5 := z_eq 0 0 c4 (i_rng y8_4) rfl
          refine g_iload_n 63 (gd rfl) rfl rfl ?_
          exact g_ireturn (gd rfl) rfl rfl (hP _ _ ⟨y8_3, rfl, rfl, in_w (-2147483648) 2147483647 (i_rng y8_3) rfl⟩)
        · skip
          refine g_aload_n 21 (gd rfl) rfl rfl ?_
          refine g_iload 23 (gd rfl) rfl rfl ?_
          refine g_calls (As := [.int y8_4]) (r := [.ref (A 10)]) 26 (gd rfl) rfl rfl rfl rfl rfl (Nat.le_of_ble_eq_true rfl) (Nat.zero_le _) (Nat.zero_le _) (k_264n (by omega) c4) (fun v u h => ?_)
          obtain ⟨z6, rfl, rfl, i7⟩ := h
          show GG _ _ _ _ _ _ _ _ [.int z6, .ref (A 10)] _ _ _
          refine g_iaload 27 (gd rfl) rfl (n := 32) rfl (in_ix i7 rfl) (fun z8 e9 => ?_)
          refine g_iload_n 28 (gd rfl) rfl rfl ?_
          refine g_iand 29 (gd rfl) rfl (fun z10 e11 => ?_)
          refine g_iload_n 30 (gd rfl) rfl rfl ?_
          refine g_iconst (-1) 31 (gd rfl) rfl rfl ?_
          refine g_ixor 32 (gd rfl) rfl (fun z12 e13 => ?_)
          refine g_iand 33 (gd rfl) rfl (fun z14 e15 => ?_)
          refine g_istore 35 (gd rfl) rfl (Nat.le_of_ble_eq_true rfl) ?_
          refine g_iload 37 (gd rfl) rfl rfl ?_
          refine g_iload 39 (gd rfl) rfl rfl ?_
          refine g_iconst 1 40 (gd rfl) rfl rfl ?_
          refine g_isub 41 (gd rfl) rfl (fun z16 e17 => ?_)
          refine g_iand 42 (gd rfl) rfl (fun z18 e19 => ?_)
          refine g_istore 44 (gd rfl) rfl (Nat.le_of_ble_eq_true rfl) ?_
          refine g_iload 46 (gd rfl) rfl rfl ?_
          refine g_iload 48 (gd rfl) rfl rfl ?_
          refine g_ior 49 (gd rfl) rfl (fun z20 e21 => ?_)
          refine g_istore 51 (gd rfl) rfl (Nat.le_of_ble_eq_true rfl) ?_
          refine g_iload_n 52 (gd rfl) rfl rfl ?_
          refine g_iload 54 (gd rfl) rfl rfl ?_
          refine g_ior 55 (gd rfl) rfl (fun z22 e23 => ?_)
          refine g_istore_n 56 (gd rfl) rfl (Nat.le_of_ble_eq_true rfl) ?_
          refine g_iinc 59 (gd rfl) rfl rfl (Nat.le_of_ble_eq_true rfl) (fun z24 e25 => ?_)
          have i26 := in_add 1 32 e25 i3 (in_c 1 rfl) rfl rfl
          refine g_goto 8 (gd rfl) rfl ?_
          exact gg_w (by omega) (gg_f (gf_cons rfl (gf_cons rfl (gf_cons rfl (gf_cons rfl (gf_cons rfl (gf_cons rfl gf_nil)))))) (ih8  z22 z20 z24  (in_w 0 32 i26 rfl) (m_up mm8 (t_add e25 i3 (in_c 1 rfl) rfl) (in_w 1 1 (in_c 1 rfl) rfl))))
  refine g_enter2 (k := 266) (N := 30601) (by omega) rfl (Nat.le_of_ble_eq_true rfl) ?_
  refine g_iload_n 1 (gd rfl) rfl rfl ?_
  refine g_istore_n 2 (gd rfl) rfl (Nat.le_of_ble_eq_true rfl) ?_
  refine g_iload_n 3 (gd rfl) rfl rfl ?_
  refine g_istore 5 (gd rfl) rfl (Nat.le_of_ble_eq_true rfl) ?_
  refine g_iconst 0 6 (gd rfl) rfl rfl ?_
  refine g_istore 8 (gd rfl) rfl (Nat.le_of_ble_eq_true rfl) ?_
  exact gg_w (by omega) (gg_f (gf_cons rfl (gf_cons rfl (gf_cons rfl (gf_cons rfl (gf_cons rfl (gf_cons rfl gf_nil)))))) (ct8 33  x1 x1 (Int32.ofInt 0)  (in_w 0 32 (in_c 0 rfl) rfl) (m_in 33 (in_w 0 32 (in_c 0 rfl) rfl) rfl)))

/-- GraphHouse.flood -/
theorem k_266_11 {Z : AmZ} {A : Nat → Nat} {s : GS} {ex : va_W} {d : Nat} {X : AmX} {x1 : Int32} {x2 : Int32} (hd : 4 ≤ d) (hI : Inv s) (h2 : In x2 (-1) (-1)) : GC Z d 266 [.ref (A 11), .int x1, .int x2] (WW Z A s ++ ex) 0 0 (fun v u => ∃ z : Int32, v = some (.int z) ∧ u = WW Z A s ++ ex ∧ In z (-2147483648) 2147483647) X := by
  intro post xp hP hX
  have ct8 : ∀ (k8 : Nat) (y8_3 : Int32) (y8_4 : Int32) (y8_5 : Int32), In y8_5 0 32 → 32 - (y8_5).toInt < (k8 : Int) → GG Z (d - 1) 266 post (gx xp) (1 + k8 * 900) 8 (fun j => xlook j [(0, .ref (A 11)), (1, .int x1), (2, .int x2), (3, .int y8_3), (4, .int y8_4), (5, .int y8_5)]) [] (WW Z A s ++ ex) 0 0 := by
    intro k8
    induction k8 with
    | zero => intro y8_3 y8_4 y8_5 j8_5 mm8; exact m_no mm8 j8_5 rfl
    | succ k8 ih8 =>
      intro y8_3 y8_4 y8_5 j8_5 mm8
      refine gg_w (M := 1 + k8 * 900 + 900) (by omega) ?_
      refine g_iload 10 (gd rfl) rfl rfl ?_
      refine g_bipush 32 12 (gd rfl) rfl rfl ?_
      refine g_cmp_ge 15 62 (gd rfl) rfl rfl (fun c1 => ?_) (fun c1 => ?_)
      · skip
        have i2 := r_le2 32 32 c1 (in_c 32 rfl) j8_5 rfl
        refine g_iload_n 63 (gd rfl) rfl rfl ?_
        exact g_ireturn (gd rfl) rfl rfl (hP _ _ ⟨y8_3, rfl, rfl, in_w (-2147483648) 2147483647 (i_rng y8_3) rfl⟩)
      · skip
        have i3 := r_lt1 0 31 c1 j8_5 (in_c 32 rfl) rfl
        refine g_iload 17 (gd rfl) rfl rfl ?_
        refine g_if_eq 20 62 (gd rfl) rfl rfl (fun c4 => ?_) (fun c4 => ?_)
        · skip
          have i5 := z_eq 0 0 c4 (i_rng y8_4) rfl
          refine g_iload_n 63 (gd rfl) rfl rfl ?_
          exact g_ireturn (gd rfl) rfl rfl (hP _ _ ⟨y8_3, rfl, rfl, in_w (-2147483648) 2147483647 (i_rng y8_3) rfl⟩)
        · skip
          refine g_aload_n 21 (gd rfl) rfl rfl ?_
          refine g_iload 23 (gd rfl) rfl rfl ?_
          refine g_calls (As := [.int y8_4]) (r := [.ref (A 11)]) 26 (gd rfl) rfl rfl rfl rfl rfl (Nat.le_of_ble_eq_true rfl) (Nat.zero_le _) (Nat.zero_le _) (k_264n (by omega) c4) (fun v u h => ?_)
          obtain ⟨z6, rfl, rfl, i7⟩ := h
          show GG _ _ _ _ _ _ _ _ [.int z6, .ref (A 11)] _ _ _
          refine g_iaload 27 (gd rfl) rfl (n := 32) rfl (in_ix i7 rfl) (fun z8 e9 => ?_)
          refine g_iload_n 28 (gd rfl) rfl rfl ?_
          refine g_iand 29 (gd rfl) rfl (fun z10 e11 => ?_)
          refine g_iload_n 30 (gd rfl) rfl rfl ?_
          refine g_iconst (-1) 31 (gd rfl) rfl rfl ?_
          refine g_ixor 32 (gd rfl) rfl (fun z12 e13 => ?_)
          refine g_iand 33 (gd rfl) rfl (fun z14 e15 => ?_)
          refine g_istore 35 (gd rfl) rfl (Nat.le_of_ble_eq_true rfl) ?_
          refine g_iload 37 (gd rfl) rfl rfl ?_
          refine g_iload 39 (gd rfl) rfl rfl ?_
          refine g_iconst 1 40 (gd rfl) rfl rfl ?_
          refine g_isub 41 (gd rfl) rfl (fun z16 e17 => ?_)
          refine g_iand 42 (gd rfl) rfl (fun z18 e19 => ?_)
          refine g_istore 44 (gd rfl) rfl (Nat.le_of_ble_eq_true rfl) ?_
          refine g_iload 46 (gd rfl) rfl rfl ?_
          refine g_iload 48 (gd rfl) rfl rfl ?_
          refine g_ior 49 (gd rfl) rfl (fun z20 e21 => ?_)
          refine g_istore 51 (gd rfl) rfl (Nat.le_of_ble_eq_true rfl) ?_
          refine g_iload_n 52 (gd rfl) rfl rfl ?_
          refine g_iload 54 (gd rfl) rfl rfl ?_
          refine g_ior 55 (gd rfl) rfl (fun z22 e23 => ?_)
          refine g_istore_n 56 (gd rfl) rfl (Nat.le_of_ble_eq_true rfl) ?_
          refine g_iinc 59 (gd rfl) rfl rfl (Nat.le_of_ble_eq_true rfl) (fun z24 e25 => ?_)
          have i26 := in_add 1 32 e25 i3 (in_c 1 rfl) rfl rfl
          refine g_goto 8 (gd rfl) rfl ?_
          exact gg_w (by omega) (gg_f (gf_cons rfl (gf_cons rfl (gf_cons rfl (gf_cons rfl (gf_cons rfl (gf_cons rfl gf_nil)))))) (ih8  z22 z20 z24  (in_w 0 32 i26 rfl) (m_up mm8 (t_add e25 i3 (in_c 1 rfl) rfl) (in_w 1 1 (in_c 1 rfl) rfl))))
  refine g_enter2 (k := 266) (N := 30601) (by omega) rfl (Nat.le_of_ble_eq_true rfl) ?_
  refine g_iload_n 1 (gd rfl) rfl rfl ?_
  refine g_istore_n 2 (gd rfl) rfl (Nat.le_of_ble_eq_true rfl) ?_
  refine g_iload_n 3 (gd rfl) rfl rfl ?_
  refine g_istore 5 (gd rfl) rfl (Nat.le_of_ble_eq_true rfl) ?_
  refine g_iconst 0 6 (gd rfl) rfl rfl ?_
  refine g_istore 8 (gd rfl) rfl (Nat.le_of_ble_eq_true rfl) ?_
  exact gg_w (by omega) (gg_f (gf_cons rfl (gf_cons rfl (gf_cons rfl (gf_cons rfl (gf_cons rfl (gf_cons rfl gf_nil)))))) (ct8 33  x1 x1 (Int32.ofInt 0)  (in_w 0 32 (in_c 0 rfl) rfl) (m_in 33 (in_w 0 32 (in_c 0 rfl) rfl) rfl)))

/-- GraphHouse.flood -/
theorem k_266_39 {Z : AmZ} {A : Nat → Nat} {s : GS} {ex : va_W} {d : Nat} {X : AmX} {x1 : Int32} {x2 : Int32} (hd : 4 ≤ d) (hI : Inv s)  : GC Z d 266 [.ref (A 39), .int x1, .int x2] (WW Z A s ++ ex) 0 0 (fun v u => ∃ z : Int32, v = some (.int z) ∧ u = WW Z A s ++ ex ∧ In z (-2147483648) 2147483647) X := by
  intro post xp hP hX
  have ct8 : ∀ (k8 : Nat) (y8_3 : Int32) (y8_4 : Int32) (y8_5 : Int32), In y8_5 0 32 → 32 - (y8_5).toInt < (k8 : Int) → GG Z (d - 1) 266 post (gx xp) (1 + k8 * 900) 8 (fun j => xlook j [(0, .ref (A 39)), (1, .int x1), (2, .int x2), (3, .int y8_3), (4, .int y8_4), (5, .int y8_5)]) [] (WW Z A s ++ ex) 0 0 := by
    intro k8
    induction k8 with
    | zero => intro y8_3 y8_4 y8_5 j8_5 mm8; exact m_no mm8 j8_5 rfl
    | succ k8 ih8 =>
      intro y8_3 y8_4 y8_5 j8_5 mm8
      refine gg_w (M := 1 + k8 * 900 + 900) (by omega) ?_
      refine g_iload 10 (gd rfl) rfl rfl ?_
      refine g_bipush 32 12 (gd rfl) rfl rfl ?_
      refine g_cmp_ge 15 62 (gd rfl) rfl rfl (fun c1 => ?_) (fun c1 => ?_)
      · skip
        have i2 := r_le2 32 32 c1 (in_c 32 rfl) j8_5 rfl
        refine g_iload_n 63 (gd rfl) rfl rfl ?_
        exact g_ireturn (gd rfl) rfl rfl (hP _ _ ⟨y8_3, rfl, rfl, in_w (-2147483648) 2147483647 (i_rng y8_3) rfl⟩)
      · skip
        have i3 := r_lt1 0 31 c1 j8_5 (in_c 32 rfl) rfl
        refine g_iload 17 (gd rfl) rfl rfl ?_
        refine g_if_eq 20 62 (gd rfl) rfl rfl (fun c4 => ?_) (fun c4 => ?_)
        · skip
          have i5 := z_eq 0 0 c4 (i_rng y8_4) rfl
          refine g_iload_n 63 (gd rfl) rfl rfl ?_
          exact g_ireturn (gd rfl) rfl rfl (hP _ _ ⟨y8_3, rfl, rfl, in_w (-2147483648) 2147483647 (i_rng y8_3) rfl⟩)
        · skip
          refine g_aload_n 21 (gd rfl) rfl rfl ?_
          refine g_iload 23 (gd rfl) rfl rfl ?_
          refine g_calls (As := [.int y8_4]) (r := [.ref (A 39)]) 26 (gd rfl) rfl rfl rfl rfl rfl (Nat.le_of_ble_eq_true rfl) (Nat.zero_le _) (Nat.zero_le _) (k_264n (by omega) c4) (fun v u h => ?_)
          obtain ⟨z6, rfl, rfl, i7⟩ := h
          show GG _ _ _ _ _ _ _ _ [.int z6, .ref (A 39)] _ _ _
          refine g_iaload 27 (gd rfl) rfl (n := 32) rfl (in_ix i7 rfl) (fun z8 e9 => ?_)
          refine g_iload_n 28 (gd rfl) rfl rfl ?_
          refine g_iand 29 (gd rfl) rfl (fun z10 e11 => ?_)
          refine g_iload_n 30 (gd rfl) rfl rfl ?_
          refine g_iconst (-1) 31 (gd rfl) rfl rfl ?_
          refine g_ixor 32 (gd rfl) rfl (fun z12 e13 => ?_)
          refine g_iand 33 (gd rfl) rfl (fun z14 e15 => ?_)
          refine g_istore 35 (gd rfl) rfl (Nat.le_of_ble_eq_true rfl) ?_
          refine g_iload 37 (gd rfl) rfl rfl ?_
          refine g_iload 39 (gd rfl) rfl rfl ?_
          refine g_iconst 1 40 (gd rfl) rfl rfl ?_
          refine g_isub 41 (gd rfl) rfl (fun z16 e17 => ?_)
          refine g_iand 42 (gd rfl) rfl (fun z18 e19 => ?_)
          refine g_istore 44 (gd rfl) rfl (Nat.le_of_ble_eq_true rfl) ?_
          refine g_iload 46 (gd rfl) rfl rfl ?_
          refine g_iload 48 (gd rfl) rfl rfl ?_
          refine g_ior 49 (gd rfl) rfl (fun z20 e21 => ?_)
          refine g_istore 51 (gd rfl) rfl (Nat.le_of_ble_eq_true rfl) ?_
          refine g_iload_n 52 (gd rfl) rfl rfl ?_
          refine g_iload 54 (gd rfl) rfl rfl ?_
          refine g_ior 55 (gd rfl) rfl (fun z22 e23 => ?_)
          refine g_istore_n 56 (gd rfl) rfl (Nat.le_of_ble_eq_true rfl) ?_
          refine g_iinc 59 (gd rfl) rfl rfl (Nat.le_of_ble_eq_true rfl) (fun z24 e25 => ?_)
          have i26 := in_add 1 32 e25 i3 (in_c 1 rfl) rfl rfl
          refine g_goto 8 (gd rfl) rfl ?_
          exact gg_w (by omega) (gg_f (gf_cons rfl (gf_cons rfl (gf_cons rfl (gf_cons rfl (gf_cons rfl (gf_cons rfl gf_nil)))))) (ih8  z22 z20 z24  (in_w 0 32 i26 rfl) (m_up mm8 (t_add e25 i3 (in_c 1 rfl) rfl) (in_w 1 1 (in_c 1 rfl) rfl))))
  refine g_enter2 (k := 266) (N := 30601) (by omega) rfl (Nat.le_of_ble_eq_true rfl) ?_
  refine g_iload_n 1 (gd rfl) rfl rfl ?_
  refine g_istore_n 2 (gd rfl) rfl (Nat.le_of_ble_eq_true rfl) ?_
  refine g_iload_n 3 (gd rfl) rfl rfl ?_
  refine g_istore 5 (gd rfl) rfl (Nat.le_of_ble_eq_true rfl) ?_
  refine g_iconst 0 6 (gd rfl) rfl rfl ?_
  refine g_istore 8 (gd rfl) rfl (Nat.le_of_ble_eq_true rfl) ?_
  exact gg_w (by omega) (gg_f (gf_cons rfl (gf_cons rfl (gf_cons rfl (gf_cons rfl (gf_cons rfl (gf_cons rfl gf_nil)))))) (ct8 33  x1 x1 (Int32.ofInt 0)  (in_w 0 32 (in_c 0 rfl) rfl) (m_in 33 (in_w 0 32 (in_c 0 rfl) rfl) rfl)))

/-- GraphHouse.flood -/
theorem k_266_40 {Z : AmZ} {A : Nat → Nat} {s : GS} {ex : va_W} {d : Nat} {X : AmX} {x1 : Int32} {x2 : Int32} (hd : 4 ≤ d) (hI : Inv s) (h2 : In x2 (-1) (-1)) : GC Z d 266 [.ref (A 40), .int x1, .int x2] (WW Z A s ++ ex) 0 0 (fun v u => ∃ z : Int32, v = some (.int z) ∧ u = WW Z A s ++ ex ∧ In z (-2147483648) 2147483647) X := by
  intro post xp hP hX
  have ct8 : ∀ (k8 : Nat) (y8_3 : Int32) (y8_4 : Int32) (y8_5 : Int32), In y8_5 0 32 → 32 - (y8_5).toInt < (k8 : Int) → GG Z (d - 1) 266 post (gx xp) (1 + k8 * 900) 8 (fun j => xlook j [(0, .ref (A 40)), (1, .int x1), (2, .int x2), (3, .int y8_3), (4, .int y8_4), (5, .int y8_5)]) [] (WW Z A s ++ ex) 0 0 := by
    intro k8
    induction k8 with
    | zero => intro y8_3 y8_4 y8_5 j8_5 mm8; exact m_no mm8 j8_5 rfl
    | succ k8 ih8 =>
      intro y8_3 y8_4 y8_5 j8_5 mm8
      refine gg_w (M := 1 + k8 * 900 + 900) (by omega) ?_
      refine g_iload 10 (gd rfl) rfl rfl ?_
      refine g_bipush 32 12 (gd rfl) rfl rfl ?_
      refine g_cmp_ge 15 62 (gd rfl) rfl rfl (fun c1 => ?_) (fun c1 => ?_)
      · skip
        have i2 := r_le2 32 32 c1 (in_c 32 rfl) j8_5 rfl
        refine g_iload_n 63 (gd rfl) rfl rfl ?_
        exact g_ireturn (gd rfl) rfl rfl (hP _ _ ⟨y8_3, rfl, rfl, in_w (-2147483648) 2147483647 (i_rng y8_3) rfl⟩)
      · skip
        have i3 := r_lt1 0 31 c1 j8_5 (in_c 32 rfl) rfl
        refine g_iload 17 (gd rfl) rfl rfl ?_
        refine g_if_eq 20 62 (gd rfl) rfl rfl (fun c4 => ?_) (fun c4 => ?_)
        · skip
          have i5 := z_eq 0 0 c4 (i_rng y8_4) rfl
          refine g_iload_n 63 (gd rfl) rfl rfl ?_
          exact g_ireturn (gd rfl) rfl rfl (hP _ _ ⟨y8_3, rfl, rfl, in_w (-2147483648) 2147483647 (i_rng y8_3) rfl⟩)
        · skip
          refine g_aload_n 21 (gd rfl) rfl rfl ?_
          refine g_iload 23 (gd rfl) rfl rfl ?_
          refine g_calls (As := [.int y8_4]) (r := [.ref (A 40)]) 26 (gd rfl) rfl rfl rfl rfl rfl (Nat.le_of_ble_eq_true rfl) (Nat.zero_le _) (Nat.zero_le _) (k_264n (by omega) c4) (fun v u h => ?_)
          obtain ⟨z6, rfl, rfl, i7⟩ := h
          show GG _ _ _ _ _ _ _ _ [.int z6, .ref (A 40)] _ _ _
          refine g_iaload 27 (gd rfl) rfl (n := 32) rfl (in_ix i7 rfl) (fun z8 e9 => ?_)
          refine g_iload_n 28 (gd rfl) rfl rfl ?_
          refine g_iand 29 (gd rfl) rfl (fun z10 e11 => ?_)
          refine g_iload_n 30 (gd rfl) rfl rfl ?_
          refine g_iconst (-1) 31 (gd rfl) rfl rfl ?_
          refine g_ixor 32 (gd rfl) rfl (fun z12 e13 => ?_)
          refine g_iand 33 (gd rfl) rfl (fun z14 e15 => ?_)
          refine g_istore 35 (gd rfl) rfl (Nat.le_of_ble_eq_true rfl) ?_
          refine g_iload 37 (gd rfl) rfl rfl ?_
          refine g_iload 39 (gd rfl) rfl rfl ?_
          refine g_iconst 1 40 (gd rfl) rfl rfl ?_
          refine g_isub 41 (gd rfl) rfl (fun z16 e17 => ?_)
          refine g_iand 42 (gd rfl) rfl (fun z18 e19 => ?_)
          refine g_istore 44 (gd rfl) rfl (Nat.le_of_ble_eq_true rfl) ?_
          refine g_iload 46 (gd rfl) rfl rfl ?_
          refine g_iload 48 (gd rfl) rfl rfl ?_
          refine g_ior 49 (gd rfl) rfl (fun z20 e21 => ?_)
          refine g_istore 51 (gd rfl) rfl (Nat.le_of_ble_eq_true rfl) ?_
          refine g_iload_n 52 (gd rfl) rfl rfl ?_
          refine g_iload 54 (gd rfl) rfl rfl ?_
          refine g_ior 55 (gd rfl) rfl (fun z22 e23 => ?_)
          refine g_istore_n 56 (gd rfl) rfl (Nat.le_of_ble_eq_true rfl) ?_
          refine g_iinc 59 (gd rfl) rfl rfl (Nat.le_of_ble_eq_true rfl) (fun z24 e25 => ?_)
          have i26 := in_add 1 32 e25 i3 (in_c 1 rfl) rfl rfl
          refine g_goto 8 (gd rfl) rfl ?_
          exact gg_w (by omega) (gg_f (gf_cons rfl (gf_cons rfl (gf_cons rfl (gf_cons rfl (gf_cons rfl (gf_cons rfl gf_nil)))))) (ih8  z22 z20 z24  (in_w 0 32 i26 rfl) (m_up mm8 (t_add e25 i3 (in_c 1 rfl) rfl) (in_w 1 1 (in_c 1 rfl) rfl))))
  refine g_enter2 (k := 266) (N := 30601) (by omega) rfl (Nat.le_of_ble_eq_true rfl) ?_
  refine g_iload_n 1 (gd rfl) rfl rfl ?_
  refine g_istore_n 2 (gd rfl) rfl (Nat.le_of_ble_eq_true rfl) ?_
  refine g_iload_n 3 (gd rfl) rfl rfl ?_
  refine g_istore 5 (gd rfl) rfl (Nat.le_of_ble_eq_true rfl) ?_
  refine g_iconst 0 6 (gd rfl) rfl rfl ?_
  refine g_istore 8 (gd rfl) rfl (Nat.le_of_ble_eq_true rfl) ?_
  exact gg_w (by omega) (gg_f (gf_cons rfl (gf_cons rfl (gf_cons rfl (gf_cons rfl (gf_cons rfl (gf_cons rfl gf_nil)))))) (ct8 33  x1 x1 (Int32.ofInt 0)  (in_w 0 32 (in_c 0 rfl) rfl) (m_in 33 (in_w 0 32 (in_c 0 rfl) rfl) rfl)))

/-- GraphHouse.flood -/
theorem k_266_41 {Z : AmZ} {A : Nat → Nat} {s : GS} {ex : va_W} {d : Nat} {X : AmX} {x1 : Int32} {x2 : Int32} (hd : 4 ≤ d) (hI : Inv s) (h2 : In x2 (-1) (-1)) : GC Z d 266 [.ref (A 41), .int x1, .int x2] (WW Z A s ++ ex) 0 0 (fun v u => ∃ z : Int32, v = some (.int z) ∧ u = WW Z A s ++ ex ∧ In z (-2147483648) 2147483647) X := by
  intro post xp hP hX
  have ct8 : ∀ (k8 : Nat) (y8_3 : Int32) (y8_4 : Int32) (y8_5 : Int32), In y8_5 0 32 → 32 - (y8_5).toInt < (k8 : Int) → GG Z (d - 1) 266 post (gx xp) (1 + k8 * 900) 8 (fun j => xlook j [(0, .ref (A 41)), (1, .int x1), (2, .int x2), (3, .int y8_3), (4, .int y8_4), (5, .int y8_5)]) [] (WW Z A s ++ ex) 0 0 := by
    intro k8
    induction k8 with
    | zero => intro y8_3 y8_4 y8_5 j8_5 mm8; exact m_no mm8 j8_5 rfl
    | succ k8 ih8 =>
      intro y8_3 y8_4 y8_5 j8_5 mm8
      refine gg_w (M := 1 + k8 * 900 + 900) (by omega) ?_
      refine g_iload 10 (gd rfl) rfl rfl ?_
      refine g_bipush 32 12 (gd rfl) rfl rfl ?_
      refine g_cmp_ge 15 62 (gd rfl) rfl rfl (fun c1 => ?_) (fun c1 => ?_)
      · skip
        have i2 := r_le2 32 32 c1 (in_c 32 rfl) j8_5 rfl
        refine g_iload_n 63 (gd rfl) rfl rfl ?_
        exact g_ireturn (gd rfl) rfl rfl (hP _ _ ⟨y8_3, rfl, rfl, in_w (-2147483648) 2147483647 (i_rng y8_3) rfl⟩)
      · skip
        have i3 := r_lt1 0 31 c1 j8_5 (in_c 32 rfl) rfl
        refine g_iload 17 (gd rfl) rfl rfl ?_
        refine g_if_eq 20 62 (gd rfl) rfl rfl (fun c4 => ?_) (fun c4 => ?_)
        · skip
          have i5 := z_eq 0 0 c4 (i_rng y8_4) rfl
          refine g_iload_n 63 (gd rfl) rfl rfl ?_
          exact g_ireturn (gd rfl) rfl rfl (hP _ _ ⟨y8_3, rfl, rfl, in_w (-2147483648) 2147483647 (i_rng y8_3) rfl⟩)
        · skip
          refine g_aload_n 21 (gd rfl) rfl rfl ?_
          refine g_iload 23 (gd rfl) rfl rfl ?_
          refine g_calls (As := [.int y8_4]) (r := [.ref (A 41)]) 26 (gd rfl) rfl rfl rfl rfl rfl (Nat.le_of_ble_eq_true rfl) (Nat.zero_le _) (Nat.zero_le _) (k_264n (by omega) c4) (fun v u h => ?_)
          obtain ⟨z6, rfl, rfl, i7⟩ := h
          show GG _ _ _ _ _ _ _ _ [.int z6, .ref (A 41)] _ _ _
          refine g_iaload 27 (gd rfl) rfl (n := 32) rfl (in_ix i7 rfl) (fun z8 e9 => ?_)
          refine g_iload_n 28 (gd rfl) rfl rfl ?_
          refine g_iand 29 (gd rfl) rfl (fun z10 e11 => ?_)
          refine g_iload_n 30 (gd rfl) rfl rfl ?_
          refine g_iconst (-1) 31 (gd rfl) rfl rfl ?_
          refine g_ixor 32 (gd rfl) rfl (fun z12 e13 => ?_)
          refine g_iand 33 (gd rfl) rfl (fun z14 e15 => ?_)
          refine g_istore 35 (gd rfl) rfl (Nat.le_of_ble_eq_true rfl) ?_
          refine g_iload 37 (gd rfl) rfl rfl ?_
          refine g_iload 39 (gd rfl) rfl rfl ?_
          refine g_iconst 1 40 (gd rfl) rfl rfl ?_
          refine g_isub 41 (gd rfl) rfl (fun z16 e17 => ?_)
          refine g_iand 42 (gd rfl) rfl (fun z18 e19 => ?_)
          refine g_istore 44 (gd rfl) rfl (Nat.le_of_ble_eq_true rfl) ?_
          refine g_iload 46 (gd rfl) rfl rfl ?_
          refine g_iload 48 (gd rfl) rfl rfl ?_
          refine g_ior 49 (gd rfl) rfl (fun z20 e21 => ?_)
          refine g_istore 51 (gd rfl) rfl (Nat.le_of_ble_eq_true rfl) ?_
          refine g_iload_n 52 (gd rfl) rfl rfl ?_
          refine g_iload 54 (gd rfl) rfl rfl ?_
          refine g_ior 55 (gd rfl) rfl (fun z22 e23 => ?_)
          refine g_istore_n 56 (gd rfl) rfl (Nat.le_of_ble_eq_true rfl) ?_
          refine g_iinc 59 (gd rfl) rfl rfl (Nat.le_of_ble_eq_true rfl) (fun z24 e25 => ?_)
          have i26 := in_add 1 32 e25 i3 (in_c 1 rfl) rfl rfl
          refine g_goto 8 (gd rfl) rfl ?_
          exact gg_w (by omega) (gg_f (gf_cons rfl (gf_cons rfl (gf_cons rfl (gf_cons rfl (gf_cons rfl (gf_cons rfl gf_nil)))))) (ih8  z22 z20 z24  (in_w 0 32 i26 rfl) (m_up mm8 (t_add e25 i3 (in_c 1 rfl) rfl) (in_w 1 1 (in_c 1 rfl) rfl))))
  refine g_enter2 (k := 266) (N := 30601) (by omega) rfl (Nat.le_of_ble_eq_true rfl) ?_
  refine g_iload_n 1 (gd rfl) rfl rfl ?_
  refine g_istore_n 2 (gd rfl) rfl (Nat.le_of_ble_eq_true rfl) ?_
  refine g_iload_n 3 (gd rfl) rfl rfl ?_
  refine g_istore 5 (gd rfl) rfl (Nat.le_of_ble_eq_true rfl) ?_
  refine g_iconst 0 6 (gd rfl) rfl rfl ?_
  refine g_istore 8 (gd rfl) rfl (Nat.le_of_ble_eq_true rfl) ?_
  exact gg_w (by omega) (gg_f (gf_cons rfl (gf_cons rfl (gf_cons rfl (gf_cons rfl (gf_cons rfl (gf_cons rfl gf_nil)))))) (ct8 33  x1 x1 (Int32.ofInt 0)  (in_w 0 32 (in_c 0 rfl) rfl) (m_in 33 (in_w 0 32 (in_c 0 rfl) rfl) rfl)))

/-- GraphHouse.flood -/
theorem k_266_84 {Z : AmZ} {A : Nat → Nat} {s : GS} {ex : va_W} {d : Nat} {X : AmX} {x1 : Int32} {x2 : Int32} (hd : 4 ≤ d) (hI : Inv s) (h2 : In x2 (-1) (-1)) : GC Z d 266 [.ref (A 84), .int x1, .int x2] (WW Z A s ++ ex) 0 0 (fun v u => ∃ z : Int32, v = some (.int z) ∧ u = WW Z A s ++ ex ∧ In z (-2147483648) 2147483647) X := by
  intro post xp hP hX
  have ct8 : ∀ (k8 : Nat) (y8_3 : Int32) (y8_4 : Int32) (y8_5 : Int32), In y8_5 0 32 → 32 - (y8_5).toInt < (k8 : Int) → GG Z (d - 1) 266 post (gx xp) (1 + k8 * 900) 8 (fun j => xlook j [(0, .ref (A 84)), (1, .int x1), (2, .int x2), (3, .int y8_3), (4, .int y8_4), (5, .int y8_5)]) [] (WW Z A s ++ ex) 0 0 := by
    intro k8
    induction k8 with
    | zero => intro y8_3 y8_4 y8_5 j8_5 mm8; exact m_no mm8 j8_5 rfl
    | succ k8 ih8 =>
      intro y8_3 y8_4 y8_5 j8_5 mm8
      refine gg_w (M := 1 + k8 * 900 + 900) (by omega) ?_
      refine g_iload 10 (gd rfl) rfl rfl ?_
      refine g_bipush 32 12 (gd rfl) rfl rfl ?_
      refine g_cmp_ge 15 62 (gd rfl) rfl rfl (fun c1 => ?_) (fun c1 => ?_)
      · skip
        have i2 := r_le2 32 32 c1 (in_c 32 rfl) j8_5 rfl
        refine g_iload_n 63 (gd rfl) rfl rfl ?_
        exact g_ireturn (gd rfl) rfl rfl (hP _ _ ⟨y8_3, rfl, rfl, in_w (-2147483648) 2147483647 (i_rng y8_3) rfl⟩)
      · skip
        have i3 := r_lt1 0 31 c1 j8_5 (in_c 32 rfl) rfl
        refine g_iload 17 (gd rfl) rfl rfl ?_
        refine g_if_eq 20 62 (gd rfl) rfl rfl (fun c4 => ?_) (fun c4 => ?_)
        · skip
          have i5 := z_eq 0 0 c4 (i_rng y8_4) rfl
          refine g_iload_n 63 (gd rfl) rfl rfl ?_
          exact g_ireturn (gd rfl) rfl rfl (hP _ _ ⟨y8_3, rfl, rfl, in_w (-2147483648) 2147483647 (i_rng y8_3) rfl⟩)
        · skip
          refine g_aload_n 21 (gd rfl) rfl rfl ?_
          refine g_iload 23 (gd rfl) rfl rfl ?_
          refine g_calls (As := [.int y8_4]) (r := [.ref (A 84)]) 26 (gd rfl) rfl rfl rfl rfl rfl (Nat.le_of_ble_eq_true rfl) (Nat.zero_le _) (Nat.zero_le _) (k_264n (by omega) c4) (fun v u h => ?_)
          obtain ⟨z6, rfl, rfl, i7⟩ := h
          show GG _ _ _ _ _ _ _ _ [.int z6, .ref (A 84)] _ _ _
          refine g_iaload 27 (gd rfl) rfl (n := 32) rfl (in_ix i7 rfl) (fun z8 e9 => ?_)
          refine g_iload_n 28 (gd rfl) rfl rfl ?_
          refine g_iand 29 (gd rfl) rfl (fun z10 e11 => ?_)
          refine g_iload_n 30 (gd rfl) rfl rfl ?_
          refine g_iconst (-1) 31 (gd rfl) rfl rfl ?_
          refine g_ixor 32 (gd rfl) rfl (fun z12 e13 => ?_)
          refine g_iand 33 (gd rfl) rfl (fun z14 e15 => ?_)
          refine g_istore 35 (gd rfl) rfl (Nat.le_of_ble_eq_true rfl) ?_
          refine g_iload 37 (gd rfl) rfl rfl ?_
          refine g_iload 39 (gd rfl) rfl rfl ?_
          refine g_iconst 1 40 (gd rfl) rfl rfl ?_
          refine g_isub 41 (gd rfl) rfl (fun z16 e17 => ?_)
          refine g_iand 42 (gd rfl) rfl (fun z18 e19 => ?_)
          refine g_istore 44 (gd rfl) rfl (Nat.le_of_ble_eq_true rfl) ?_
          refine g_iload 46 (gd rfl) rfl rfl ?_
          refine g_iload 48 (gd rfl) rfl rfl ?_
          refine g_ior 49 (gd rfl) rfl (fun z20 e21 => ?_)
          refine g_istore 51 (gd rfl) rfl (Nat.le_of_ble_eq_true rfl) ?_
          refine g_iload_n 52 (gd rfl) rfl rfl ?_
          refine g_iload 54 (gd rfl) rfl rfl ?_
          refine g_ior 55 (gd rfl) rfl (fun z22 e23 => ?_)
          refine g_istore_n 56 (gd rfl) rfl (Nat.le_of_ble_eq_true rfl) ?_
          refine g_iinc 59 (gd rfl) rfl rfl (Nat.le_of_ble_eq_true rfl) (fun z24 e25 => ?_)
          have i26 := in_add 1 32 e25 i3 (in_c 1 rfl) rfl rfl
          refine g_goto 8 (gd rfl) rfl ?_
          exact gg_w (by omega) (gg_f (gf_cons rfl (gf_cons rfl (gf_cons rfl (gf_cons rfl (gf_cons rfl (gf_cons rfl gf_nil)))))) (ih8  z22 z20 z24  (in_w 0 32 i26 rfl) (m_up mm8 (t_add e25 i3 (in_c 1 rfl) rfl) (in_w 1 1 (in_c 1 rfl) rfl))))
  refine g_enter2 (k := 266) (N := 30601) (by omega) rfl (Nat.le_of_ble_eq_true rfl) ?_
  refine g_iload_n 1 (gd rfl) rfl rfl ?_
  refine g_istore_n 2 (gd rfl) rfl (Nat.le_of_ble_eq_true rfl) ?_
  refine g_iload_n 3 (gd rfl) rfl rfl ?_
  refine g_istore 5 (gd rfl) rfl (Nat.le_of_ble_eq_true rfl) ?_
  refine g_iconst 0 6 (gd rfl) rfl rfl ?_
  refine g_istore 8 (gd rfl) rfl (Nat.le_of_ble_eq_true rfl) ?_
  exact gg_w (by omega) (gg_f (gf_cons rfl (gf_cons rfl (gf_cons rfl (gf_cons rfl (gf_cons rfl (gf_cons rfl gf_nil)))))) (ct8 33  x1 x1 (Int32.ofInt 0)  (in_w 0 32 (in_c 0 rfl) rfl) (m_in 33 (in_w 0 32 (in_c 0 rfl) rfl) rfl)))

/-- GraphHouseModel.thrown -/
theorem k_268 {Z : AmZ} {A : Nat → Nat} {s : GS} {ex : va_W} {d : Nat} {X : AmX}  (hd : 1 ≤ d) (hI : Inv s)  : GC Z d 268 [.ref (A 109)] (WW Z A s ++ ex) 0 0 (fun v u => ∃ z : Int32, v = some (.int z) ∧ u = WW Z A s ++ ex ∧ In z 0 2) X := by
  intro post xp hP hX
  refine g_enter2 (k := 268) (N := 900) (by omega) rfl (Nat.le_of_ble_eq_true rfl) ?_
  refine g_aload_n 1 (gd rfl) rfl rfl ?_
  refine g_getI 4 (gd rfl) rfl rfl rfl (fun z1 e2 => ?_)
  have i3 := inv_F hI 0 2 rfl e2
  exact g_ireturn (gd rfl) rfl rfl (hP _ _ ⟨z1, rfl, rfl, in_w 0 2 i3 rfl⟩)

/-- GraphHouseModel.freePlace -/
theorem k_280 {Z : AmZ} {A : Nat → Nat} {s : GS} {ex : va_W} {d : Nat} {X : AmX} {x1 : Int32} (hd : 1 ≤ d) (hI : Inv s) (h1 : In x1 0 0) : GC Z d 280 [.ref (A 109), .int x1] (WW Z A s ++ ex) 0 0 (fun v u => ∃ z : Int32, v = some (.int z) ∧ u = WW Z A s ++ ex ∧ In z 0 160) X := by
  intro post xp hP hX
  have ct2 : ∀ (k2 : Nat) (y2_2 : Int32), In y2_2 0 160 → 160 - (y2_2).toInt < (k2 : Int) → GG Z (d - 1) 280 post (gx xp) (1 + k2 * 900) 2 (fun j => xlook j [(0, .ref (A 109)), (1, .int x1), (2, .int y2_2)]) [] (WW Z A s ++ ex) 0 0 := by
    intro k2
    induction k2 with
    | zero => intro y2_2 j2_2 mm2; exact m_no mm2 j2_2 rfl
    | succ k2 ih2 =>
      intro y2_2 j2_2 mm2
      refine gg_w (M := 1 + k2 * 900 + 900) (by omega) ?_
      refine g_iload_n 3 (gd rfl) rfl rfl ?_
      refine g_sipush 160 6 (gd rfl) rfl rfl ?_
      refine g_cmp_ge 9 30 (gd rfl) rfl rfl (fun c1 => ?_) (fun c1 => ?_)
      · skip
        have i2 := r_le2 160 160 c1 (in_c 160 rfl) j2_2 rfl
        refine g_iload_n 31 (gd rfl) rfl rfl ?_
        exact g_ireturn (gd rfl) rfl rfl (hP _ _ ⟨y2_2, rfl, rfl, in_w 0 160 i2 rfl⟩)
      · skip
        have i3 := r_lt1 0 159 c1 j2_2 (in_c 160 rfl) rfl
        refine g_aload_n 10 (gd rfl) rfl rfl ?_
        refine g_getA (q2 := 112) 13 (gd rfl) rfl rfl rfl rfl rfl ?_
        refine g_sipush 160 16 (gd rfl) rfl rfl ?_
        refine g_iload_n 17 (gd rfl) rfl rfl ?_
        refine g_imul 18 (gd rfl) rfl (fun z4 e5 => ?_)
        have i6 := in_mulc 160 0 0 (Or.inl e5) h1 rfl rfl
        refine g_iload_n 19 (gd rfl) rfl rfl ?_
        refine g_iadd 20 (gd rfl) rfl (fun z7 e8 => ?_)
        have i9 := in_add 0 159 e8 i6 i3 rfl rfl
        refine g_baload 21 (gd rfl) rfl (n := 480) rfl (in_ix i9 rfl) (fun z10 e11 => ?_)
        have i12 := inv_I hI (n := 480) (t := 3) 0 1 rfl (in_ix i9 rfl) rfl e11
        refine g_if_eq 24 30 (gd rfl) rfl rfl (fun c13 => ?_) (fun c13 => ?_)
        · skip
          have i14 := z_eq 0 0 c13 i12 rfl
          refine g_iload_n 31 (gd rfl) rfl rfl ?_
          exact g_ireturn (gd rfl) rfl rfl (hP _ _ ⟨y2_2, rfl, rfl, in_w 0 160 i3 rfl⟩)
        · skip
          have i15 := z_ne 1 1 c13 i12 rfl
          refine g_iinc 27 (gd rfl) rfl rfl (Nat.le_of_ble_eq_true rfl) (fun z16 e17 => ?_)
          have i18 := in_add 1 160 e17 i3 (in_c 1 rfl) rfl rfl
          refine g_goto 2 (gd rfl) rfl ?_
          exact gg_w (by omega) (gg_f (gf_cons rfl (gf_cons rfl (gf_cons rfl gf_nil))) (ih2  z16  (in_w 0 160 i18 rfl) (m_up mm2 (t_add e17 i3 (in_c 1 rfl) rfl) (in_w 1 1 (in_c 1 rfl) rfl))))
  refine g_enter2 (k := 280) (N := 145801) (by omega) rfl (Nat.le_of_ble_eq_true rfl) ?_
  refine g_iconst 0 1 (gd rfl) rfl rfl ?_
  refine g_istore_n 2 (gd rfl) rfl (Nat.le_of_ble_eq_true rfl) ?_
  exact gg_w (by omega) (gg_f (gf_cons rfl (gf_cons rfl (gf_cons rfl gf_nil))) (ct2 161  (Int32.ofInt 0)  (in_w 0 160 (in_c 0 rfl) rfl) (m_in 161 (in_w 0 160 (in_c 0 rfl) rfl) rfl)))

/-- GraphHouseModel.version -/
theorem k_287 {Z : AmZ} {A : Nat → Nat} {s : GS} {ex : va_W} {d : Nat} {X : AmX}  (hd : 1 ≤ d) (hI : Inv s)  : GC Z d 287 [.ref (A 109)] (WW Z A s ++ ex) 0 0 (fun v u => ∃ t : GS, Inv t ∧ ∃ z : Int32, v = some (.int z) ∧ u = WW Z A t ++ ex ∧ In z 0 4000) X := by
  intro post xp hP hX
  refine g_enter2 (k := 287) (N := 900) (by omega) rfl (Nat.le_of_ble_eq_true rfl) ?_
  refine g_aload_n 1 (gd rfl) rfl rfl ?_
  refine g_iconst 0 2 (gd rfl) rfl rfl ?_
  refine g_putI 5 (gd rfl) rfl rfl rfl rfl ?_
  have hI1 := inv_sF (q := 109) (j := 0) hI rfl (in_w 0 2 (in_c 0 rfl) rfl)
  refine g_aload_n 6 (gd rfl) rfl rfl ?_
  refine g_getI 9 (gd rfl) rfl rfl rfl (fun z2 e3 => ?_)
  have i4 := inv_F hI1 0 4000 rfl e3
  exact g_ireturn (gd rfl) rfl rfl (hP _ _ ⟨(sF s 109 0 (Int32.ofInt 0)), hI1, z2, rfl, rfl, in_w 0 4000 i4 rfl⟩)
