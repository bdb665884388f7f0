section
/-! methods, by vc.py -/
def fm_173_46 : FM := ([], [], [(46, 2), (46, 3), (46, 5)], [])
/-- GraphHouse$Script.readNumber -/
theorem k_173_46 {Z : AmZ} {A : Nat → Nat} {s : GS} {ex : va_W} {d : Nat} {X : AmX} {x1 : Int32} {x2 : Int32} {u_46_2 : Int32} {u_46_1 : Int32} (hd : 3 ≤ d) (hI : Inv s) (h1 : In x1 0 1) (h2 : In x2 6 7) (e_46_2 : u_46_2 = s.2.2.1 46 2) (e_46_1 : u_46_1 = s.2.2.1 46 1) (p_0 : (u_46_2).toInt + (x1).toInt + 1 ≤ (u_46_1).toInt) (q_0 : 48 ≤ (s.1 47 ((s.2.2.1 46 2).toInt + (x1).toInt).toNat).toInt ∧ (s.1 47 ((s.2.2.1 46 2).toInt + (x1).toInt).toNat).toInt ≤ 57) : GC Z d 173 [.ref (A 46), .int x1, .int x2] (WW Z A s ++ ex) 0 0 (fun v u => ∃ t : GS, Inv t ∧ Fr fm_173_46 s t ∧ ((t.2.2.1 46 2).toInt ≤ (t.2.2.1 46 1).toInt) ∧ ((s.2.2.1 46 2).toInt + 1 ≤ (t.2.2.1 46 2).toInt) ∧ v = none ∧ u = WW Z A t ++ ex ∧ ((t.2.2.1 46 3).toInt ≠ 1) ∧ ((x2).toInt = 6 → (t.2.2.1 46 3).toInt = 2 → (t.2.2.1 46 5).toInt ≤ 999999)) X := by
  intro post xp hP hX
  have ro_46_1 := inv_F hI 0 1000 rfl e_46_1
  have ct26 : ∀ (k26 : Nat) (sc26 : GS) (y26_3 : Int32) (y26_4 : Int32) (w26_46_2 : Int32), Inv sc26 → Fr fm_173_46 s sc26 → (In y26_3 0 1000) → (In y26_4 0 9999999) → (w26_46_2 = sc26.2.2.1 46 2) → ((w26_46_2).toInt ≤ (u_46_1).toInt) → ((u_46_2).toInt + (x1).toInt ≤ (w26_46_2).toInt) → ((y26_3).toInt ≤ (w26_46_2).toInt) → (0 ≤ (y26_4).toInt ∧ ((y26_3).toInt ≤ (x2).toInt → (y26_4).toInt < (10 : Int) ^ ((y26_3).toInt).toNat) ∧ ((x2).toInt < (y26_3).toInt → (y26_4).toInt < (10 : Int) ^ ((x2).toInt).toNat)) → (u_46_1).toInt - (w26_46_2).toInt < (k26 : Int) → GG Z (d - 1) 173 post (gx xp) (1 + k26 * 900) 26 (fun j => xlook j [(0, .ref (A 46)), (1, .int x1), (2, .int x2), (3, .int y26_3), (4, .int y26_4)]) [] (WW Z A sc26 ++ ex) 0 0 := by
    intro k26
    induction k26 with
    | zero => intro sc26 y26_3 y26_4 w26_46_2 hIc26 hFc26 j26_3 j26_4 v26_46_2 n26_0 n26_1 n26_2 g26_0 mm26; exfalso; (first | have a0 := oa4 h2 h1 ro_46_1 ((inv_F hIc26 0 1000 rfl v26_46_2)) | ((first | have a0 := in_u h2 | (have a0 := h2; unfold In at a0)); (first | have a1 := in_u h1 | (have a1 := h1; unfold In at a1)); (first | have a2 := in_u ro_46_1 | (have a2 := ro_46_1; unfold In at a2)); (first | have a3 := in_u ((inv_F hIc26 0 1000 rfl v26_46_2)) | (have a3 := (inv_F hIc26 0 1000 rfl v26_46_2); unfold In at a3)))); have a4 := j26_4; unfold In at a4; have a5 := j26_3; unfold In at a5; omega
    | succ k26 ih26 =>
      intro sc26 y26_3 y26_4 w26_46_2 hIc26 hFc26 j26_3 j26_4 v26_46_2 n26_0 n26_1 n26_2 g26_0 mm26
      refine gg_w (M := 1 + k26 * 900 + 900) gws ?_
      refine g_aload_n 27 (gd rfl) rfl rfl ?_
      refine g_getI 30 (gd rfl) rfl rfl rfl (fun z27 e27 => ?_)
      have q27 : w26_46_2 = z27 := (v26_46_2).trans e27.symm
      subst q27
      refine g_aload_n 31 (gd rfl) rfl rfl ?_
      refine g_getI 34 (gd rfl) rfl rfl rfl (fun z31 e31 => ?_)
      have q31 : u_46_1 = z31 := (fr_F e_46_1 hFc26 rfl).trans e31.symm
      subst q31
      refine g_cmp_ge 37 89 (gd rfl) rfl rfl (fun c34 => ?_) (fun c34 => ?_)
      · skip
        have hq89 : (u_46_2).toInt + 1 ≤ (w26_46_2).toInt := (by (first | have a0 := oa6 h2 h1 ro_46_1 ((inv_F hIc26 0 1000 rfl v26_46_2)) j26_4 j26_3 | ((first | have a0 := in_u h2 | (have a0 := h2; unfold In at a0)); (first | have a1 := in_u h1 | (have a1 := h1; unfold In at a1)); (first | have a2 := in_u ro_46_1 | (have a2 := ro_46_1; unfold In at a2)); (first | have a3 := in_u ((inv_F hIc26 0 1000 rfl v26_46_2)) | (have a3 := (inv_F hIc26 0 1000 rfl v26_46_2); unfold In at a3)); (first | have a4 := in_u j26_4 | (have a4 := j26_4; unfold In at a4)); (first | have a5 := in_u j26_3 | (have a5 := j26_3; unfold In at a5)))); omega)
        refine g_aload_n 90 (gd rfl) rfl rfl ?_
        refine g_iload_n 91 (gd rfl) rfl rfl ?_
        refine g_if_eq 94 100 (gd rfl) rfl rfl (fun c91 => ?_) (fun c91 => ?_)
        · skip
          have i91 := z_eq 0 0 c91 h1 rfl
          refine g_iload 102 (gd rfl) rfl rfl ?_
          refine g_putI 105 (gd rfl) rfl rfl rfl rfl ?_
          have hI102 := inv_sF (q := 46) (j := 5) hIc26 rfl (in_w (-2147483648) 2147483647 j26_4 rfl)
          refine g_aload_n 106 (gd rfl) rfl rfl ?_
          refine g_iload_n 107 (gd rfl) rfl rfl ?_
          refine g_iload_n 108 (gd rfl) rfl rfl ?_
          refine g_cmp_le 111 115 (gd rfl) rfl rfl (fun c108 => ?_) (fun c108 => ?_)
          · skip
            have i108 := r_le1 0 7 c108 j26_3 h2 rfl
            refine g_iconst 2 116 (gd rfl) rfl rfl ?_
            refine g_putI 119 (gd rfl) rfl rfl rfl rfl ?_
            have hI116 := inv_sF (q := 46) (j := 3) hI102 rfl (in_w 0 5 (in_c 2 rfl) rfl)
            have n119 : ((sF (sF sc26 46 5 y26_4) 46 3 (Int32.ofInt 2)).2.2.1 46 3).toInt ≠ 1 := by rw [← (show (Int32.ofInt 2) = (sF (sF sc26 46 5 y26_4) 46 3 (Int32.ofInt 2)).2.2.1 46 3 from sF_get)]; decide
            have n119a : (x2).toInt = 6 → ((sF (sF sc26 46 5 y26_4) 46 3 (Int32.ofInt 2)).2.2.1 46 3).toInt = 2 → ((sF (sF sc26 46 5 y26_4) 46 3 (Int32.ofInt 2)).2.2.1 46 5).toInt ≤ 999999 := by intro h6 h2; rw [← (show (Int32.ofInt 2) = (sF (sF sc26 46 5 y26_4) 46 3 (Int32.ofInt 2)).2.2.1 46 3 from sF_get)] at h2; rw [← (show y26_4 = (sF (sF sc26 46 5 y26_4) 46 3 (Int32.ofInt 2)).2.2.1 46 5 from sF_ne rfl (sF_get))]; first | (exfalso; revert h2; decide) | exact dg_6 (by have a0 := h2; unfold In at a0; (first | have a1 := oa6 i91 ro_46_1 ((inv_F hIc26 0 1000 rfl v26_46_2)) j26_4 i108 ((in_c 2 rfl)) | ((first | have a1 := in_u i91 | (have a1 := i91; unfold In at a1)); (first | have a2 := in_u ro_46_1 | (have a2 := ro_46_1; unfold In at a2)); (first | have a3 := in_u ((inv_F hIc26 0 1000 rfl v26_46_2)) | (have a3 := (inv_F hIc26 0 1000 rfl v26_46_2); unfold In at a3)); (first | have a4 := in_u j26_4 | (have a4 := j26_4; unfold In at a4)); (first | have a5 := in_u i108 | (have a5 := i108; unfold In at a5)); (first | have a6 := in_u ((in_c 2 rfl)) | (have a6 := (in_c 2 rfl); unfold In at a6)))); omega) (by have a0 := h2; unfold In at a0; (first | have a1 := oa6 i91 ro_46_1 ((inv_F hIc26 0 1000 rfl v26_46_2)) j26_4 i108 ((in_c 2 rfl)) | ((first | have a1 := in_u i91 | (have a1 := i91; unfold In at a1)); (first | have a2 := in_u ro_46_1 | (have a2 := ro_46_1; unfold In at a2)); (first | have a3 := in_u ((inv_F hIc26 0 1000 rfl v26_46_2)) | (have a3 := (inv_F hIc26 0 1000 rfl v26_46_2); unfold In at a3)); (first | have a4 := in_u j26_4 | (have a4 := j26_4; unfold In at a4)); (first | have a5 := in_u i108 | (have a5 := i108; unfold In at a5)); (first | have a6 := in_u ((in_c 2 rfl)) | (have a6 := (in_c 2 rfl); unfold In at a6)))); omega) (g26_0.2.1 (by have a0 := h2; unfold In at a0; (first | have a1 := oa6 i91 ro_46_1 ((inv_F hIc26 0 1000 rfl v26_46_2)) j26_4 i108 ((in_c 2 rfl)) | ((first | have a1 := in_u i91 | (have a1 := i91; unfold In at a1)); (first | have a2 := in_u ro_46_1 | (have a2 := ro_46_1; unfold In at a2)); (first | have a3 := in_u ((inv_F hIc26 0 1000 rfl v26_46_2)) | (have a3 := (inv_F hIc26 0 1000 rfl v26_46_2); unfold In at a3)); (first | have a4 := in_u j26_4 | (have a4 := j26_4; unfold In at a4)); (first | have a5 := in_u i108 | (have a5 := i108; unfold In at a5)); (first | have a6 := in_u ((in_c 2 rfl)) | (have a6 := (in_c 2 rfl); unfold In at a6)))); omega))
            have n119b : (w26_46_2).toInt ≤ (u_46_1).toInt := by first | exact n26_0 | ((first | have a0 := oa7 h2 i91 ro_46_1 ((inv_F hIc26 0 1000 rfl v26_46_2)) j26_4 i108 ((in_c 2 rfl)) | ((first | have a0 := in_u h2 | (have a0 := h2; unfold In at a0)); (first | have a1 := in_u i91 | (have a1 := i91; unfold In at a1)); (first | have a2 := in_u ro_46_1 | (have a2 := ro_46_1; unfold In at a2)); (first | have a3 := in_u ((inv_F hIc26 0 1000 rfl v26_46_2)) | (have a3 := (inv_F hIc26 0 1000 rfl v26_46_2); unfold In at a3)); (first | have a4 := in_u j26_4 | (have a4 := j26_4; unfold In at a4)); (first | have a5 := in_u i108 | (have a5 := i108; unfold In at a5)); (first | have a6 := in_u ((in_c 2 rfl)) | (have a6 := (in_c 2 rfl); unfold In at a6)))); omega)
            have n119c : ((sF (sF sc26 46 5 y26_4) 46 3 (Int32.ofInt 2)).2.2.1 46 2).toInt ≤ ((sF (sF sc26 46 5 y26_4) 46 3 (Int32.ofInt 2)).2.2.1 46 1).toInt := by have b0 : w26_46_2 = (sF (sF sc26 46 5 y26_4) 46 3 (Int32.ofInt 2)).2.2.1 46 2 := sF_ne rfl (sF_ne rfl (v26_46_2)); have b1 : u_46_1 = (sF (sF sc26 46 5 y26_4) 46 3 (Int32.ofInt 2)).2.2.1 46 1 := sF_ne rfl (sF_ne rfl (fr_F e_46_1 hFc26 rfl)); rw [← b0, ← b1]; exact n119b
            have n119d : (u_46_2).toInt + 1 ≤ (w26_46_2).toInt := by (first | have a0 := oa7 h2 i91 ro_46_1 ((inv_F hIc26 0 1000 rfl v26_46_2)) j26_4 i108 ((in_c 2 rfl)) | ((first | have a0 := in_u h2 | (have a0 := h2; unfold In at a0)); (first | have a1 := in_u i91 | (have a1 := i91; unfold In at a1)); (first | have a2 := in_u ro_46_1 | (have a2 := ro_46_1; unfold In at a2)); (first | have a3 := in_u ((inv_F hIc26 0 1000 rfl v26_46_2)) | (have a3 := (inv_F hIc26 0 1000 rfl v26_46_2); unfold In at a3)); (first | have a4 := in_u j26_4 | (have a4 := j26_4; unfold In at a4)); (first | have a5 := in_u i108 | (have a5 := i108; unfold In at a5)); (first | have a6 := in_u ((in_c 2 rfl)) | (have a6 := (in_c 2 rfl); unfold In at a6)))); omega
            have n119e : (s.2.2.1 46 2).toInt + 1 ≤ ((sF (sF sc26 46 5 y26_4) 46 3 (Int32.ofInt 2)).2.2.1 46 2).toInt := by have b0 : w26_46_2 = (sF (sF sc26 46 5 y26_4) 46 3 (Int32.ofInt 2)).2.2.1 46 2 := sF_ne rfl (sF_ne rfl (v26_46_2)); first | (rw [← b0, ← e_46_2]; exact n119d) | (rw [← b0]; exact n119d)
            exact g_return (gd rfl) rfl (hP _ _ ⟨(sF (sF sc26 46 5 y26_4) 46 3 (Int32.ofInt 2)), hI116, (fr_sF rfl (fr_sF rfl hFc26)), n119c, n119e, rfl, rfl, n119, n119a⟩)
          · skip
            have i108 := r_lt2 7 1000 c108 h2 j26_3 rfl
            refine g_iconst 5 112 (gd rfl) rfl rfl ?_
            refine g_goto 116 (gd rfl) rfl ?_
            refine g_putI 119 (gd rfl) rfl rfl rfl rfl ?_
            have hI116 := inv_sF (q := 46) (j := 3) hI102 rfl (in_w 0 5 (in_c 5 rfl) rfl)
            have n119 : ((sF (sF sc26 46 5 y26_4) 46 3 (Int32.ofInt 5)).2.2.1 46 3).toInt ≠ 1 := by rw [← (show (Int32.ofInt 5) = (sF (sF sc26 46 5 y26_4) 46 3 (Int32.ofInt 5)).2.2.1 46 3 from sF_get)]; decide
            have n119a : (x2).toInt = 6 → ((sF (sF sc26 46 5 y26_4) 46 3 (Int32.ofInt 5)).2.2.1 46 3).toInt = 2 → ((sF (sF sc26 46 5 y26_4) 46 3 (Int32.ofInt 5)).2.2.1 46 5).toInt ≤ 999999 := by intro h6 h2; rw [← (show (Int32.ofInt 5) = (sF (sF sc26 46 5 y26_4) 46 3 (Int32.ofInt 5)).2.2.1 46 3 from sF_get)] at h2; rw [← (show y26_4 = (sF (sF sc26 46 5 y26_4) 46 3 (Int32.ofInt 5)).2.2.1 46 5 from sF_ne rfl (sF_get))]; first | (exfalso; revert h2; decide) | exact dg_6 (by have a0 := h2; unfold In at a0; (first | have a1 := oa6 i91 ro_46_1 ((inv_F hIc26 0 1000 rfl v26_46_2)) j26_4 i108 ((in_c 5 rfl)) | ((first | have a1 := in_u i91 | (have a1 := i91; unfold In at a1)); (first | have a2 := in_u ro_46_1 | (have a2 := ro_46_1; unfold In at a2)); (first | have a3 := in_u ((inv_F hIc26 0 1000 rfl v26_46_2)) | (have a3 := (inv_F hIc26 0 1000 rfl v26_46_2); unfold In at a3)); (first | have a4 := in_u j26_4 | (have a4 := j26_4; unfold In at a4)); (first | have a5 := in_u i108 | (have a5 := i108; unfold In at a5)); (first | have a6 := in_u ((in_c 5 rfl)) | (have a6 := (in_c 5 rfl); unfold In at a6)))); omega) (by have a0 := h2; unfold In at a0; (first | have a1 := oa6 i91 ro_46_1 ((inv_F hIc26 0 1000 rfl v26_46_2)) j26_4 i108 ((in_c 5 rfl)) | ((first | have a1 := in_u i91 | (have a1 := i91; unfold In at a1)); (first | have a2 := in_u ro_46_1 | (have a2 := ro_46_1; unfold In at a2)); (first | have a3 := in_u ((inv_F hIc26 0 1000 rfl v26_46_2)) | (have a3 := (inv_F hIc26 0 1000 rfl v26_46_2); unfold In at a3)); (first | have a4 := in_u j26_4 | (have a4 := j26_4; unfold In at a4)); (first | have a5 := in_u i108 | (have a5 := i108; unfold In at a5)); (first | have a6 := in_u ((in_c 5 rfl)) | (have a6 := (in_c 5 rfl); unfold In at a6)))); omega) (g26_0.2.1 (by have a0 := h2; unfold In at a0; (first | have a1 := oa6 i91 ro_46_1 ((inv_F hIc26 0 1000 rfl v26_46_2)) j26_4 i108 ((in_c 5 rfl)) | ((first | have a1 := in_u i91 | (have a1 := i91; unfold In at a1)); (first | have a2 := in_u ro_46_1 | (have a2 := ro_46_1; unfold In at a2)); (first | have a3 := in_u ((inv_F hIc26 0 1000 rfl v26_46_2)) | (have a3 := (inv_F hIc26 0 1000 rfl v26_46_2); unfold In at a3)); (first | have a4 := in_u j26_4 | (have a4 := j26_4; unfold In at a4)); (first | have a5 := in_u i108 | (have a5 := i108; unfold In at a5)); (first | have a6 := in_u ((in_c 5 rfl)) | (have a6 := (in_c 5 rfl); unfold In at a6)))); omega))
            have n119b : (w26_46_2).toInt ≤ (u_46_1).toInt := by first | exact n26_0 | ((first | have a0 := oa7 h2 i91 ro_46_1 ((inv_F hIc26 0 1000 rfl v26_46_2)) j26_4 i108 ((in_c 5 rfl)) | ((first | have a0 := in_u h2 | (have a0 := h2; unfold In at a0)); (first | have a1 := in_u i91 | (have a1 := i91; unfold In at a1)); (first | have a2 := in_u ro_46_1 | (have a2 := ro_46_1; unfold In at a2)); (first | have a3 := in_u ((inv_F hIc26 0 1000 rfl v26_46_2)) | (have a3 := (inv_F hIc26 0 1000 rfl v26_46_2); unfold In at a3)); (first | have a4 := in_u j26_4 | (have a4 := j26_4; unfold In at a4)); (first | have a5 := in_u i108 | (have a5 := i108; unfold In at a5)); (first | have a6 := in_u ((in_c 5 rfl)) | (have a6 := (in_c 5 rfl); unfold In at a6)))); omega)
            have n119c : ((sF (sF sc26 46 5 y26_4) 46 3 (Int32.ofInt 5)).2.2.1 46 2).toInt ≤ ((sF (sF sc26 46 5 y26_4) 46 3 (Int32.ofInt 5)).2.2.1 46 1).toInt := by have b0 : w26_46_2 = (sF (sF sc26 46 5 y26_4) 46 3 (Int32.ofInt 5)).2.2.1 46 2 := sF_ne rfl (sF_ne rfl (v26_46_2)); have b1 : u_46_1 = (sF (sF sc26 46 5 y26_4) 46 3 (Int32.ofInt 5)).2.2.1 46 1 := sF_ne rfl (sF_ne rfl (fr_F e_46_1 hFc26 rfl)); rw [← b0, ← b1]; exact n119b
            have n119d : (u_46_2).toInt + 1 ≤ (w26_46_2).toInt := by (first | have a0 := oa7 h2 i91 ro_46_1 ((inv_F hIc26 0 1000 rfl v26_46_2)) j26_4 i108 ((in_c 5 rfl)) | ((first | have a0 := in_u h2 | (have a0 := h2; unfold In at a0)); (first | have a1 := in_u i91 | (have a1 := i91; unfold In at a1)); (first | have a2 := in_u ro_46_1 | (have a2 := ro_46_1; unfold In at a2)); (first | have a3 := in_u ((inv_F hIc26 0 1000 rfl v26_46_2)) | (have a3 := (inv_F hIc26 0 1000 rfl v26_46_2); unfold In at a3)); (first | have a4 := in_u j26_4 | (have a4 := j26_4; unfold In at a4)); (first | have a5 := in_u i108 | (have a5 := i108; unfold In at a5)); (first | have a6 := in_u ((in_c 5 rfl)) | (have a6 := (in_c 5 rfl); unfold In at a6)))); omega
            have n119e : (s.2.2.1 46 2).toInt + 1 ≤ ((sF (sF sc26 46 5 y26_4) 46 3 (Int32.ofInt 5)).2.2.1 46 2).toInt := by have b0 : w26_46_2 = (sF (sF sc26 46 5 y26_4) 46 3 (Int32.ofInt 5)).2.2.1 46 2 := sF_ne rfl (sF_ne rfl (v26_46_2)); first | (rw [← b0, ← e_46_2]; exact n119d) | (rw [← b0]; exact n119d)
            exact g_return (gd rfl) rfl (hP _ _ ⟨(sF (sF sc26 46 5 y26_4) 46 3 (Int32.ofInt 5)), hI116, (fr_sF rfl (fr_sF rfl hFc26)), n119c, n119e, rfl, rfl, n119, n119a⟩)
        · skip
          have i91 := z_ne 1 1 c91 h1 rfl
          refine g_iload 96 (gd rfl) rfl rfl ?_
          refine g_ineg 97 (gd rfl) rfl (fun z96 e96 => ?_)
          have i96 := in_neg (-9999999) 0 e96 j26_4 rfl
          refine g_goto 102 (gd rfl) rfl ?_
          refine g_putI 105 (gd rfl) rfl rfl rfl rfl ?_
          have hI102 := inv_sF (q := 46) (j := 5) hIc26 rfl (in_w (-2147483648) 2147483647 i96 rfl)
          refine g_aload_n 106 (gd rfl) rfl rfl ?_
          refine g_iload_n 107 (gd rfl) rfl rfl ?_
          refine g_iload_n 108 (gd rfl) rfl rfl ?_
          refine g_cmp_le 111 115 (gd rfl) rfl rfl (fun c108 => ?_) (fun c108 => ?_)
          · skip
            have i108 := r_le1 0 7 c108 j26_3 h2 rfl
            refine g_iconst 2 116 (gd rfl) rfl rfl ?_
            refine g_putI 119 (gd rfl) rfl rfl rfl rfl ?_
            have hI116 := inv_sF (q := 46) (j := 3) hI102 rfl (in_w 0 5 (in_c 2 rfl) rfl)
            have n119 : ((sF (sF sc26 46 5 z96) 46 3 (Int32.ofInt 2)).2.2.1 46 3).toInt ≠ 1 := by rw [← (show (Int32.ofInt 2) = (sF (sF sc26 46 5 z96) 46 3 (Int32.ofInt 2)).2.2.1 46 3 from sF_get)]; decide
            have n119a : (x2).toInt = 6 → ((sF (sF sc26 46 5 z96) 46 3 (Int32.ofInt 2)).2.2.1 46 3).toInt = 2 → ((sF (sF sc26 46 5 z96) 46 3 (Int32.ofInt 2)).2.2.1 46 5).toInt ≤ 999999 := by intro h6 h2; rw [← (show (Int32.ofInt 2) = (sF (sF sc26 46 5 z96) 46 3 (Int32.ofInt 2)).2.2.1 46 3 from sF_get)] at h2; rw [← (show z96 = (sF (sF sc26 46 5 z96) 46 3 (Int32.ofInt 2)).2.2.1 46 5 from sF_ne rfl (sF_get))]; first | (exfalso; revert h2; decide) | (have a0 := h2; unfold In at a0; (first | have a1 := oa7 i91 ro_46_1 ((inv_F hIc26 0 1000 rfl v26_46_2)) j26_4 i108 ((in_c 2 rfl)) i96 | ((first | have a1 := in_u i91 | (have a1 := i91; unfold In at a1)); (first | have a2 := in_u ro_46_1 | (have a2 := ro_46_1; unfold In at a2)); (first | have a3 := in_u ((inv_F hIc26 0 1000 rfl v26_46_2)) | (have a3 := (inv_F hIc26 0 1000 rfl v26_46_2); unfold In at a3)); (first | have a4 := in_u j26_4 | (have a4 := j26_4; unfold In at a4)); (first | have a5 := in_u i108 | (have a5 := i108; unfold In at a5)); (first | have a6 := in_u ((in_c 2 rfl)) | (have a6 := (in_c 2 rfl); unfold In at a6)); (first | have a7 := in_u i96 | (have a7 := i96; unfold In at a7)))); omega)
            have n119b : (w26_46_2).toInt ≤ (u_46_1).toInt := by first | exact n26_0 | ((first | have a0 := oa8 h2 i91 ro_46_1 ((inv_F hIc26 0 1000 rfl v26_46_2)) j26_4 i108 ((in_c 2 rfl)) i96 | ((first | have a0 := in_u h2 | (have a0 := h2; unfold In at a0)); (first | have a1 := in_u i91 | (have a1 := i91; unfold In at a1)); (first | have a2 := in_u ro_46_1 | (have a2 := ro_46_1; unfold In at a2)); (first | have a3 := in_u ((inv_F hIc26 0 1000 rfl v26_46_2)) | (have a3 := (inv_F hIc26 0 1000 rfl v26_46_2); unfold In at a3)); (first | have a4 := in_u j26_4 | (have a4 := j26_4; unfold In at a4)); (first | have a5 := in_u i108 | (have a5 := i108; unfold In at a5)); (first | have a6 := in_u ((in_c 2 rfl)) | (have a6 := (in_c 2 rfl); unfold In at a6)); (first | have a7 := in_u i96 | (have a7 := i96; unfold In at a7)))); omega)
            have n119c : ((sF (sF sc26 46 5 z96) 46 3 (Int32.ofInt 2)).2.2.1 46 2).toInt ≤ ((sF (sF sc26 46 5 z96) 46 3 (Int32.ofInt 2)).2.2.1 46 1).toInt := by have b0 : w26_46_2 = (sF (sF sc26 46 5 z96) 46 3 (Int32.ofInt 2)).2.2.1 46 2 := sF_ne rfl (sF_ne rfl (v26_46_2)); have b1 : u_46_1 = (sF (sF sc26 46 5 z96) 46 3 (Int32.ofInt 2)).2.2.1 46 1 := sF_ne rfl (sF_ne rfl (fr_F e_46_1 hFc26 rfl)); rw [← b0, ← b1]; exact n119b
            have n119d : (u_46_2).toInt + 1 ≤ (w26_46_2).toInt := by (first | have a0 := oa8 h2 i91 ro_46_1 ((inv_F hIc26 0 1000 rfl v26_46_2)) j26_4 i108 ((in_c 2 rfl)) i96 | ((first | have a0 := in_u h2 | (have a0 := h2; unfold In at a0)); (first | have a1 := in_u i91 | (have a1 := i91; unfold In at a1)); (first | have a2 := in_u ro_46_1 | (have a2 := ro_46_1; unfold In at a2)); (first | have a3 := in_u ((inv_F hIc26 0 1000 rfl v26_46_2)) | (have a3 := (inv_F hIc26 0 1000 rfl v26_46_2); unfold In at a3)); (first | have a4 := in_u j26_4 | (have a4 := j26_4; unfold In at a4)); (first | have a5 := in_u i108 | (have a5 := i108; unfold In at a5)); (first | have a6 := in_u ((in_c 2 rfl)) | (have a6 := (in_c 2 rfl); unfold In at a6)); (first | have a7 := in_u i96 | (have a7 := i96; unfold In at a7)))); omega
            have n119e : (s.2.2.1 46 2).toInt + 1 ≤ ((sF (sF sc26 46 5 z96) 46 3 (Int32.ofInt 2)).2.2.1 46 2).toInt := by have b0 : w26_46_2 = (sF (sF sc26 46 5 z96) 46 3 (Int32.ofInt 2)).2.2.1 46 2 := sF_ne rfl (sF_ne rfl (v26_46_2)); first | (rw [← b0, ← e_46_2]; exact n119d) | (rw [← b0]; exact n119d)
            exact g_return (gd rfl) rfl (hP _ _ ⟨(sF (sF sc26 46 5 z96) 46 3 (Int32.ofInt 2)), hI116, (fr_sF rfl (fr_sF rfl hFc26)), n119c, n119e, rfl, rfl, n119, n119a⟩)
          · skip
            have i108 := r_lt2 7 1000 c108 h2 j26_3 rfl
            refine g_iconst 5 112 (gd rfl) rfl rfl ?_
            refine g_goto 116 (gd rfl) rfl ?_
            refine g_putI 119 (gd rfl) rfl rfl rfl rfl ?_
            have hI116 := inv_sF (q := 46) (j := 3) hI102 rfl (in_w 0 5 (in_c 5 rfl) rfl)
            have n119 : ((sF (sF sc26 46 5 z96) 46 3 (Int32.ofInt 5)).2.2.1 46 3).toInt ≠ 1 := by rw [← (show (Int32.ofInt 5) = (sF (sF sc26 46 5 z96) 46 3 (Int32.ofInt 5)).2.2.1 46 3 from sF_get)]; decide
            have n119a : (x2).toInt = 6 → ((sF (sF sc26 46 5 z96) 46 3 (Int32.ofInt 5)).2.2.1 46 3).toInt = 2 → ((sF (sF sc26 46 5 z96) 46 3 (Int32.ofInt 5)).2.2.1 46 5).toInt ≤ 999999 := by intro h6 h2; rw [← (show (Int32.ofInt 5) = (sF (sF sc26 46 5 z96) 46 3 (Int32.ofInt 5)).2.2.1 46 3 from sF_get)] at h2; rw [← (show z96 = (sF (sF sc26 46 5 z96) 46 3 (Int32.ofInt 5)).2.2.1 46 5 from sF_ne rfl (sF_get))]; first | (exfalso; revert h2; decide) | (have a0 := h2; unfold In at a0; (first | have a1 := oa7 i91 ro_46_1 ((inv_F hIc26 0 1000 rfl v26_46_2)) j26_4 i108 ((in_c 5 rfl)) i96 | ((first | have a1 := in_u i91 | (have a1 := i91; unfold In at a1)); (first | have a2 := in_u ro_46_1 | (have a2 := ro_46_1; unfold In at a2)); (first | have a3 := in_u ((inv_F hIc26 0 1000 rfl v26_46_2)) | (have a3 := (inv_F hIc26 0 1000 rfl v26_46_2); unfold In at a3)); (first | have a4 := in_u j26_4 | (have a4 := j26_4; unfold In at a4)); (first | have a5 := in_u i108 | (have a5 := i108; unfold In at a5)); (first | have a6 := in_u ((in_c 5 rfl)) | (have a6 := (in_c 5 rfl); unfold In at a6)); (first | have a7 := in_u i96 | (have a7 := i96; unfold In at a7)))); omega)
            have n119b : (w26_46_2).toInt ≤ (u_46_1).toInt := by first | exact n26_0 | ((first | have a0 := oa8 h2 i91 ro_46_1 ((inv_F hIc26 0 1000 rfl v26_46_2)) j26_4 i108 ((in_c 5 rfl)) i96 | ((first | have a0 := in_u h2 | (have a0 := h2; unfold In at a0)); (first | have a1 := in_u i91 | (have a1 := i91; unfold In at a1)); (first | have a2 := in_u ro_46_1 | (have a2 := ro_46_1; unfold In at a2)); (first | have a3 := in_u ((inv_F hIc26 0 1000 rfl v26_46_2)) | (have a3 := (inv_F hIc26 0 1000 rfl v26_46_2); unfold In at a3)); (first | have a4 := in_u j26_4 | (have a4 := j26_4; unfold In at a4)); (first | have a5 := in_u i108 | (have a5 := i108; unfold In at a5)); (first | have a6 := in_u ((in_c 5 rfl)) | (have a6 := (in_c 5 rfl); unfold In at a6)); (first | have a7 := in_u i96 | (have a7 := i96; unfold In at a7)))); omega)
            have n119c : ((sF (sF sc26 46 5 z96) 46 3 (Int32.ofInt 5)).2.2.1 46 2).toInt ≤ ((sF (sF sc26 46 5 z96) 46 3 (Int32.ofInt 5)).2.2.1 46 1).toInt := by have b0 : w26_46_2 = (sF (sF sc26 46 5 z96) 46 3 (Int32.ofInt 5)).2.2.1 46 2 := sF_ne rfl (sF_ne rfl (v26_46_2)); have b1 : u_46_1 = (sF (sF sc26 46 5 z96) 46 3 (Int32.ofInt 5)).2.2.1 46 1 := sF_ne rfl (sF_ne rfl (fr_F e_46_1 hFc26 rfl)); rw [← b0, ← b1]; exact n119b
            have n119d : (u_46_2).toInt + 1 ≤ (w26_46_2).toInt := by (first | have a0 := oa8 h2 i91 ro_46_1 ((inv_F hIc26 0 1000 rfl v26_46_2)) j26_4 i108 ((in_c 5 rfl)) i96 | ((first | have a0 := in_u h2 | (have a0 := h2; unfold In at a0)); (first | have a1 := in_u i91 | (have a1 := i91; unfold In at a1)); (first | have a2 := in_u ro_46_1 | (have a2 := ro_46_1; unfold In at a2)); (first | have a3 := in_u ((inv_F hIc26 0 1000 rfl v26_46_2)) | (have a3 := (inv_F hIc26 0 1000 rfl v26_46_2); unfold In at a3)); (first | have a4 := in_u j26_4 | (have a4 := j26_4; unfold In at a4)); (first | have a5 := in_u i108 | (have a5 := i108; unfold In at a5)); (first | have a6 := in_u ((in_c 5 rfl)) | (have a6 := (in_c 5 rfl); unfold In at a6)); (first | have a7 := in_u i96 | (have a7 := i96; unfold In at a7)))); omega
            have n119e : (s.2.2.1 46 2).toInt + 1 ≤ ((sF (sF sc26 46 5 z96) 46 3 (Int32.ofInt 5)).2.2.1 46 2).toInt := by have b0 : w26_46_2 = (sF (sF sc26 46 5 z96) 46 3 (Int32.ofInt 5)).2.2.1 46 2 := sF_ne rfl (sF_ne rfl (v26_46_2)); first | (rw [← b0, ← e_46_2]; exact n119d) | (rw [← b0]; exact n119d)
            exact g_return (gd rfl) rfl (hP _ _ ⟨(sF (sF sc26 46 5 z96) 46 3 (Int32.ofInt 5)), hI116, (fr_sF rfl (fr_sF rfl hFc26)), n119c, n119e, rfl, rfl, n119, n119a⟩)
      · skip
        have i34 := r_lt1 0 999 c34 (inv_F hIc26 0 1000 rfl v26_46_2) ro_46_1 rfl
        have i34a := r_lt2 1 1000 c34 (inv_F hIc26 0 1000 rfl v26_46_2) ro_46_1 rfl
        refine g_aload_n 38 (gd rfl) rfl rfl ?_
        refine g_aload_n 39 (gd rfl) rfl rfl ?_
        refine g_getI 42 (gd rfl) rfl rfl rfl (fun z39 e39 => ?_)
        have q39 : w26_46_2 = z39 := (v26_46_2).trans e39.symm
        subst q39
        refine g_callv (X := _) (As := [.int w26_46_2]) (r := []) (b := A 46) (q := 46) 45 (gd rfl) rfl rfl rfl rfl rfl (ww_o rfl) (Nat.le_of_ble_eq_true rfl) (mc := 0) (ms := 0) (Nat.zero_le _) (Nat.zero_le _) (P := fun v u => _) ?_ (fun e u h => h) (fun v u h => h)
        intro po42 xx42 hp42 hx42
        refine g_enter2 (k := 172) (N := 300) (by first | exact dq1 hd rfl | exact dq0 hd rfl | exact dq2 hd rfl | exact dq3 hd rfl | omega) rfl (Nat.le_of_ble_eq_true rfl) ?_
        refine g_iload_n 1 (gd rfl) rfl rfl ?_
        refine g_aload_n 2 (gd rfl) rfl rfl ?_
        refine g_getI 5 (gd rfl) rfl rfl rfl (fun z42x2 e42x2 => ?_)
        have q42x2 : u_46_1 = z42x2 := (fr_F e_46_1 hFc26 rfl).trans e42x2.symm
        subst q42x2
        refine g_cmp_ge 8 34 (gd rfl) rfl rfl (fun c42x5 => ?_) (fun c42x5 => ?_)
        · skip
          have i42x5 := r_le1 1 999 c42x5 i34a i34 rfl
          have i42x5a := r_le2 1 999 c42x5 i34a i34 rfl
          refine g_iconst 0 35 (gd rfl) rfl rfl ?_
          refine g_ireturn (gd rfl) rfl (nb01 (in_w 0 1 (in_c 0 rfl) rfl)) (hp42 _ _ ?_)
          show GG _ _ _ _ _ _ _ _ [.int (Int32.ofInt 0)] _ _ _
          refine g_if_eq 48 89 (gd rfl) rfl rfl (fun c45 => ?_) (fun c45 => ?_)
          · skip
            have hq89 : (u_46_2).toInt + 1 ≤ (w26_46_2).toInt := (by (first | have a0 := oa6 h2 h1 i42x5 i42x5a j26_4 j26_3 | ((first | have a0 := in_u h2 | (have a0 := h2; unfold In at a0)); (first | have a1 := in_u h1 | (have a1 := h1; unfold In at a1)); (first | have a2 := in_u i42x5 | (have a2 := i42x5; unfold In at a2)); (first | have a3 := in_u i42x5a | (have a3 := i42x5a; unfold In at a3)); (first | have a4 := in_u j26_4 | (have a4 := j26_4; unfold In at a4)); (first | have a5 := in_u j26_3 | (have a5 := j26_3; unfold In at a5)))); omega)
            refine g_aload_n 90 (gd rfl) rfl rfl ?_
            refine g_iload_n 91 (gd rfl) rfl rfl ?_
            refine g_if_eq 94 100 (gd rfl) rfl rfl (fun c91 => ?_) (fun c91 => ?_)
            · skip
              have i91 := z_eq 0 0 c91 h1 rfl
              refine g_iload 102 (gd rfl) rfl rfl ?_
              refine g_putI 105 (gd rfl) rfl rfl rfl rfl ?_
              have hI102 := inv_sF (q := 46) (j := 5) hIc26 rfl (in_w (-2147483648) 2147483647 j26_4 rfl)
              refine g_aload_n 106 (gd rfl) rfl rfl ?_
              refine g_iload_n 107 (gd rfl) rfl rfl ?_
              refine g_iload_n 108 (gd rfl) rfl rfl ?_
              refine g_cmp_le 111 115 (gd rfl) rfl rfl (fun c108 => ?_) (fun c108 => ?_)
              · skip
                have i108 := r_le1 0 7 c108 j26_3 h2 rfl
                refine g_iconst 2 116 (gd rfl) rfl rfl ?_
                refine g_putI 119 (gd rfl) rfl rfl rfl rfl ?_
                have hI116 := inv_sF (q := 46) (j := 3) hI102 rfl (in_w 0 5 (in_c 2 rfl) rfl)
                have n119 : ((sF (sF sc26 46 5 y26_4) 46 3 (Int32.ofInt 2)).2.2.1 46 3).toInt ≠ 1 := by rw [← (show (Int32.ofInt 2) = (sF (sF sc26 46 5 y26_4) 46 3 (Int32.ofInt 2)).2.2.1 46 3 from sF_get)]; decide
                have n119a : (x2).toInt = 6 → ((sF (sF sc26 46 5 y26_4) 46 3 (Int32.ofInt 2)).2.2.1 46 3).toInt = 2 → ((sF (sF sc26 46 5 y26_4) 46 3 (Int32.ofInt 2)).2.2.1 46 5).toInt ≤ 999999 := by intro h6 h2; rw [← (show (Int32.ofInt 2) = (sF (sF sc26 46 5 y26_4) 46 3 (Int32.ofInt 2)).2.2.1 46 3 from sF_get)] at h2; rw [← (show y26_4 = (sF (sF sc26 46 5 y26_4) 46 3 (Int32.ofInt 2)).2.2.1 46 5 from sF_ne rfl (sF_get))]; first | (exfalso; revert h2; decide) | exact dg_6 (by have a0 := h2; unfold In at a0; (first | have a1 := oa6 i91 i42x5 i42x5a j26_4 i108 ((in_c 2 rfl)) | ((first | have a1 := in_u i91 | (have a1 := i91; unfold In at a1)); (first | have a2 := in_u i42x5 | (have a2 := i42x5; unfold In at a2)); (first | have a3 := in_u i42x5a | (have a3 := i42x5a; unfold In at a3)); (first | have a4 := in_u j26_4 | (have a4 := j26_4; unfold In at a4)); (first | have a5 := in_u i108 | (have a5 := i108; unfold In at a5)); (first | have a6 := in_u ((in_c 2 rfl)) | (have a6 := (in_c 2 rfl); unfold In at a6)))); omega) (by have a0 := h2; unfold In at a0; (first | have a1 := oa6 i91 i42x5 i42x5a j26_4 i108 ((in_c 2 rfl)) | ((first | have a1 := in_u i91 | (have a1 := i91; unfold In at a1)); (first | have a2 := in_u i42x5 | (have a2 := i42x5; unfold In at a2)); (first | have a3 := in_u i42x5a | (have a3 := i42x5a; unfold In at a3)); (first | have a4 := in_u j26_4 | (have a4 := j26_4; unfold In at a4)); (first | have a5 := in_u i108 | (have a5 := i108; unfold In at a5)); (first | have a6 := in_u ((in_c 2 rfl)) | (have a6 := (in_c 2 rfl); unfold In at a6)))); omega) (g26_0.2.1 (by have a0 := h2; unfold In at a0; (first | have a1 := oa6 i91 i42x5 i42x5a j26_4 i108 ((in_c 2 rfl)) | ((first | have a1 := in_u i91 | (have a1 := i91; unfold In at a1)); (first | have a2 := in_u i42x5 | (have a2 := i42x5; unfold In at a2)); (first | have a3 := in_u i42x5a | (have a3 := i42x5a; unfold In at a3)); (first | have a4 := in_u j26_4 | (have a4 := j26_4; unfold In at a4)); (first | have a5 := in_u i108 | (have a5 := i108; unfold In at a5)); (first | have a6 := in_u ((in_c 2 rfl)) | (have a6 := (in_c 2 rfl); unfold In at a6)))); omega))
                have n119b : (w26_46_2).toInt ≤ (u_46_1).toInt := by first | exact n26_0 | ((first | have a0 := oa7 h2 i91 i42x5 i42x5a j26_4 i108 ((in_c 2 rfl)) | ((first | have a0 := in_u h2 | (have a0 := h2; unfold In at a0)); (first | have a1 := in_u i91 | (have a1 := i91; unfold In at a1)); (first | have a2 := in_u i42x5 | (have a2 := i42x5; unfold In at a2)); (first | have a3 := in_u i42x5a | (have a3 := i42x5a; unfold In at a3)); (first | have a4 := in_u j26_4 | (have a4 := j26_4; unfold In at a4)); (first | have a5 := in_u i108 | (have a5 := i108; unfold In at a5)); (first | have a6 := in_u ((in_c 2 rfl)) | (have a6 := (in_c 2 rfl); unfold In at a6)))); omega)
                have n119c : ((sF (sF sc26 46 5 y26_4) 46 3 (Int32.ofInt 2)).2.2.1 46 2).toInt ≤ ((sF (sF sc26 46 5 y26_4) 46 3 (Int32.ofInt 2)).2.2.1 46 1).toInt := by have b0 : w26_46_2 = (sF (sF sc26 46 5 y26_4) 46 3 (Int32.ofInt 2)).2.2.1 46 2 := sF_ne rfl (sF_ne rfl (v26_46_2)); have b1 : u_46_1 = (sF (sF sc26 46 5 y26_4) 46 3 (Int32.ofInt 2)).2.2.1 46 1 := sF_ne rfl (sF_ne rfl (fr_F e_46_1 hFc26 rfl)); rw [← b0, ← b1]; exact n119b
                have n119d : (u_46_2).toInt + 1 ≤ (w26_46_2).toInt := by (first | have a0 := oa7 h2 i91 i42x5 i42x5a j26_4 i108 ((in_c 2 rfl)) | ((first | have a0 := in_u h2 | (have a0 := h2; unfold In at a0)); (first | have a1 := in_u i91 | (have a1 := i91; unfold In at a1)); (first | have a2 := in_u i42x5 | (have a2 := i42x5; unfold In at a2)); (first | have a3 := in_u i42x5a | (have a3 := i42x5a; unfold In at a3)); (first | have a4 := in_u j26_4 | (have a4 := j26_4; unfold In at a4)); (first | have a5 := in_u i108 | (have a5 := i108; unfold In at a5)); (first | have a6 := in_u ((in_c 2 rfl)) | (have a6 := (in_c 2 rfl); unfold In at a6)))); omega
                have n119e : (s.2.2.1 46 2).toInt + 1 ≤ ((sF (sF sc26 46 5 y26_4) 46 3 (Int32.ofInt 2)).2.2.1 46 2).toInt := by have b0 : w26_46_2 = (sF (sF sc26 46 5 y26_4) 46 3 (Int32.ofInt 2)).2.2.1 46 2 := sF_ne rfl (sF_ne rfl (v26_46_2)); first | (rw [← b0, ← e_46_2]; exact n119d) | (rw [← b0]; exact n119d)
                exact g_return (gd rfl) rfl (hP _ _ ⟨(sF (sF sc26 46 5 y26_4) 46 3 (Int32.ofInt 2)), hI116, (fr_sF rfl (fr_sF rfl hFc26)), n119c, n119e, rfl, rfl, n119, n119a⟩)
              · skip
                have i108 := r_lt2 7 1000 c108 h2 j26_3 rfl
                refine g_iconst 5 112 (gd rfl) rfl rfl ?_
                refine g_goto 116 (gd rfl) rfl ?_
                refine g_putI 119 (gd rfl) rfl rfl rfl rfl ?_
                have hI116 := inv_sF (q := 46) (j := 3) hI102 rfl (in_w 0 5 (in_c 5 rfl) rfl)
                have n119 : ((sF (sF sc26 46 5 y26_4) 46 3 (Int32.ofInt 5)).2.2.1 46 3).toInt ≠ 1 := by rw [← (show (Int32.ofInt 5) = (sF (sF sc26 46 5 y26_4) 46 3 (Int32.ofInt 5)).2.2.1 46 3 from sF_get)]; decide
                have n119a : (x2).toInt = 6 → ((sF (sF sc26 46 5 y26_4) 46 3 (Int32.ofInt 5)).2.2.1 46 3).toInt = 2 → ((sF (sF sc26 46 5 y26_4) 46 3 (Int32.ofInt 5)).2.2.1 46 5).toInt ≤ 999999 := by intro h6 h2; rw [← (show (Int32.ofInt 5) = (sF (sF sc26 46 5 y26_4) 46 3 (Int32.ofInt 5)).2.2.1 46 3 from sF_get)] at h2; rw [← (show y26_4 = (sF (sF sc26 46 5 y26_4) 46 3 (Int32.ofInt 5)).2.2.1 46 5 from sF_ne rfl (sF_get))]; first | (exfalso; revert h2; decide) | exact dg_6 (by have a0 := h2; unfold In at a0; (first | have a1 := oa6 i91 i42x5 i42x5a j26_4 i108 ((in_c 5 rfl)) | ((first | have a1 := in_u i91 | (have a1 := i91; unfold In at a1)); (first | have a2 := in_u i42x5 | (have a2 := i42x5; unfold In at a2)); (first | have a3 := in_u i42x5a | (have a3 := i42x5a; unfold In at a3)); (first | have a4 := in_u j26_4 | (have a4 := j26_4; unfold In at a4)); (first | have a5 := in_u i108 | (have a5 := i108; unfold In at a5)); (first | have a6 := in_u ((in_c 5 rfl)) | (have a6 := (in_c 5 rfl); unfold In at a6)))); omega) (by have a0 := h2; unfold In at a0; (first | have a1 := oa6 i91 i42x5 i42x5a j26_4 i108 ((in_c 5 rfl)) | ((first | have a1 := in_u i91 | (have a1 := i91; unfold In at a1)); (first | have a2 := in_u i42x5 | (have a2 := i42x5; unfold In at a2)); (first | have a3 := in_u i42x5a | (have a3 := i42x5a; unfold In at a3)); (first | have a4 := in_u j26_4 | (have a4 := j26_4; unfold In at a4)); (first | have a5 := in_u i108 | (have a5 := i108; unfold In at a5)); (first | have a6 := in_u ((in_c 5 rfl)) | (have a6 := (in_c 5 rfl); unfold In at a6)))); omega) (g26_0.2.1 (by have a0 := h2; unfold In at a0; (first | have a1 := oa6 i91 i42x5 i42x5a j26_4 i108 ((in_c 5 rfl)) | ((first | have a1 := in_u i91 | (have a1 := i91; unfold In at a1)); (first | have a2 := in_u i42x5 | (have a2 := i42x5; unfold In at a2)); (first | have a3 := in_u i42x5a | (have a3 := i42x5a; unfold In at a3)); (first | have a4 := in_u j26_4 | (have a4 := j26_4; unfold In at a4)); (first | have a5 := in_u i108 | (have a5 := i108; unfold In at a5)); (first | have a6 := in_u ((in_c 5 rfl)) | (have a6 := (in_c 5 rfl); unfold In at a6)))); omega))
                have n119b : (w26_46_2).toInt ≤ (u_46_1).toInt := by first | exact n26_0 | ((first | have a0 := oa7 h2 i91 i42x5 i42x5a j26_4 i108 ((in_c 5 rfl)) | ((first | have a0 := in_u h2 | (have a0 := h2; unfold In at a0)); (first | have a1 := in_u i91 | (have a1 := i91; unfold In at a1)); (first | have a2 := in_u i42x5 | (have a2 := i42x5; unfold In at a2)); (first | have a3 := in_u i42x5a | (have a3 := i42x5a; unfold In at a3)); (first | have a4 := in_u j26_4 | (have a4 := j26_4; unfold In at a4)); (first | have a5 := in_u i108 | (have a5 := i108; unfold In at a5)); (first | have a6 := in_u ((in_c 5 rfl)) | (have a6 := (in_c 5 rfl); unfold In at a6)))); omega)
                have n119c : ((sF (sF sc26 46 5 y26_4) 46 3 (Int32.ofInt 5)).2.2.1 46 2).toInt ≤ ((sF (sF sc26 46 5 y26_4) 46 3 (Int32.ofInt 5)).2.2.1 46 1).toInt := by have b0 : w26_46_2 = (sF (sF sc26 46 5 y26_4) 46 3 (Int32.ofInt 5)).2.2.1 46 2 := sF_ne rfl (sF_ne rfl (v26_46_2)); have b1 : u_46_1 = (sF (sF sc26 46 5 y26_4) 46 3 (Int32.ofInt 5)).2.2.1 46 1 := sF_ne rfl (sF_ne rfl (fr_F e_46_1 hFc26 rfl)); rw [← b0, ← b1]; exact n119b
                have n119d : (u_46_2).toInt + 1 ≤ (w26_46_2).toInt := by (first | have a0 := oa7 h2 i91 i42x5 i42x5a j26_4 i108 ((in_c 5 rfl)) | ((first | have a0 := in_u h2 | (have a0 := h2; unfold In at a0)); (first | have a1 := in_u i91 | (have a1 := i91; unfold In at a1)); (first | have a2 := in_u i42x5 | (have a2 := i42x5; unfold In at a2)); (first | have a3 := in_u i42x5a | (have a3 := i42x5a; unfold In at a3)); (first | have a4 := in_u j26_4 | (have a4 := j26_4; unfold In at a4)); (first | have a5 := in_u i108 | (have a5 := i108; unfold In at a5)); (first | have a6 := in_u ((in_c 5 rfl)) | (have a6 := (in_c 5 rfl); unfold In at a6)))); omega
                have n119e : (s.2.2.1 46 2).toInt + 1 ≤ ((sF (sF sc26 46 5 y26_4) 46 3 (Int32.ofInt 5)).2.2.1 46 2).toInt := by have b0 : w26_46_2 = (sF (sF sc26 46 5 y26_4) 46 3 (Int32.ofInt 5)).2.2.1 46 2 := sF_ne rfl (sF_ne rfl (v26_46_2)); first | (rw [← b0, ← e_46_2]; exact n119d) | (rw [← b0]; exact n119d)
                exact g_return (gd rfl) rfl (hP _ _ ⟨(sF (sF sc26 46 5 y26_4) 46 3 (Int32.ofInt 5)), hI116, (fr_sF rfl (fr_sF rfl hFc26)), n119c, n119e, rfl, rfl, n119, n119a⟩)
            · skip
              have i91 := z_ne 1 1 c91 h1 rfl
              refine g_iload 96 (gd rfl) rfl rfl ?_
              refine g_ineg 97 (gd rfl) rfl (fun z96 e96 => ?_)
              have i96 := in_neg (-9999999) 0 e96 j26_4 rfl
              refine g_goto 102 (gd rfl) rfl ?_
              refine g_putI 105 (gd rfl) rfl rfl rfl rfl ?_
              have hI102 := inv_sF (q := 46) (j := 5) hIc26 rfl (in_w (-2147483648) 2147483647 i96 rfl)
              refine g_aload_n 106 (gd rfl) rfl rfl ?_
              refine g_iload_n 107 (gd rfl) rfl rfl ?_
              refine g_iload_n 108 (gd rfl) rfl rfl ?_
              refine g_cmp_le 111 115 (gd rfl) rfl rfl (fun c108 => ?_) (fun c108 => ?_)
              · skip
                have i108 := r_le1 0 7 c108 j26_3 h2 rfl
                refine g_iconst 2 116 (gd rfl) rfl rfl ?_
                refine g_putI 119 (gd rfl) rfl rfl rfl rfl ?_
                have hI116 := inv_sF (q := 46) (j := 3) hI102 rfl (in_w 0 5 (in_c 2 rfl) rfl)
                have n119 : ((sF (sF sc26 46 5 z96) 46 3 (Int32.ofInt 2)).2.2.1 46 3).toInt ≠ 1 := by rw [← (show (Int32.ofInt 2) = (sF (sF sc26 46 5 z96) 46 3 (Int32.ofInt 2)).2.2.1 46 3 from sF_get)]; decide
                have n119a : (x2).toInt = 6 → ((sF (sF sc26 46 5 z96) 46 3 (Int32.ofInt 2)).2.2.1 46 3).toInt = 2 → ((sF (sF sc26 46 5 z96) 46 3 (Int32.ofInt 2)).2.2.1 46 5).toInt ≤ 999999 := by intro h6 h2; rw [← (show (Int32.ofInt 2) = (sF (sF sc26 46 5 z96) 46 3 (Int32.ofInt 2)).2.2.1 46 3 from sF_get)] at h2; rw [← (show z96 = (sF (sF sc26 46 5 z96) 46 3 (Int32.ofInt 2)).2.2.1 46 5 from sF_ne rfl (sF_get))]; first | (exfalso; revert h2; decide) | (have a0 := h2; unfold In at a0; (first | have a1 := oa7 i91 i42x5 i42x5a j26_4 i108 ((in_c 2 rfl)) i96 | ((first | have a1 := in_u i91 | (have a1 := i91; unfold In at a1)); (first | have a2 := in_u i42x5 | (have a2 := i42x5; unfold In at a2)); (first | have a3 := in_u i42x5a | (have a3 := i42x5a; unfold In at a3)); (first | have a4 := in_u j26_4 | (have a4 := j26_4; unfold In at a4)); (first | have a5 := in_u i108 | (have a5 := i108; unfold In at a5)); (first | have a6 := in_u ((in_c 2 rfl)) | (have a6 := (in_c 2 rfl); unfold In at a6)); (first | have a7 := in_u i96 | (have a7 := i96; unfold In at a7)))); omega)
                have n119b : (w26_46_2).toInt ≤ (u_46_1).toInt := by first | exact n26_0 | ((first | have a0 := oa8 h2 i91 i42x5 i42x5a j26_4 i108 ((in_c 2 rfl)) i96 | ((first | have a0 := in_u h2 | (have a0 := h2; unfold In at a0)); (first | have a1 := in_u i91 | (have a1 := i91; unfold In at a1)); (first | have a2 := in_u i42x5 | (have a2 := i42x5; unfold In at a2)); (first | have a3 := in_u i42x5a | (have a3 := i42x5a; unfold In at a3)); (first | have a4 := in_u j26_4 | (have a4 := j26_4; unfold In at a4)); (first | have a5 := in_u i108 | (have a5 := i108; unfold In at a5)); (first | have a6 := in_u ((in_c 2 rfl)) | (have a6 := (in_c 2 rfl); unfold In at a6)); (first | have a7 := in_u i96 | (have a7 := i96; unfold In at a7)))); omega)
                have n119c : ((sF (sF sc26 46 5 z96) 46 3 (Int32.ofInt 2)).2.2.1 46 2).toInt ≤ ((sF (sF sc26 46 5 z96) 46 3 (Int32.ofInt 2)).2.2.1 46 1).toInt := by have b0 : w26_46_2 = (sF (sF sc26 46 5 z96) 46 3 (Int32.ofInt 2)).2.2.1 46 2 := sF_ne rfl (sF_ne rfl (v26_46_2)); have b1 : u_46_1 = (sF (sF sc26 46 5 z96) 46 3 (Int32.ofInt 2)).2.2.1 46 1 := sF_ne rfl (sF_ne rfl (fr_F e_46_1 hFc26 rfl)); rw [← b0, ← b1]; exact n119b
                have n119d : (u_46_2).toInt + 1 ≤ (w26_46_2).toInt := by (first | have a0 := oa8 h2 i91 i42x5 i42x5a j26_4 i108 ((in_c 2 rfl)) i96 | ((first | have a0 := in_u h2 | (have a0 := h2; unfold In at a0)); (first | have a1 := in_u i91 | (have a1 := i91; unfold In at a1)); (first | have a2 := in_u i42x5 | (have a2 := i42x5; unfold In at a2)); (first | have a3 := in_u i42x5a | (have a3 := i42x5a; unfold In at a3)); (first | have a4 := in_u j26_4 | (have a4 := j26_4; unfold In at a4)); (first | have a5 := in_u i108 | (have a5 := i108; unfold In at a5)); (first | have a6 := in_u ((in_c 2 rfl)) | (have a6 := (in_c 2 rfl); unfold In at a6)); (first | have a7 := in_u i96 | (have a7 := i96; unfold In at a7)))); omega
                have n119e : (s.2.2.1 46 2).toInt + 1 ≤ ((sF (sF sc26 46 5 z96) 46 3 (Int32.ofInt 2)).2.2.1 46 2).toInt := by have b0 : w26_46_2 = (sF (sF sc26 46 5 z96) 46 3 (Int32.ofInt 2)).2.2.1 46 2 := sF_ne rfl (sF_ne rfl (v26_46_2)); first | (rw [← b0, ← e_46_2]; exact n119d) | (rw [← b0]; exact n119d)
                exact g_return (gd rfl) rfl (hP _ _ ⟨(sF (sF sc26 46 5 z96) 46 3 (Int32.ofInt 2)), hI116, (fr_sF rfl (fr_sF rfl hFc26)), n119c, n119e, rfl, rfl, n119, n119a⟩)
              · skip
                have i108 := r_lt2 7 1000 c108 h2 j26_3 rfl
                refine g_iconst 5 112 (gd rfl) rfl rfl ?_
                refine g_goto 116 (gd rfl) rfl ?_
                refine g_putI 119 (gd rfl) rfl rfl rfl rfl ?_
                have hI116 := inv_sF (q := 46) (j := 3) hI102 rfl (in_w 0 5 (in_c 5 rfl) rfl)
                have n119 : ((sF (sF sc26 46 5 z96) 46 3 (Int32.ofInt 5)).2.2.1 46 3).toInt ≠ 1 := by rw [← (show (Int32.ofInt 5) = (sF (sF sc26 46 5 z96) 46 3 (Int32.ofInt 5)).2.2.1 46 3 from sF_get)]; decide
                have n119a : (x2).toInt = 6 → ((sF (sF sc26 46 5 z96) 46 3 (Int32.ofInt 5)).2.2.1 46 3).toInt = 2 → ((sF (sF sc26 46 5 z96) 46 3 (Int32.ofInt 5)).2.2.1 46 5).toInt ≤ 999999 := by intro h6 h2; rw [← (show (Int32.ofInt 5) = (sF (sF sc26 46 5 z96) 46 3 (Int32.ofInt 5)).2.2.1 46 3 from sF_get)] at h2; rw [← (show z96 = (sF (sF sc26 46 5 z96) 46 3 (Int32.ofInt 5)).2.2.1 46 5 from sF_ne rfl (sF_get))]; first | (exfalso; revert h2; decide) | (have a0 := h2; unfold In at a0; (first | have a1 := oa7 i91 i42x5 i42x5a j26_4 i108 ((in_c 5 rfl)) i96 | ((first | have a1 := in_u i91 | (have a1 := i91; unfold In at a1)); (first | have a2 := in_u i42x5 | (have a2 := i42x5; unfold In at a2)); (first | have a3 := in_u i42x5a | (have a3 := i42x5a; unfold In at a3)); (first | have a4 := in_u j26_4 | (have a4 := j26_4; unfold In at a4)); (first | have a5 := in_u i108 | (have a5 := i108; unfold In at a5)); (first | have a6 := in_u ((in_c 5 rfl)) | (have a6 := (in_c 5 rfl); unfold In at a6)); (first | have a7 := in_u i96 | (have a7 := i96; unfold In at a7)))); omega)
                have n119b : (w26_46_2).toInt ≤ (u_46_1).toInt := by first | exact n26_0 | ((first | have a0 := oa8 h2 i91 i42x5 i42x5a j26_4 i108 ((in_c 5 rfl)) i96 | ((first | have a0 := in_u h2 | (have a0 := h2; unfold In at a0)); (first | have a1 := in_u i91 | (have a1 := i91; unfold In at a1)); (first | have a2 := in_u i42x5 | (have a2 := i42x5; unfold In at a2)); (first | have a3 := in_u i42x5a | (have a3 := i42x5a; unfold In at a3)); (first | have a4 := in_u j26_4 | (have a4 := j26_4; unfold In at a4)); (first | have a5 := in_u i108 | (have a5 := i108; unfold In at a5)); (first | have a6 := in_u ((in_c 5 rfl)) | (have a6 := (in_c 5 rfl); unfold In at a6)); (first | have a7 := in_u i96 | (have a7 := i96; unfold In at a7)))); omega)
                have n119c : ((sF (sF sc26 46 5 z96) 46 3 (Int32.ofInt 5)).2.2.1 46 2).toInt ≤ ((sF (sF sc26 46 5 z96) 46 3 (Int32.ofInt 5)).2.2.1 46 1).toInt := by have b0 : w26_46_2 = (sF (sF sc26 46 5 z96) 46 3 (Int32.ofInt 5)).2.2.1 46 2 := sF_ne rfl (sF_ne rfl (v26_46_2)); have b1 : u_46_1 = (sF (sF sc26 46 5 z96) 46 3 (Int32.ofInt 5)).2.2.1 46 1 := sF_ne rfl (sF_ne rfl (fr_F e_46_1 hFc26 rfl)); rw [← b0, ← b1]; exact n119b
                have n119d : (u_46_2).toInt + 1 ≤ (w26_46_2).toInt := by (first | have a0 := oa8 h2 i91 i42x5 i42x5a j26_4 i108 ((in_c 5 rfl)) i96 | ((first | have a0 := in_u h2 | (have a0 := h2; unfold In at a0)); (first | have a1 := in_u i91 | (have a1 := i91; unfold In at a1)); (first | have a2 := in_u i42x5 | (have a2 := i42x5; unfold In at a2)); (first | have a3 := in_u i42x5a | (have a3 := i42x5a; unfold In at a3)); (first | have a4 := in_u j26_4 | (have a4 := j26_4; unfold In at a4)); (first | have a5 := in_u i108 | (have a5 := i108; unfold In at a5)); (first | have a6 := in_u ((in_c 5 rfl)) | (have a6 := (in_c 5 rfl); unfold In at a6)); (first | have a7 := in_u i96 | (have a7 := i96; unfold In at a7)))); omega
                have n119e : (s.2.2.1 46 2).toInt + 1 ≤ ((sF (sF sc26 46 5 z96) 46 3 (Int32.ofInt 5)).2.2.1 46 2).toInt := by have b0 : w26_46_2 = (sF (sF sc26 46 5 z96) 46 3 (Int32.ofInt 5)).2.2.1 46 2 := sF_ne rfl (sF_ne rfl (v26_46_2)); first | (rw [← b0, ← e_46_2]; exact n119d) | (rw [← b0]; exact n119d)
                exact g_return (gd rfl) rfl (hP _ _ ⟨(sF (sF sc26 46 5 z96) 46 3 (Int32.ofInt 5)), hI116, (fr_sF rfl (fr_sF rfl hFc26)), n119c, n119e, rfl, rfl, n119, n119a⟩)
          · skip
            exact zn_ne c45 (in_c 0 rfl) rfl
        · skip
          refine g_aload_n 9 (gd rfl) rfl rfl ?_
          refine g_getA (q2 := 47) 12 (gd rfl) rfl rfl rfl rfl ?_
          refine g_iload_n 13 (gd rfl) rfl rfl ?_
          refine g_caload 14 (gd rfl) rfl (n := 1000) rfl (in_ix i34 rfl) (fun z42x13 e42x13 => ?_)
          have i42x13 := inv_I hIc26 (n := 1000) (t := 2) 0 65535 rfl (in_ix i34 rfl) rfl e42x13
          refine g_bipush 48 16 (gd rfl) rfl rfl ?_
          refine g_cmp_lt 19 34 (gd rfl) rfl rfl (fun c42x16 => ?_) (fun c42x16 => ?_)
          · skip
            have i42x16 := r_lt1 0 47 c42x16 i42x13 (in_c 48 rfl) rfl
            refine g_iconst 0 35 (gd rfl) rfl rfl ?_
            refine g_ireturn (gd rfl) rfl (nb01 (in_w 0 1 (in_c 0 rfl) rfl)) (hp42 _ _ ?_)
            show GG _ _ _ _ _ _ _ _ [.int (Int32.ofInt 0)] _ _ _
            refine g_if_eq 48 89 (gd rfl) rfl rfl (fun c45 => ?_) (fun c45 => ?_)
            · skip
              have hq89 : (u_46_2).toInt + 1 ≤ (w26_46_2).toInt := (by have c48 : (Int32.ofInt 48).toInt = 48 := (by decide); have c57 : (Int32.ofInt 57).toInt = 57 := (by decide); have hd : w26_46_2.toInt = u_46_2.toInt + x1.toInt → 48 ≤ (z42x13).toInt ∧ (z42x13).toInt ≤ 57 := (fun h => by have e0 : (w26_46_2).toNatClampNeg = ((s.2.2.1 46 2).toInt + x1.toInt).toNat := (by rw [← e_46_2]; show (w26_46_2).toInt.toNat = _; omega); rw [e42x13, e0, hFc26.1 47 rfl]; exact q_0); (first | have a0 := oa6 h2 h1 i34a i34 j26_4 j26_3 | ((first | have a0 := in_u h2 | (have a0 := h2; unfold In at a0)); (first | have a1 := in_u h1 | (have a1 := h1; unfold In at a1)); (first | have a2 := in_u i34a | (have a2 := i34a; unfold In at a2)); (first | have a3 := in_u i34 | (have a3 := i34; unfold In at a3)); (first | have a4 := in_u j26_4 | (have a4 := j26_4; unfold In at a4)); (first | have a5 := in_u j26_3 | (have a5 := j26_3; unfold In at a5)))); omega)
              refine g_aload_n 90 (gd rfl) rfl rfl ?_
              refine g_iload_n 91 (gd rfl) rfl rfl ?_
              refine g_if_eq 94 100 (gd rfl) rfl rfl (fun c91 => ?_) (fun c91 => ?_)
              · skip
                have i91 := z_eq 0 0 c91 h1 rfl
                refine g_iload 102 (gd rfl) rfl rfl ?_
                refine g_putI 105 (gd rfl) rfl rfl rfl rfl ?_
                have hI102 := inv_sF (q := 46) (j := 5) hIc26 rfl (in_w (-2147483648) 2147483647 j26_4 rfl)
                refine g_aload_n 106 (gd rfl) rfl rfl ?_
                refine g_iload_n 107 (gd rfl) rfl rfl ?_
                refine g_iload_n 108 (gd rfl) rfl rfl ?_
                refine g_cmp_le 111 115 (gd rfl) rfl rfl (fun c108 => ?_) (fun c108 => ?_)
                · skip
                  have i108 := r_le1 0 7 c108 j26_3 h2 rfl
                  refine g_iconst 2 116 (gd rfl) rfl rfl ?_
                  refine g_putI 119 (gd rfl) rfl rfl rfl rfl ?_
                  have hI116 := inv_sF (q := 46) (j := 3) hI102 rfl (in_w 0 5 (in_c 2 rfl) rfl)
                  have n119 : ((sF (sF sc26 46 5 y26_4) 46 3 (Int32.ofInt 2)).2.2.1 46 3).toInt ≠ 1 := by rw [← (show (Int32.ofInt 2) = (sF (sF sc26 46 5 y26_4) 46 3 (Int32.ofInt 2)).2.2.1 46 3 from sF_get)]; decide
                  have n119a : (x2).toInt = 6 → ((sF (sF sc26 46 5 y26_4) 46 3 (Int32.ofInt 2)).2.2.1 46 3).toInt = 2 → ((sF (sF sc26 46 5 y26_4) 46 3 (Int32.ofInt 2)).2.2.1 46 5).toInt ≤ 999999 := by intro h6 h2; rw [← (show (Int32.ofInt 2) = (sF (sF sc26 46 5 y26_4) 46 3 (Int32.ofInt 2)).2.2.1 46 3 from sF_get)] at h2; rw [← (show y26_4 = (sF (sF sc26 46 5 y26_4) 46 3 (Int32.ofInt 2)).2.2.1 46 5 from sF_ne rfl (sF_get))]; first | (exfalso; revert h2; decide) | exact dg_6 (by have a0 := h2; unfold In at a0; (first | have a1 := oa6 i91 i34a i34 j26_4 i108 ((in_c 2 rfl)) | ((first | have a1 := in_u i91 | (have a1 := i91; unfold In at a1)); (first | have a2 := in_u i34a | (have a2 := i34a; unfold In at a2)); (first | have a3 := in_u i34 | (have a3 := i34; unfold In at a3)); (first | have a4 := in_u j26_4 | (have a4 := j26_4; unfold In at a4)); (first | have a5 := in_u i108 | (have a5 := i108; unfold In at a5)); (first | have a6 := in_u ((in_c 2 rfl)) | (have a6 := (in_c 2 rfl); unfold In at a6)))); omega) (by have a0 := h2; unfold In at a0; (first | have a1 := oa6 i91 i34a i34 j26_4 i108 ((in_c 2 rfl)) | ((first | have a1 := in_u i91 | (have a1 := i91; unfold In at a1)); (first | have a2 := in_u i34a | (have a2 := i34a; unfold In at a2)); (first | have a3 := in_u i34 | (have a3 := i34; unfold In at a3)); (first | have a4 := in_u j26_4 | (have a4 := j26_4; unfold In at a4)); (first | have a5 := in_u i108 | (have a5 := i108; unfold In at a5)); (first | have a6 := in_u ((in_c 2 rfl)) | (have a6 := (in_c 2 rfl); unfold In at a6)))); omega) (g26_0.2.1 (by have a0 := h2; unfold In at a0; (first | have a1 := oa6 i91 i34a i34 j26_4 i108 ((in_c 2 rfl)) | ((first | have a1 := in_u i91 | (have a1 := i91; unfold In at a1)); (first | have a2 := in_u i34a | (have a2 := i34a; unfold In at a2)); (first | have a3 := in_u i34 | (have a3 := i34; unfold In at a3)); (first | have a4 := in_u j26_4 | (have a4 := j26_4; unfold In at a4)); (first | have a5 := in_u i108 | (have a5 := i108; unfold In at a5)); (first | have a6 := in_u ((in_c 2 rfl)) | (have a6 := (in_c 2 rfl); unfold In at a6)))); omega))
                  have n119b : (w26_46_2).toInt ≤ (u_46_1).toInt := by first | exact n26_0 | ((first | have a0 := oa7 h2 i91 i34a i34 j26_4 i108 ((in_c 2 rfl)) | ((first | have a0 := in_u h2 | (have a0 := h2; unfold In at a0)); (first | have a1 := in_u i91 | (have a1 := i91; unfold In at a1)); (first | have a2 := in_u i34a | (have a2 := i34a; unfold In at a2)); (first | have a3 := in_u i34 | (have a3 := i34; unfold In at a3)); (first | have a4 := in_u j26_4 | (have a4 := j26_4; unfold In at a4)); (first | have a5 := in_u i108 | (have a5 := i108; unfold In at a5)); (first | have a6 := in_u ((in_c 2 rfl)) | (have a6 := (in_c 2 rfl); unfold In at a6)))); omega)
                  have n119c : ((sF (sF sc26 46 5 y26_4) 46 3 (Int32.ofInt 2)).2.2.1 46 2).toInt ≤ ((sF (sF sc26 46 5 y26_4) 46 3 (Int32.ofInt 2)).2.2.1 46 1).toInt := by have b0 : w26_46_2 = (sF (sF sc26 46 5 y26_4) 46 3 (Int32.ofInt 2)).2.2.1 46 2 := sF_ne rfl (sF_ne rfl (v26_46_2)); have b1 : u_46_1 = (sF (sF sc26 46 5 y26_4) 46 3 (Int32.ofInt 2)).2.2.1 46 1 := sF_ne rfl (sF_ne rfl (fr_F e_46_1 hFc26 rfl)); rw [← b0, ← b1]; exact n119b
                  have n119d : (u_46_2).toInt + 1 ≤ (w26_46_2).toInt := by (first | have a0 := oa7 h2 i91 i34a i34 j26_4 i108 ((in_c 2 rfl)) | ((first | have a0 := in_u h2 | (have a0 := h2; unfold In at a0)); (first | have a1 := in_u i91 | (have a1 := i91; unfold In at a1)); (first | have a2 := in_u i34a | (have a2 := i34a; unfold In at a2)); (first | have a3 := in_u i34 | (have a3 := i34; unfold In at a3)); (first | have a4 := in_u j26_4 | (have a4 := j26_4; unfold In at a4)); (first | have a5 := in_u i108 | (have a5 := i108; unfold In at a5)); (first | have a6 := in_u ((in_c 2 rfl)) | (have a6 := (in_c 2 rfl); unfold In at a6)))); omega
                  have n119e : (s.2.2.1 46 2).toInt + 1 ≤ ((sF (sF sc26 46 5 y26_4) 46 3 (Int32.ofInt 2)).2.2.1 46 2).toInt := by have b0 : w26_46_2 = (sF (sF sc26 46 5 y26_4) 46 3 (Int32.ofInt 2)).2.2.1 46 2 := sF_ne rfl (sF_ne rfl (v26_46_2)); first | (rw [← b0, ← e_46_2]; exact n119d) | (rw [← b0]; exact n119d)
                  exact g_return (gd rfl) rfl (hP _ _ ⟨(sF (sF sc26 46 5 y26_4) 46 3 (Int32.ofInt 2)), hI116, (fr_sF rfl (fr_sF rfl hFc26)), n119c, n119e, rfl, rfl, n119, n119a⟩)
                · skip
                  have i108 := r_lt2 7 1000 c108 h2 j26_3 rfl
                  refine g_iconst 5 112 (gd rfl) rfl rfl ?_
                  refine g_goto 116 (gd rfl) rfl ?_
                  refine g_putI 119 (gd rfl) rfl rfl rfl rfl ?_
                  have hI116 := inv_sF (q := 46) (j := 3) hI102 rfl (in_w 0 5 (in_c 5 rfl) rfl)
                  have n119 : ((sF (sF sc26 46 5 y26_4) 46 3 (Int32.ofInt 5)).2.2.1 46 3).toInt ≠ 1 := by rw [← (show (Int32.ofInt 5) = (sF (sF sc26 46 5 y26_4) 46 3 (Int32.ofInt 5)).2.2.1 46 3 from sF_get)]; decide
                  have n119a : (x2).toInt = 6 → ((sF (sF sc26 46 5 y26_4) 46 3 (Int32.ofInt 5)).2.2.1 46 3).toInt = 2 → ((sF (sF sc26 46 5 y26_4) 46 3 (Int32.ofInt 5)).2.2.1 46 5).toInt ≤ 999999 := by intro h6 h2; rw [← (show (Int32.ofInt 5) = (sF (sF sc26 46 5 y26_4) 46 3 (Int32.ofInt 5)).2.2.1 46 3 from sF_get)] at h2; rw [← (show y26_4 = (sF (sF sc26 46 5 y26_4) 46 3 (Int32.ofInt 5)).2.2.1 46 5 from sF_ne rfl (sF_get))]; first | (exfalso; revert h2; decide) | exact dg_6 (by have a0 := h2; unfold In at a0; (first | have a1 := oa6 i91 i34a i34 j26_4 i108 ((in_c 5 rfl)) | ((first | have a1 := in_u i91 | (have a1 := i91; unfold In at a1)); (first | have a2 := in_u i34a | (have a2 := i34a; unfold In at a2)); (first | have a3 := in_u i34 | (have a3 := i34; unfold In at a3)); (first | have a4 := in_u j26_4 | (have a4 := j26_4; unfold In at a4)); (first | have a5 := in_u i108 | (have a5 := i108; unfold In at a5)); (first | have a6 := in_u ((in_c 5 rfl)) | (have a6 := (in_c 5 rfl); unfold In at a6)))); omega) (by have a0 := h2; unfold In at a0; (first | have a1 := oa6 i91 i34a i34 j26_4 i108 ((in_c 5 rfl)) | ((first | have a1 := in_u i91 | (have a1 := i91; unfold In at a1)); (first | have a2 := in_u i34a | (have a2 := i34a; unfold In at a2)); (first | have a3 := in_u i34 | (have a3 := i34; unfold In at a3)); (first | have a4 := in_u j26_4 | (have a4 := j26_4; unfold In at a4)); (first | have a5 := in_u i108 | (have a5 := i108; unfold In at a5)); (first | have a6 := in_u ((in_c 5 rfl)) | (have a6 := (in_c 5 rfl); unfold In at a6)))); omega) (g26_0.2.1 (by have a0 := h2; unfold In at a0; (first | have a1 := oa6 i91 i34a i34 j26_4 i108 ((in_c 5 rfl)) | ((first | have a1 := in_u i91 | (have a1 := i91; unfold In at a1)); (first | have a2 := in_u i34a | (have a2 := i34a; unfold In at a2)); (first | have a3 := in_u i34 | (have a3 := i34; unfold In at a3)); (first | have a4 := in_u j26_4 | (have a4 := j26_4; unfold In at a4)); (first | have a5 := in_u i108 | (have a5 := i108; unfold In at a5)); (first | have a6 := in_u ((in_c 5 rfl)) | (have a6 := (in_c 5 rfl); unfold In at a6)))); omega))
                  have n119b : (w26_46_2).toInt ≤ (u_46_1).toInt := by first | exact n26_0 | ((first | have a0 := oa7 h2 i91 i34a i34 j26_4 i108 ((in_c 5 rfl)) | ((first | have a0 := in_u h2 | (have a0 := h2; unfold In at a0)); (first | have a1 := in_u i91 | (have a1 := i91; unfold In at a1)); (first | have a2 := in_u i34a | (have a2 := i34a; unfold In at a2)); (first | have a3 := in_u i34 | (have a3 := i34; unfold In at a3)); (first | have a4 := in_u j26_4 | (have a4 := j26_4; unfold In at a4)); (first | have a5 := in_u i108 | (have a5 := i108; unfold In at a5)); (first | have a6 := in_u ((in_c 5 rfl)) | (have a6 := (in_c 5 rfl); unfold In at a6)))); omega)
                  have n119c : ((sF (sF sc26 46 5 y26_4) 46 3 (Int32.ofInt 5)).2.2.1 46 2).toInt ≤ ((sF (sF sc26 46 5 y26_4) 46 3 (Int32.ofInt 5)).2.2.1 46 1).toInt := by have b0 : w26_46_2 = (sF (sF sc26 46 5 y26_4) 46 3 (Int32.ofInt 5)).2.2.1 46 2 := sF_ne rfl (sF_ne rfl (v26_46_2)); have b1 : u_46_1 = (sF (sF sc26 46 5 y26_4) 46 3 (Int32.ofInt 5)).2.2.1 46 1 := sF_ne rfl (sF_ne rfl (fr_F e_46_1 hFc26 rfl)); rw [← b0, ← b1]; exact n119b
                  have n119d : (u_46_2).toInt + 1 ≤ (w26_46_2).toInt := by (first | have a0 := oa7 h2 i91 i34a i34 j26_4 i108 ((in_c 5 rfl)) | ((first | have a0 := in_u h2 | (have a0 := h2; unfold In at a0)); (first | have a1 := in_u i91 | (have a1 := i91; unfold In at a1)); (first | have a2 := in_u i34a | (have a2 := i34a; unfold In at a2)); (first | have a3 := in_u i34 | (have a3 := i34; unfold In at a3)); (first | have a4 := in_u j26_4 | (have a4 := j26_4; unfold In at a4)); (first | have a5 := in_u i108 | (have a5 := i108; unfold In at a5)); (first | have a6 := in_u ((in_c 5 rfl)) | (have a6 := (in_c 5 rfl); unfold In at a6)))); omega
                  have n119e : (s.2.2.1 46 2).toInt + 1 ≤ ((sF (sF sc26 46 5 y26_4) 46 3 (Int32.ofInt 5)).2.2.1 46 2).toInt := by have b0 : w26_46_2 = (sF (sF sc26 46 5 y26_4) 46 3 (Int32.ofInt 5)).2.2.1 46 2 := sF_ne rfl (sF_ne rfl (v26_46_2)); first | (rw [← b0, ← e_46_2]; exact n119d) | (rw [← b0]; exact n119d)
                  exact g_return (gd rfl) rfl (hP _ _ ⟨(sF (sF sc26 46 5 y26_4) 46 3 (Int32.ofInt 5)), hI116, (fr_sF rfl (fr_sF rfl hFc26)), n119c, n119e, rfl, rfl, n119, n119a⟩)
              · skip
                have i91 := z_ne 1 1 c91 h1 rfl
                refine g_iload 96 (gd rfl) rfl rfl ?_
                refine g_ineg 97 (gd rfl) rfl (fun z96 e96 => ?_)
                have i96 := in_neg (-9999999) 0 e96 j26_4 rfl
                refine g_goto 102 (gd rfl) rfl ?_
                refine g_putI 105 (gd rfl) rfl rfl rfl rfl ?_
                have hI102 := inv_sF (q := 46) (j := 5) hIc26 rfl (in_w (-2147483648) 2147483647 i96 rfl)
                refine g_aload_n 106 (gd rfl) rfl rfl ?_
                refine g_iload_n 107 (gd rfl) rfl rfl ?_
                refine g_iload_n 108 (gd rfl) rfl rfl ?_
                refine g_cmp_le 111 115 (gd rfl) rfl rfl (fun c108 => ?_) (fun c108 => ?_)
                · skip
                  have i108 := r_le1 0 7 c108 j26_3 h2 rfl
                  refine g_iconst 2 116 (gd rfl) rfl rfl ?_
                  refine g_putI 119 (gd rfl) rfl rfl rfl rfl ?_
                  have hI116 := inv_sF (q := 46) (j := 3) hI102 rfl (in_w 0 5 (in_c 2 rfl) rfl)
                  have n119 : ((sF (sF sc26 46 5 z96) 46 3 (Int32.ofInt 2)).2.2.1 46 3).toInt ≠ 1 := by rw [← (show (Int32.ofInt 2) = (sF (sF sc26 46 5 z96) 46 3 (Int32.ofInt 2)).2.2.1 46 3 from sF_get)]; decide
                  have n119a : (x2).toInt = 6 → ((sF (sF sc26 46 5 z96) 46 3 (Int32.ofInt 2)).2.2.1 46 3).toInt = 2 → ((sF (sF sc26 46 5 z96) 46 3 (Int32.ofInt 2)).2.2.1 46 5).toInt ≤ 999999 := by intro h6 h2; rw [← (show (Int32.ofInt 2) = (sF (sF sc26 46 5 z96) 46 3 (Int32.ofInt 2)).2.2.1 46 3 from sF_get)] at h2; rw [← (show z96 = (sF (sF sc26 46 5 z96) 46 3 (Int32.ofInt 2)).2.2.1 46 5 from sF_ne rfl (sF_get))]; first | (exfalso; revert h2; decide) | (have a0 := h2; unfold In at a0; (first | have a1 := oa7 i91 i34a i34 j26_4 i108 ((in_c 2 rfl)) i96 | ((first | have a1 := in_u i91 | (have a1 := i91; unfold In at a1)); (first | have a2 := in_u i34a | (have a2 := i34a; unfold In at a2)); (first | have a3 := in_u i34 | (have a3 := i34; unfold In at a3)); (first | have a4 := in_u j26_4 | (have a4 := j26_4; unfold In at a4)); (first | have a5 := in_u i108 | (have a5 := i108; unfold In at a5)); (first | have a6 := in_u ((in_c 2 rfl)) | (have a6 := (in_c 2 rfl); unfold In at a6)); (first | have a7 := in_u i96 | (have a7 := i96; unfold In at a7)))); omega)
                  have n119b : (w26_46_2).toInt ≤ (u_46_1).toInt := by first | exact n26_0 | ((first | have a0 := oa8 h2 i91 i34a i34 j26_4 i108 ((in_c 2 rfl)) i96 | ((first | have a0 := in_u h2 | (have a0 := h2; unfold In at a0)); (first | have a1 := in_u i91 | (have a1 := i91; unfold In at a1)); (first | have a2 := in_u i34a | (have a2 := i34a; unfold In at a2)); (first | have a3 := in_u i34 | (have a3 := i34; unfold In at a3)); (first | have a4 := in_u j26_4 | (have a4 := j26_4; unfold In at a4)); (first | have a5 := in_u i108 | (have a5 := i108; unfold In at a5)); (first | have a6 := in_u ((in_c 2 rfl)) | (have a6 := (in_c 2 rfl); unfold In at a6)); (first | have a7 := in_u i96 | (have a7 := i96; unfold In at a7)))); omega)
                  have n119c : ((sF (sF sc26 46 5 z96) 46 3 (Int32.ofInt 2)).2.2.1 46 2).toInt ≤ ((sF (sF sc26 46 5 z96) 46 3 (Int32.ofInt 2)).2.2.1 46 1).toInt := by have b0 : w26_46_2 = (sF (sF sc26 46 5 z96) 46 3 (Int32.ofInt 2)).2.2.1 46 2 := sF_ne rfl (sF_ne rfl (v26_46_2)); have b1 : u_46_1 = (sF (sF sc26 46 5 z96) 46 3 (Int32.ofInt 2)).2.2.1 46 1 := sF_ne rfl (sF_ne rfl (fr_F e_46_1 hFc26 rfl)); rw [← b0, ← b1]; exact n119b
                  have n119d : (u_46_2).toInt + 1 ≤ (w26_46_2).toInt := by (first | have a0 := oa8 h2 i91 i34a i34 j26_4 i108 ((in_c 2 rfl)) i96 | ((first | have a0 := in_u h2 | (have a0 := h2; unfold In at a0)); (first | have a1 := in_u i91 | (have a1 := i91; unfold In at a1)); (first | have a2 := in_u i34a | (have a2 := i34a; unfold In at a2)); (first | have a3 := in_u i34 | (have a3 := i34; unfold In at a3)); (first | have a4 := in_u j26_4 | (have a4 := j26_4; unfold In at a4)); (first | have a5 := in_u i108 | (have a5 := i108; unfold In at a5)); (first | have a6 := in_u ((in_c 2 rfl)) | (have a6 := (in_c 2 rfl); unfold In at a6)); (first | have a7 := in_u i96 | (have a7 := i96; unfold In at a7)))); omega
                  have n119e : (s.2.2.1 46 2).toInt + 1 ≤ ((sF (sF sc26 46 5 z96) 46 3 (Int32.ofInt 2)).2.2.1 46 2).toInt := by have b0 : w26_46_2 = (sF (sF sc26 46 5 z96) 46 3 (Int32.ofInt 2)).2.2.1 46 2 := sF_ne rfl (sF_ne rfl (v26_46_2)); first | (rw [← b0, ← e_46_2]; exact n119d) | (rw [← b0]; exact n119d)
                  exact g_return (gd rfl) rfl (hP _ _ ⟨(sF (sF sc26 46 5 z96) 46 3 (Int32.ofInt 2)), hI116, (fr_sF rfl (fr_sF rfl hFc26)), n119c, n119e, rfl, rfl, n119, n119a⟩)
                · skip
                  have i108 := r_lt2 7 1000 c108 h2 j26_3 rfl
                  refine g_iconst 5 112 (gd rfl) rfl rfl ?_
                  refine g_goto 116 (gd rfl) rfl ?_
                  refine g_putI 119 (gd rfl) rfl rfl rfl rfl ?_
                  have hI116 := inv_sF (q := 46) (j := 3) hI102 rfl (in_w 0 5 (in_c 5 rfl) rfl)
                  have n119 : ((sF (sF sc26 46 5 z96) 46 3 (Int32.ofInt 5)).2.2.1 46 3).toInt ≠ 1 := by rw [← (show (Int32.ofInt 5) = (sF (sF sc26 46 5 z96) 46 3 (Int32.ofInt 5)).2.2.1 46 3 from sF_get)]; decide
                  have n119a : (x2).toInt = 6 → ((sF (sF sc26 46 5 z96) 46 3 (Int32.ofInt 5)).2.2.1 46 3).toInt = 2 → ((sF (sF sc26 46 5 z96) 46 3 (Int32.ofInt 5)).2.2.1 46 5).toInt ≤ 999999 := by intro h6 h2; rw [← (show (Int32.ofInt 5) = (sF (sF sc26 46 5 z96) 46 3 (Int32.ofInt 5)).2.2.1 46 3 from sF_get)] at h2; rw [← (show z96 = (sF (sF sc26 46 5 z96) 46 3 (Int32.ofInt 5)).2.2.1 46 5 from sF_ne rfl (sF_get))]; first | (exfalso; revert h2; decide) | (have a0 := h2; unfold In at a0; (first | have a1 := oa7 i91 i34a i34 j26_4 i108 ((in_c 5 rfl)) i96 | ((first | have a1 := in_u i91 | (have a1 := i91; unfold In at a1)); (first | have a2 := in_u i34a | (have a2 := i34a; unfold In at a2)); (first | have a3 := in_u i34 | (have a3 := i34; unfold In at a3)); (first | have a4 := in_u j26_4 | (have a4 := j26_4; unfold In at a4)); (first | have a5 := in_u i108 | (have a5 := i108; unfold In at a5)); (first | have a6 := in_u ((in_c 5 rfl)) | (have a6 := (in_c 5 rfl); unfold In at a6)); (first | have a7 := in_u i96 | (have a7 := i96; unfold In at a7)))); omega)
                  have n119b : (w26_46_2).toInt ≤ (u_46_1).toInt := by first | exact n26_0 | ((first | have a0 := oa8 h2 i91 i34a i34 j26_4 i108 ((in_c 5 rfl)) i96 | ((first | have a0 := in_u h2 | (have a0 := h2; unfold In at a0)); (first | have a1 := in_u i91 | (have a1 := i91; unfold In at a1)); (first | have a2 := in_u i34a | (have a2 := i34a; unfold In at a2)); (first | have a3 := in_u i34 | (have a3 := i34; unfold In at a3)); (first | have a4 := in_u j26_4 | (have a4 := j26_4; unfold In at a4)); (first | have a5 := in_u i108 | (have a5 := i108; unfold In at a5)); (first | have a6 := in_u ((in_c 5 rfl)) | (have a6 := (in_c 5 rfl); unfold In at a6)); (first | have a7 := in_u i96 | (have a7 := i96; unfold In at a7)))); omega)
                  have n119c : ((sF (sF sc26 46 5 z96) 46 3 (Int32.ofInt 5)).2.2.1 46 2).toInt ≤ ((sF (sF sc26 46 5 z96) 46 3 (Int32.ofInt 5)).2.2.1 46 1).toInt := by have b0 : w26_46_2 = (sF (sF sc26 46 5 z96) 46 3 (Int32.ofInt 5)).2.2.1 46 2 := sF_ne rfl (sF_ne rfl (v26_46_2)); have b1 : u_46_1 = (sF (sF sc26 46 5 z96) 46 3 (Int32.ofInt 5)).2.2.1 46 1 := sF_ne rfl (sF_ne rfl (fr_F e_46_1 hFc26 rfl)); rw [← b0, ← b1]; exact n119b
                  have n119d : (u_46_2).toInt + 1 ≤ (w26_46_2).toInt := by (first | have a0 := oa8 h2 i91 i34a i34 j26_4 i108 ((in_c 5 rfl)) i96 | ((first | have a0 := in_u h2 | (have a0 := h2; unfold In at a0)); (first | have a1 := in_u i91 | (have a1 := i91; unfold In at a1)); (first | have a2 := in_u i34a | (have a2 := i34a; unfold In at a2)); (first | have a3 := in_u i34 | (have a3 := i34; unfold In at a3)); (first | have a4 := in_u j26_4 | (have a4 := j26_4; unfold In at a4)); (first | have a5 := in_u i108 | (have a5 := i108; unfold In at a5)); (first | have a6 := in_u ((in_c 5 rfl)) | (have a6 := (in_c 5 rfl); unfold In at a6)); (first | have a7 := in_u i96 | (have a7 := i96; unfold In at a7)))); omega
                  have n119e : (s.2.2.1 46 2).toInt + 1 ≤ ((sF (sF sc26 46 5 z96) 46 3 (Int32.ofInt 5)).2.2.1 46 2).toInt := by have b0 : w26_46_2 = (sF (sF sc26 46 5 z96) 46 3 (Int32.ofInt 5)).2.2.1 46 2 := sF_ne rfl (sF_ne rfl (v26_46_2)); first | (rw [← b0, ← e_46_2]; exact n119d) | (rw [← b0]; exact n119d)
                  exact g_return (gd rfl) rfl (hP _ _ ⟨(sF (sF sc26 46 5 z96) 46 3 (Int32.ofInt 5)), hI116, (fr_sF rfl (fr_sF rfl hFc26)), n119c, n119e, rfl, rfl, n119, n119a⟩)
            · skip
              exact zn_ne c45 (in_c 0 rfl) rfl
          · skip
            have i42x16 := r_le2 48 65535 c42x16 (in_c 48 rfl) i42x13 rfl
            refine g_aload_n 20 (gd rfl) rfl rfl ?_
            refine g_getA (q2 := 47) 23 (gd rfl) rfl rfl rfl rfl ?_
            refine g_iload_n 24 (gd rfl) rfl rfl ?_
            refine g_caload 25 (gd rfl) rfl (n := 1000) rfl (in_ix i34 rfl) (fun z42x24 e42x24 => ?_)
            have q42x24 : z42x13 = z42x24 := (e42x13).trans e42x24.symm
            subst q42x24
            refine g_bipush 57 27 (gd rfl) rfl rfl ?_
            refine g_cmp_gt 30 34 (gd rfl) rfl rfl (fun c42x27 => ?_) (fun c42x27 => ?_)
            · skip
              have i42x27 := r_lt2 58 65535 c42x27 (in_c 57 rfl) i42x16 rfl
              refine g_iconst 0 35 (gd rfl) rfl rfl ?_
              refine g_ireturn (gd rfl) rfl (nb01 (in_w 0 1 (in_c 0 rfl) rfl)) (hp42 _ _ ?_)
              show GG _ _ _ _ _ _ _ _ [.int (Int32.ofInt 0)] _ _ _
              refine g_if_eq 48 89 (gd rfl) rfl rfl (fun c45 => ?_) (fun c45 => ?_)
              · skip
                have hq89 : (u_46_2).toInt + 1 ≤ (w26_46_2).toInt := (by have c48 : (Int32.ofInt 48).toInt = 48 := (by decide); have c57 : (Int32.ofInt 57).toInt = 57 := (by decide); have hd : w26_46_2.toInt = u_46_2.toInt + x1.toInt → 48 ≤ (z42x13).toInt ∧ (z42x13).toInt ≤ 57 := (fun h => by have e0 : (w26_46_2).toNatClampNeg = ((s.2.2.1 46 2).toInt + x1.toInt).toNat := (by rw [← e_46_2]; show (w26_46_2).toInt.toNat = _; omega); rw [e42x13, e0, hFc26.1 47 rfl]; exact q_0); (first | have a0 := oa6 h2 h1 i34a i34 j26_4 j26_3 | ((first | have a0 := in_u h2 | (have a0 := h2; unfold In at a0)); (first | have a1 := in_u h1 | (have a1 := h1; unfold In at a1)); (first | have a2 := in_u i34a | (have a2 := i34a; unfold In at a2)); (first | have a3 := in_u i34 | (have a3 := i34; unfold In at a3)); (first | have a4 := in_u j26_4 | (have a4 := j26_4; unfold In at a4)); (first | have a5 := in_u j26_3 | (have a5 := j26_3; unfold In at a5)))); omega)
                refine g_aload_n 90 (gd rfl) rfl rfl ?_
                refine g_iload_n 91 (gd rfl) rfl rfl ?_
                refine g_if_eq 94 100 (gd rfl) rfl rfl (fun c91 => ?_) (fun c91 => ?_)
                · skip
                  have i91 := z_eq 0 0 c91 h1 rfl
                  refine g_iload 102 (gd rfl) rfl rfl ?_
                  refine g_putI 105 (gd rfl) rfl rfl rfl rfl ?_
                  have hI102 := inv_sF (q := 46) (j := 5) hIc26 rfl (in_w (-2147483648) 2147483647 j26_4 rfl)
                  refine g_aload_n 106 (gd rfl) rfl rfl ?_
                  refine g_iload_n 107 (gd rfl) rfl rfl ?_
                  refine g_iload_n 108 (gd rfl) rfl rfl ?_
                  refine g_cmp_le 111 115 (gd rfl) rfl rfl (fun c108 => ?_) (fun c108 => ?_)
                  · skip
                    have i108 := r_le1 0 7 c108 j26_3 h2 rfl
                    refine g_iconst 2 116 (gd rfl) rfl rfl ?_
                    refine g_putI 119 (gd rfl) rfl rfl rfl rfl ?_
                    have hI116 := inv_sF (q := 46) (j := 3) hI102 rfl (in_w 0 5 (in_c 2 rfl) rfl)
                    have n119 : ((sF (sF sc26 46 5 y26_4) 46 3 (Int32.ofInt 2)).2.2.1 46 3).toInt ≠ 1 := by rw [← (show (Int32.ofInt 2) = (sF (sF sc26 46 5 y26_4) 46 3 (Int32.ofInt 2)).2.2.1 46 3 from sF_get)]; decide
                    have n119a : (x2).toInt = 6 → ((sF (sF sc26 46 5 y26_4) 46 3 (Int32.ofInt 2)).2.2.1 46 3).toInt = 2 → ((sF (sF sc26 46 5 y26_4) 46 3 (Int32.ofInt 2)).2.2.1 46 5).toInt ≤ 999999 := by intro h6 h2; rw [← (show (Int32.ofInt 2) = (sF (sF sc26 46 5 y26_4) 46 3 (Int32.ofInt 2)).2.2.1 46 3 from sF_get)] at h2; rw [← (show y26_4 = (sF (sF sc26 46 5 y26_4) 46 3 (Int32.ofInt 2)).2.2.1 46 5 from sF_ne rfl (sF_get))]; first | (exfalso; revert h2; decide) | exact dg_6 (by have a0 := h2; unfold In at a0; (first | have a1 := oa6 i91 i34a i34 j26_4 i108 ((in_c 2 rfl)) | ((first | have a1 := in_u i91 | (have a1 := i91; unfold In at a1)); (first | have a2 := in_u i34a | (have a2 := i34a; unfold In at a2)); (first | have a3 := in_u i34 | (have a3 := i34; unfold In at a3)); (first | have a4 := in_u j26_4 | (have a4 := j26_4; unfold In at a4)); (first | have a5 := in_u i108 | (have a5 := i108; unfold In at a5)); (first | have a6 := in_u ((in_c 2 rfl)) | (have a6 := (in_c 2 rfl); unfold In at a6)))); omega) (by have a0 := h2; unfold In at a0; (first | have a1 := oa6 i91 i34a i34 j26_4 i108 ((in_c 2 rfl)) | ((first | have a1 := in_u i91 | (have a1 := i91; unfold In at a1)); (first | have a2 := in_u i34a | (have a2 := i34a; unfold In at a2)); (first | have a3 := in_u i34 | (have a3 := i34; unfold In at a3)); (first | have a4 := in_u j26_4 | (have a4 := j26_4; unfold In at a4)); (first | have a5 := in_u i108 | (have a5 := i108; unfold In at a5)); (first | have a6 := in_u ((in_c 2 rfl)) | (have a6 := (in_c 2 rfl); unfold In at a6)))); omega) (g26_0.2.1 (by have a0 := h2; unfold In at a0; (first | have a1 := oa6 i91 i34a i34 j26_4 i108 ((in_c 2 rfl)) | ((first | have a1 := in_u i91 | (have a1 := i91; unfold In at a1)); (first | have a2 := in_u i34a | (have a2 := i34a; unfold In at a2)); (first | have a3 := in_u i34 | (have a3 := i34; unfold In at a3)); (first | have a4 := in_u j26_4 | (have a4 := j26_4; unfold In at a4)); (first | have a5 := in_u i108 | (have a5 := i108; unfold In at a5)); (first | have a6 := in_u ((in_c 2 rfl)) | (have a6 := (in_c 2 rfl); unfold In at a6)))); omega))
                    have n119b : (w26_46_2).toInt ≤ (u_46_1).toInt := by first | exact n26_0 | ((first | have a0 := oa7 h2 i91 i34a i34 j26_4 i108 ((in_c 2 rfl)) | ((first | have a0 := in_u h2 | (have a0 := h2; unfold In at a0)); (first | have a1 := in_u i91 | (have a1 := i91; unfold In at a1)); (first | have a2 := in_u i34a | (have a2 := i34a; unfold In at a2)); (first | have a3 := in_u i34 | (have a3 := i34; unfold In at a3)); (first | have a4 := in_u j26_4 | (have a4 := j26_4; unfold In at a4)); (first | have a5 := in_u i108 | (have a5 := i108; unfold In at a5)); (first | have a6 := in_u ((in_c 2 rfl)) | (have a6 := (in_c 2 rfl); unfold In at a6)))); omega)
                    have n119c : ((sF (sF sc26 46 5 y26_4) 46 3 (Int32.ofInt 2)).2.2.1 46 2).toInt ≤ ((sF (sF sc26 46 5 y26_4) 46 3 (Int32.ofInt 2)).2.2.1 46 1).toInt := by have b0 : w26_46_2 = (sF (sF sc26 46 5 y26_4) 46 3 (Int32.ofInt 2)).2.2.1 46 2 := sF_ne rfl (sF_ne rfl (v26_46_2)); have b1 : u_46_1 = (sF (sF sc26 46 5 y26_4) 46 3 (Int32.ofInt 2)).2.2.1 46 1 := sF_ne rfl (sF_ne rfl (fr_F e_46_1 hFc26 rfl)); rw [← b0, ← b1]; exact n119b
                    have n119d : (u_46_2).toInt + 1 ≤ (w26_46_2).toInt := by (first | have a0 := oa7 h2 i91 i34a i34 j26_4 i108 ((in_c 2 rfl)) | ((first | have a0 := in_u h2 | (have a0 := h2; unfold In at a0)); (first | have a1 := in_u i91 | (have a1 := i91; unfold In at a1)); (first | have a2 := in_u i34a | (have a2 := i34a; unfold In at a2)); (first | have a3 := in_u i34 | (have a3 := i34; unfold In at a3)); (first | have a4 := in_u j26_4 | (have a4 := j26_4; unfold In at a4)); (first | have a5 := in_u i108 | (have a5 := i108; unfold In at a5)); (first | have a6 := in_u ((in_c 2 rfl)) | (have a6 := (in_c 2 rfl); unfold In at a6)))); omega
                    have n119e : (s.2.2.1 46 2).toInt + 1 ≤ ((sF (sF sc26 46 5 y26_4) 46 3 (Int32.ofInt 2)).2.2.1 46 2).toInt := by have b0 : w26_46_2 = (sF (sF sc26 46 5 y26_4) 46 3 (Int32.ofInt 2)).2.2.1 46 2 := sF_ne rfl (sF_ne rfl (v26_46_2)); first | (rw [← b0, ← e_46_2]; exact n119d) | (rw [← b0]; exact n119d)
                    exact g_return (gd rfl) rfl (hP _ _ ⟨(sF (sF sc26 46 5 y26_4) 46 3 (Int32.ofInt 2)), hI116, (fr_sF rfl (fr_sF rfl hFc26)), n119c, n119e, rfl, rfl, n119, n119a⟩)
                  · skip
                    have i108 := r_lt2 7 1000 c108 h2 j26_3 rfl
                    refine g_iconst 5 112 (gd rfl) rfl rfl ?_
                    refine g_goto 116 (gd rfl) rfl ?_
                    refine g_putI 119 (gd rfl) rfl rfl rfl rfl ?_
                    have hI116 := inv_sF (q := 46) (j := 3) hI102 rfl (in_w 0 5 (in_c 5 rfl) rfl)
                    have n119 : ((sF (sF sc26 46 5 y26_4) 46 3 (Int32.ofInt 5)).2.2.1 46 3).toInt ≠ 1 := by rw [← (show (Int32.ofInt 5) = (sF (sF sc26 46 5 y26_4) 46 3 (Int32.ofInt 5)).2.2.1 46 3 from sF_get)]; decide
                    have n119a : (x2).toInt = 6 → ((sF (sF sc26 46 5 y26_4) 46 3 (Int32.ofInt 5)).2.2.1 46 3).toInt = 2 → ((sF (sF sc26 46 5 y26_4) 46 3 (Int32.ofInt 5)).2.2.1 46 5).toInt ≤ 999999 := by intro h6 h2; rw [← (show (Int32.ofInt 5) = (sF (sF sc26 46 5 y26_4) 46 3 (Int32.ofInt 5)).2.2.1 46 3 from sF_get)] at h2; rw [← (show y26_4 = (sF (sF sc26 46 5 y26_4) 46 3 (Int32.ofInt 5)).2.2.1 46 5 from sF_ne rfl (sF_get))]; first | (exfalso; revert h2; decide) | exact dg_6 (by have a0 := h2; unfold In at a0; (first | have a1 := oa6 i91 i34a i34 j26_4 i108 ((in_c 5 rfl)) | ((first | have a1 := in_u i91 | (have a1 := i91; unfold In at a1)); (first | have a2 := in_u i34a | (have a2 := i34a; unfold In at a2)); (first | have a3 := in_u i34 | (have a3 := i34; unfold In at a3)); (first | have a4 := in_u j26_4 | (have a4 := j26_4; unfold In at a4)); (first | have a5 := in_u i108 | (have a5 := i108; unfold In at a5)); (first | have a6 := in_u ((in_c 5 rfl)) | (have a6 := (in_c 5 rfl); unfold In at a6)))); omega) (by have a0 := h2; unfold In at a0; (first | have a1 := oa6 i91 i34a i34 j26_4 i108 ((in_c 5 rfl)) | ((first | have a1 := in_u i91 | (have a1 := i91; unfold In at a1)); (first | have a2 := in_u i34a | (have a2 := i34a; unfold In at a2)); (first | have a3 := in_u i34 | (have a3 := i34; unfold In at a3)); (first | have a4 := in_u j26_4 | (have a4 := j26_4; unfold In at a4)); (first | have a5 := in_u i108 | (have a5 := i108; unfold In at a5)); (first | have a6 := in_u ((in_c 5 rfl)) | (have a6 := (in_c 5 rfl); unfold In at a6)))); omega) (g26_0.2.1 (by have a0 := h2; unfold In at a0; (first | have a1 := oa6 i91 i34a i34 j26_4 i108 ((in_c 5 rfl)) | ((first | have a1 := in_u i91 | (have a1 := i91; unfold In at a1)); (first | have a2 := in_u i34a | (have a2 := i34a; unfold In at a2)); (first | have a3 := in_u i34 | (have a3 := i34; unfold In at a3)); (first | have a4 := in_u j26_4 | (have a4 := j26_4; unfold In at a4)); (first | have a5 := in_u i108 | (have a5 := i108; unfold In at a5)); (first | have a6 := in_u ((in_c 5 rfl)) | (have a6 := (in_c 5 rfl); unfold In at a6)))); omega))
                    have n119b : (w26_46_2).toInt ≤ (u_46_1).toInt := by first | exact n26_0 | ((first | have a0 := oa7 h2 i91 i34a i34 j26_4 i108 ((in_c 5 rfl)) | ((first | have a0 := in_u h2 | (have a0 := h2; unfold In at a0)); (first | have a1 := in_u i91 | (have a1 := i91; unfold In at a1)); (first | have a2 := in_u i34a | (have a2 := i34a; unfold In at a2)); (first | have a3 := in_u i34 | (have a3 := i34; unfold In at a3)); (first | have a4 := in_u j26_4 | (have a4 := j26_4; unfold In at a4)); (first | have a5 := in_u i108 | (have a5 := i108; unfold In at a5)); (first | have a6 := in_u ((in_c 5 rfl)) | (have a6 := (in_c 5 rfl); unfold In at a6)))); omega)
                    have n119c : ((sF (sF sc26 46 5 y26_4) 46 3 (Int32.ofInt 5)).2.2.1 46 2).toInt ≤ ((sF (sF sc26 46 5 y26_4) 46 3 (Int32.ofInt 5)).2.2.1 46 1).toInt := by have b0 : w26_46_2 = (sF (sF sc26 46 5 y26_4) 46 3 (Int32.ofInt 5)).2.2.1 46 2 := sF_ne rfl (sF_ne rfl (v26_46_2)); have b1 : u_46_1 = (sF (sF sc26 46 5 y26_4) 46 3 (Int32.ofInt 5)).2.2.1 46 1 := sF_ne rfl (sF_ne rfl (fr_F e_46_1 hFc26 rfl)); rw [← b0, ← b1]; exact n119b
                    have n119d : (u_46_2).toInt + 1 ≤ (w26_46_2).toInt := by (first | have a0 := oa7 h2 i91 i34a i34 j26_4 i108 ((in_c 5 rfl)) | ((first | have a0 := in_u h2 | (have a0 := h2; unfold In at a0)); (first | have a1 := in_u i91 | (have a1 := i91; unfold In at a1)); (first | have a2 := in_u i34a | (have a2 := i34a; unfold In at a2)); (first | have a3 := in_u i34 | (have a3 := i34; unfold In at a3)); (first | have a4 := in_u j26_4 | (have a4 := j26_4; unfold In at a4)); (first | have a5 := in_u i108 | (have a5 := i108; unfold In at a5)); (first | have a6 := in_u ((in_c 5 rfl)) | (have a6 := (in_c 5 rfl); unfold In at a6)))); omega
                    have n119e : (s.2.2.1 46 2).toInt + 1 ≤ ((sF (sF sc26 46 5 y26_4) 46 3 (Int32.ofInt 5)).2.2.1 46 2).toInt := by have b0 : w26_46_2 = (sF (sF sc26 46 5 y26_4) 46 3 (Int32.ofInt 5)).2.2.1 46 2 := sF_ne rfl (sF_ne rfl (v26_46_2)); first | (rw [← b0, ← e_46_2]; exact n119d) | (rw [← b0]; exact n119d)
                    exact g_return (gd rfl) rfl (hP _ _ ⟨(sF (sF sc26 46 5 y26_4) 46 3 (Int32.ofInt 5)), hI116, (fr_sF rfl (fr_sF rfl hFc26)), n119c, n119e, rfl, rfl, n119, n119a⟩)
                · skip
                  have i91 := z_ne 1 1 c91 h1 rfl
                  refine g_iload 96 (gd rfl) rfl rfl ?_
                  refine g_ineg 97 (gd rfl) rfl (fun z96 e96 => ?_)
                  have i96 := in_neg (-9999999) 0 e96 j26_4 rfl
                  refine g_goto 102 (gd rfl) rfl ?_
                  refine g_putI 105 (gd rfl) rfl rfl rfl rfl ?_
                  have hI102 := inv_sF (q := 46) (j := 5) hIc26 rfl (in_w (-2147483648) 2147483647 i96 rfl)
                  refine g_aload_n 106 (gd rfl) rfl rfl ?_
                  refine g_iload_n 107 (gd rfl) rfl rfl ?_
                  refine g_iload_n 108 (gd rfl) rfl rfl ?_
                  refine g_cmp_le 111 115 (gd rfl) rfl rfl (fun c108 => ?_) (fun c108 => ?_)
                  · skip
                    have i108 := r_le1 0 7 c108 j26_3 h2 rfl
                    refine g_iconst 2 116 (gd rfl) rfl rfl ?_
                    refine g_putI 119 (gd rfl) rfl rfl rfl rfl ?_
                    have hI116 := inv_sF (q := 46) (j := 3) hI102 rfl (in_w 0 5 (in_c 2 rfl) rfl)
                    have n119 : ((sF (sF sc26 46 5 z96) 46 3 (Int32.ofInt 2)).2.2.1 46 3).toInt ≠ 1 := by rw [← (show (Int32.ofInt 2) = (sF (sF sc26 46 5 z96) 46 3 (Int32.ofInt 2)).2.2.1 46 3 from sF_get)]; decide
                    have n119a : (x2).toInt = 6 → ((sF (sF sc26 46 5 z96) 46 3 (Int32.ofInt 2)).2.2.1 46 3).toInt = 2 → ((sF (sF sc26 46 5 z96) 46 3 (Int32.ofInt 2)).2.2.1 46 5).toInt ≤ 999999 := by intro h6 h2; rw [← (show (Int32.ofInt 2) = (sF (sF sc26 46 5 z96) 46 3 (Int32.ofInt 2)).2.2.1 46 3 from sF_get)] at h2; rw [← (show z96 = (sF (sF sc26 46 5 z96) 46 3 (Int32.ofInt 2)).2.2.1 46 5 from sF_ne rfl (sF_get))]; first | (exfalso; revert h2; decide) | (have a0 := h2; unfold In at a0; (first | have a1 := oa7 i91 i34a i34 j26_4 i108 ((in_c 2 rfl)) i96 | ((first | have a1 := in_u i91 | (have a1 := i91; unfold In at a1)); (first | have a2 := in_u i34a | (have a2 := i34a; unfold In at a2)); (first | have a3 := in_u i34 | (have a3 := i34; unfold In at a3)); (first | have a4 := in_u j26_4 | (have a4 := j26_4; unfold In at a4)); (first | have a5 := in_u i108 | (have a5 := i108; unfold In at a5)); (first | have a6 := in_u ((in_c 2 rfl)) | (have a6 := (in_c 2 rfl); unfold In at a6)); (first | have a7 := in_u i96 | (have a7 := i96; unfold In at a7)))); omega)
                    have n119b : (w26_46_2).toInt ≤ (u_46_1).toInt := by first | exact n26_0 | ((first | have a0 := oa8 h2 i91 i34a i34 j26_4 i108 ((in_c 2 rfl)) i96 | ((first | have a0 := in_u h2 | (have a0 := h2; unfold In at a0)); (first | have a1 := in_u i91 | (have a1 := i91; unfold In at a1)); (first | have a2 := in_u i34a | (have a2 := i34a; unfold In at a2)); (first | have a3 := in_u i34 | (have a3 := i34; unfold In at a3)); (first | have a4 := in_u j26_4 | (have a4 := j26_4; unfold In at a4)); (first | have a5 := in_u i108 | (have a5 := i108; unfold In at a5)); (first | have a6 := in_u ((in_c 2 rfl)) | (have a6 := (in_c 2 rfl); unfold In at a6)); (first | have a7 := in_u i96 | (have a7 := i96; unfold In at a7)))); omega)
                    have n119c : ((sF (sF sc26 46 5 z96) 46 3 (Int32.ofInt 2)).2.2.1 46 2).toInt ≤ ((sF (sF sc26 46 5 z96) 46 3 (Int32.ofInt 2)).2.2.1 46 1).toInt := by have b0 : w26_46_2 = (sF (sF sc26 46 5 z96) 46 3 (Int32.ofInt 2)).2.2.1 46 2 := sF_ne rfl (sF_ne rfl (v26_46_2)); have b1 : u_46_1 = (sF (sF sc26 46 5 z96) 46 3 (Int32.ofInt 2)).2.2.1 46 1 := sF_ne rfl (sF_ne rfl (fr_F e_46_1 hFc26 rfl)); rw [← b0, ← b1]; exact n119b
                    have n119d : (u_46_2).toInt + 1 ≤ (w26_46_2).toInt := by (first | have a0 := oa8 h2 i91 i34a i34 j26_4 i108 ((in_c 2 rfl)) i96 | ((first | have a0 := in_u h2 | (have a0 := h2; unfold In at a0)); (first | have a1 := in_u i91 | (have a1 := i91; unfold In at a1)); (first | have a2 := in_u i34a | (have a2 := i34a; unfold In at a2)); (first | have a3 := in_u i34 | (have a3 := i34; unfold In at a3)); (first | have a4 := in_u j26_4 | (have a4 := j26_4; unfold In at a4)); (first | have a5 := in_u i108 | (have a5 := i108; unfold In at a5)); (first | have a6 := in_u ((in_c 2 rfl)) | (have a6 := (in_c 2 rfl); unfold In at a6)); (first | have a7 := in_u i96 | (have a7 := i96; unfold In at a7)))); omega
                    have n119e : (s.2.2.1 46 2).toInt + 1 ≤ ((sF (sF sc26 46 5 z96) 46 3 (Int32.ofInt 2)).2.2.1 46 2).toInt := by have b0 : w26_46_2 = (sF (sF sc26 46 5 z96) 46 3 (Int32.ofInt 2)).2.2.1 46 2 := sF_ne rfl (sF_ne rfl (v26_46_2)); first | (rw [← b0, ← e_46_2]; exact n119d) | (rw [← b0]; exact n119d)
                    exact g_return (gd rfl) rfl (hP _ _ ⟨(sF (sF sc26 46 5 z96) 46 3 (Int32.ofInt 2)), hI116, (fr_sF rfl (fr_sF rfl hFc26)), n119c, n119e, rfl, rfl, n119, n119a⟩)
                  · skip
                    have i108 := r_lt2 7 1000 c108 h2 j26_3 rfl
                    refine g_iconst 5 112 (gd rfl) rfl rfl ?_
                    refine g_goto 116 (gd rfl) rfl ?_
                    refine g_putI 119 (gd rfl) rfl rfl rfl rfl ?_
                    have hI116 := inv_sF (q := 46) (j := 3) hI102 rfl (in_w 0 5 (in_c 5 rfl) rfl)
                    have n119 : ((sF (sF sc26 46 5 z96) 46 3 (Int32.ofInt 5)).2.2.1 46 3).toInt ≠ 1 := by rw [← (show (Int32.ofInt 5) = (sF (sF sc26 46 5 z96) 46 3 (Int32.ofInt 5)).2.2.1 46 3 from sF_get)]; decide
                    have n119a : (x2).toInt = 6 → ((sF (sF sc26 46 5 z96) 46 3 (Int32.ofInt 5)).2.2.1 46 3).toInt = 2 → ((sF (sF sc26 46 5 z96) 46 3 (Int32.ofInt 5)).2.2.1 46 5).toInt ≤ 999999 := by intro h6 h2; rw [← (show (Int32.ofInt 5) = (sF (sF sc26 46 5 z96) 46 3 (Int32.ofInt 5)).2.2.1 46 3 from sF_get)] at h2; rw [← (show z96 = (sF (sF sc26 46 5 z96) 46 3 (Int32.ofInt 5)).2.2.1 46 5 from sF_ne rfl (sF_get))]; first | (exfalso; revert h2; decide) | (have a0 := h2; unfold In at a0; (first | have a1 := oa7 i91 i34a i34 j26_4 i108 ((in_c 5 rfl)) i96 | ((first | have a1 := in_u i91 | (have a1 := i91; unfold In at a1)); (first | have a2 := in_u i34a | (have a2 := i34a; unfold In at a2)); (first | have a3 := in_u i34 | (have a3 := i34; unfold In at a3)); (first | have a4 := in_u j26_4 | (have a4 := j26_4; unfold In at a4)); (first | have a5 := in_u i108 | (have a5 := i108; unfold In at a5)); (first | have a6 := in_u ((in_c 5 rfl)) | (have a6 := (in_c 5 rfl); unfold In at a6)); (first | have a7 := in_u i96 | (have a7 := i96; unfold In at a7)))); omega)
                    have n119b : (w26_46_2).toInt ≤ (u_46_1).toInt := by first | exact n26_0 | ((first | have a0 := oa8 h2 i91 i34a i34 j26_4 i108 ((in_c 5 rfl)) i96 | ((first | have a0 := in_u h2 | (have a0 := h2; unfold In at a0)); (first | have a1 := in_u i91 | (have a1 := i91; unfold In at a1)); (first | have a2 := in_u i34a | (have a2 := i34a; unfold In at a2)); (first | have a3 := in_u i34 | (have a3 := i34; unfold In at a3)); (first | have a4 := in_u j26_4 | (have a4 := j26_4; unfold In at a4)); (first | have a5 := in_u i108 | (have a5 := i108; unfold In at a5)); (first | have a6 := in_u ((in_c 5 rfl)) | (have a6 := (in_c 5 rfl); unfold In at a6)); (first | have a7 := in_u i96 | (have a7 := i96; unfold In at a7)))); omega)
                    have n119c : ((sF (sF sc26 46 5 z96) 46 3 (Int32.ofInt 5)).2.2.1 46 2).toInt ≤ ((sF (sF sc26 46 5 z96) 46 3 (Int32.ofInt 5)).2.2.1 46 1).toInt := by have b0 : w26_46_2 = (sF (sF sc26 46 5 z96) 46 3 (Int32.ofInt 5)).2.2.1 46 2 := sF_ne rfl (sF_ne rfl (v26_46_2)); have b1 : u_46_1 = (sF (sF sc26 46 5 z96) 46 3 (Int32.ofInt 5)).2.2.1 46 1 := sF_ne rfl (sF_ne rfl (fr_F e_46_1 hFc26 rfl)); rw [← b0, ← b1]; exact n119b
                    have n119d : (u_46_2).toInt + 1 ≤ (w26_46_2).toInt := by (first | have a0 := oa8 h2 i91 i34a i34 j26_4 i108 ((in_c 5 rfl)) i96 | ((first | have a0 := in_u h2 | (have a0 := h2; unfold In at a0)); (first | have a1 := in_u i91 | (have a1 := i91; unfold In at a1)); (first | have a2 := in_u i34a | (have a2 := i34a; unfold In at a2)); (first | have a3 := in_u i34 | (have a3 := i34; unfold In at a3)); (first | have a4 := in_u j26_4 | (have a4 := j26_4; unfold In at a4)); (first | have a5 := in_u i108 | (have a5 := i108; unfold In at a5)); (first | have a6 := in_u ((in_c 5 rfl)) | (have a6 := (in_c 5 rfl); unfold In at a6)); (first | have a7 := in_u i96 | (have a7 := i96; unfold In at a7)))); omega
                    have n119e : (s.2.2.1 46 2).toInt + 1 ≤ ((sF (sF sc26 46 5 z96) 46 3 (Int32.ofInt 5)).2.2.1 46 2).toInt := by have b0 : w26_46_2 = (sF (sF sc26 46 5 z96) 46 3 (Int32.ofInt 5)).2.2.1 46 2 := sF_ne rfl (sF_ne rfl (v26_46_2)); first | (rw [← b0, ← e_46_2]; exact n119d) | (rw [← b0]; exact n119d)
                    exact g_return (gd rfl) rfl (hP _ _ ⟨(sF (sF sc26 46 5 z96) 46 3 (Int32.ofInt 5)), hI116, (fr_sF rfl (fr_sF rfl hFc26)), n119c, n119e, rfl, rfl, n119, n119a⟩)
              · skip
                exact zn_ne c45 (in_c 0 rfl) rfl
            · skip
              have i42x27 := r_le1 48 57 c42x27 i42x16 (in_c 57 rfl) rfl
              refine g_iconst 1 31 (gd rfl) rfl rfl ?_
              refine g_goto 35 (gd rfl) rfl ?_
              refine g_ireturn (gd rfl) rfl (nb01 (in_w 0 1 (in_c 1 rfl) rfl)) (hp42 _ _ ?_)
              show GG _ _ _ _ _ _ _ _ [.int (Int32.ofInt 1)] _ _ _
              refine g_if_eq 48 89 (gd rfl) rfl rfl (fun c45 => ?_) (fun c45 => ?_)
              · skip
                exact zn_eq c45 (in_c 1 rfl) rfl
              · skip
                refine g_iinc 51 (gd rfl) rfl rfl (Nat.le_of_ble_eq_true rfl) (fun z48 e48 => ?_)
                have i48 := in_add 1 1001 e48 j26_3 (in_c 1 rfl) rfl rfl
                refine g_iload_n 52 (gd rfl) rfl rfl ?_
                refine g_iload_n 53 (gd rfl) rfl rfl ?_
                refine g_cmp_gt 56 76 (gd rfl) rfl rfl (fun c53 => ?_) (fun c53 => ?_)
                · skip
                  have i53 := r_lt2 7 1001 c53 h2 i48 rfl
                  refine g_aload_n 77 (gd rfl) rfl rfl ?_
                  refine g_dup 78 (gd rfl) rfl rfl ?_
                  refine g_getI 81 (gd rfl) rfl rfl rfl (fun z78 e78 => ?_)
                  have q78 : w26_46_2 = z78 := (v26_46_2).trans e78.symm
                  subst q78
                  refine g_iconst 1 82 (gd rfl) rfl rfl ?_
                  refine g_iadd 83 (gd rfl) rfl (fun z82 e82 => ?_)
                  have i82 := in_add 1 1000 e82 i34 (in_c 1 rfl) rfl rfl
                  refine g_putI 86 (gd rfl) rfl rfl rfl rfl ?_
                  have hI83 := inv_sF (q := 46) (j := 2) hIc26 rfl (in_w 0 1000 i82 rfl)
                  refine g_goto 26 (gd rfl) rfl ?_
                  have i26 : In z48 0 1000 := by exact ⟨by (first | have a0 := oa7 h2 h1 i34a i34 j26_4 j26_3 i53 | ((first | have a0 := in_u h2 | (have a0 := h2; unfold In at a0)); (first | have a1 := in_u h1 | (have a1 := h1; unfold In at a1)); (first | have a2 := in_u i34a | (have a2 := i34a; unfold In at a2)); (first | have a3 := in_u i34 | (have a3 := i34; unfold In at a3)); (first | have a4 := in_u j26_4 | (have a4 := j26_4; unfold In at a4)); (first | have a5 := in_u j26_3 | (have a5 := j26_3; unfold In at a5)); (first | have a6 := in_u i53 | (have a6 := i53; unfold In at a6)))); have a7 := t_add e48 j26_3 (in_c 1 rfl) rfl; (first | have a8 := oa2 ((in_c 1 rfl)) i82 | ((first | have a8 := in_u ((in_c 1 rfl)) | (have a8 := (in_c 1 rfl); unfold In at a8)); (first | have a9 := in_u i82 | (have a9 := i82; unfold In at a9)))); have a10 := t_add e82 i34 (in_c 1 rfl) rfl; omega, by (first | have a0 := oa7 h2 h1 i34a i34 j26_4 j26_3 i53 | ((first | have a0 := in_u h2 | (have a0 := h2; unfold In at a0)); (first | have a1 := in_u h1 | (have a1 := h1; unfold In at a1)); (first | have a2 := in_u i34a | (have a2 := i34a; unfold In at a2)); (first | have a3 := in_u i34 | (have a3 := i34; unfold In at a3)); (first | have a4 := in_u j26_4 | (have a4 := j26_4; unfold In at a4)); (first | have a5 := in_u j26_3 | (have a5 := j26_3; unfold In at a5)); (first | have a6 := in_u i53 | (have a6 := i53; unfold In at a6)))); have a7 := t_add e48 j26_3 (in_c 1 rfl) rfl; (first | have a8 := oa2 ((in_c 1 rfl)) i82 | ((first | have a8 := in_u ((in_c 1 rfl)) | (have a8 := (in_c 1 rfl); unfold In at a8)); (first | have a9 := in_u i82 | (have a9 := i82; unfold In at a9)))); have a10 := t_add e82 i34 (in_c 1 rfl) rfl; omega⟩
                  have v26 : z82 = (sF sc26 46 2 z82).2.2.1 46 2 := sF_get
                  have n26 : (z82).toInt ≤ (u_46_1).toInt := by (first | have a0 := oa7 h2 h1 i34a i34 j26_4 j26_3 i26 | ((first | have a0 := in_u h2 | (have a0 := h2; unfold In at a0)); (first | have a1 := in_u h1 | (have a1 := h1; unfold In at a1)); (first | have a2 := in_u i34a | (have a2 := i34a; unfold In at a2)); (first | have a3 := in_u i34 | (have a3 := i34; unfold In at a3)); (first | have a4 := in_u j26_4 | (have a4 := j26_4; unfold In at a4)); (first | have a5 := in_u j26_3 | (have a5 := j26_3; unfold In at a5)); (first | have a6 := in_u i26 | (have a6 := i26; unfold In at a6)))); have a7 := t_add e48 j26_3 (in_c 1 rfl) rfl; (first | have a8 := oa2 ((in_c 1 rfl)) i82 | ((first | have a8 := in_u ((in_c 1 rfl)) | (have a8 := (in_c 1 rfl); unfold In at a8)); (first | have a9 := in_u i82 | (have a9 := i82; unfold In at a9)))); have a10 := t_add e82 i34 (in_c 1 rfl) rfl; omega
                  have n26a : (u_46_2).toInt + (x1).toInt ≤ (z82).toInt := by (first | have a0 := oa7 h2 h1 i34a i34 j26_4 j26_3 i26 | ((first | have a0 := in_u h2 | (have a0 := h2; unfold In at a0)); (first | have a1 := in_u h1 | (have a1 := h1; unfold In at a1)); (first | have a2 := in_u i34a | (have a2 := i34a; unfold In at a2)); (first | have a3 := in_u i34 | (have a3 := i34; unfold In at a3)); (first | have a4 := in_u j26_4 | (have a4 := j26_4; unfold In at a4)); (first | have a5 := in_u j26_3 | (have a5 := j26_3; unfold In at a5)); (first | have a6 := in_u i26 | (have a6 := i26; unfold In at a6)))); have a7 := t_add e48 j26_3 (in_c 1 rfl) rfl; (first | have a8 := oa2 ((in_c 1 rfl)) i82 | ((first | have a8 := in_u ((in_c 1 rfl)) | (have a8 := (in_c 1 rfl); unfold In at a8)); (first | have a9 := in_u i82 | (have a9 := i82; unfold In at a9)))); have a10 := t_add e82 i34 (in_c 1 rfl) rfl; omega
                  have n26b : (z48).toInt ≤ (z82).toInt := by (first | have a0 := oa7 h2 h1 i34a i34 j26_4 j26_3 i26 | ((first | have a0 := in_u h2 | (have a0 := h2; unfold In at a0)); (first | have a1 := in_u h1 | (have a1 := h1; unfold In at a1)); (first | have a2 := in_u i34a | (have a2 := i34a; unfold In at a2)); (first | have a3 := in_u i34 | (have a3 := i34; unfold In at a3)); (first | have a4 := in_u j26_4 | (have a4 := j26_4; unfold In at a4)); (first | have a5 := in_u j26_3 | (have a5 := j26_3; unfold In at a5)); (first | have a6 := in_u i26 | (have a6 := i26; unfold In at a6)))); have a7 := t_add e48 j26_3 (in_c 1 rfl) rfl; (first | have a8 := oa2 ((in_c 1 rfl)) i82 | ((first | have a8 := in_u ((in_c 1 rfl)) | (have a8 := (in_c 1 rfl); unfold In at a8)); (first | have a9 := in_u i82 | (have a9 := i82; unfold In at a9)))); have a10 := t_add e82 i34 (in_c 1 rfl) rfl; omega
                  have n26c : 0 ≤ (y26_4).toInt ∧ ((z48).toInt ≤ (x2).toInt → (y26_4).toInt < (10 : Int) ^ ((z48).toInt).toNat) ∧ ((x2).toInt < (z48).toInt → (y26_4).toInt < (10 : Int) ^ ((x2).toInt).toNat) := by exact ⟨g26_0.1, fun h => absurd h (by (first | have a0 := oa7 h2 h1 i34a i34 j26_4 j26_3 i26 | ((first | have a0 := in_u h2 | (have a0 := h2; unfold In at a0)); (first | have a1 := in_u h1 | (have a1 := h1; unfold In at a1)); (first | have a2 := in_u i34a | (have a2 := i34a; unfold In at a2)); (first | have a3 := in_u i34 | (have a3 := i34; unfold In at a3)); (first | have a4 := in_u j26_4 | (have a4 := j26_4; unfold In at a4)); (first | have a5 := in_u j26_3 | (have a5 := j26_3; unfold In at a5)); (first | have a6 := in_u i26 | (have a6 := i26; unfold In at a6)))); have a7 := t_add e48 j26_3 (in_c 1 rfl) rfl; (first | have a8 := oa2 ((in_c 1 rfl)) i82 | ((first | have a8 := in_u ((in_c 1 rfl)) | (have a8 := (in_c 1 rfl); unfold In at a8)); (first | have a9 := in_u i82 | (have a9 := i82; unfold In at a9)))); have a10 := t_add e82 i34 (in_c 1 rfl) rfl; omega), fun _ => (Int.lt_or_le (x2).toInt (y26_3).toInt).elim g26_0.2.2 (fun hh => by have e7 : y26_3.toInt = x2.toInt := (by (first | have a0 := oa7 h2 h1 i34a i34 j26_4 j26_3 i26 | ((first | have a0 := in_u h2 | (have a0 := h2; unfold In at a0)); (first | have a1 := in_u h1 | (have a1 := h1; unfold In at a1)); (first | have a2 := in_u i34a | (have a2 := i34a; unfold In at a2)); (first | have a3 := in_u i34 | (have a3 := i34; unfold In at a3)); (first | have a4 := in_u j26_4 | (have a4 := j26_4; unfold In at a4)); (first | have a5 := in_u j26_3 | (have a5 := j26_3; unfold In at a5)); (first | have a6 := in_u i26 | (have a6 := i26; unfold In at a6)))); have a7 := t_add e48 j26_3 (in_c 1 rfl) rfl; (first | have a8 := oa2 ((in_c 1 rfl)) i82 | ((first | have a8 := in_u ((in_c 1 rfl)) | (have a8 := (in_c 1 rfl); unfold In at a8)); (first | have a9 := in_u i82 | (have a9 := i82; unfold In at a9)))); have a10 := t_add e82 i34 (in_c 1 rfl) rfl; omega); rw [← e7]; exact g26_0.2.1 hh)⟩
                  have m26 : (u_46_1).toInt - (z82).toInt < ((k26 : Nat) : Int) := by (first | have a0 := oa7 h2 h1 i34a i34 j26_4 j26_3 i26 | ((first | have a0 := in_u h2 | (have a0 := h2; unfold In at a0)); (first | have a1 := in_u h1 | (have a1 := h1; unfold In at a1)); (first | have a2 := in_u i34a | (have a2 := i34a; unfold In at a2)); (first | have a3 := in_u i34 | (have a3 := i34; unfold In at a3)); (first | have a4 := in_u j26_4 | (have a4 := j26_4; unfold In at a4)); (first | have a5 := in_u j26_3 | (have a5 := j26_3; unfold In at a5)); (first | have a6 := in_u i26 | (have a6 := i26; unfold In at a6)))); have a7 := t_add e48 j26_3 (in_c 1 rfl) rfl; (first | have a8 := oa2 ((in_c 1 rfl)) i82 | ((first | have a8 := in_u ((in_c 1 rfl)) | (have a8 := (in_c 1 rfl); unfold In at a8)); (first | have a9 := in_u i82 | (have a9 := i82; unfold In at a9)))); have a10 := t_add e82 i34 (in_c 1 rfl) rfl; omega
                  exact gg_w (by first | exact Nat.le_add_right _ _ | exact gw2 | exact gw3 | exact gwe rfl | exact gwf rfl | exact gwg rfl | exact gwh rfl | omega) (gg_f (gf_cons rfl (gf_cons rfl (gf_cons rfl (gf_cons rfl (gf_cons rfl gf_nil))))) (ih26  (sF sc26 46 2 z82) z48 y26_4 z82 hI83 (fr_sF rfl hFc26) i26 (in_w 0 9999999 j26_4 rfl) v26 n26 n26a n26b n26c m26))
                · skip
                  have i53 := r_le1 1 7 c53 i48 h2 rfl
                  refine g_iload 58 (gd rfl) rfl rfl ?_
                  refine g_bipush 10 60 (gd rfl) rfl rfl ?_
                  refine g_imul 61 (gd rfl) rfl (fun z60 e60 => ?_)
                  have i60 := in_mulc 10 0 99999990 (Or.inr e60) j26_4 rfl rfl
                  refine g_aload_n 62 (gd rfl) rfl rfl ?_
                  refine g_getA (q2 := 47) 65 (gd rfl) rfl rfl rfl rfl ?_
                  refine g_aload_n 66 (gd rfl) rfl rfl ?_
                  refine g_getI 69 (gd rfl) rfl rfl rfl (fun z66 e66 => ?_)
                  have q66 : w26_46_2 = z66 := (v26_46_2).trans e66.symm
                  subst q66
                  refine g_caload 70 (gd rfl) rfl (n := 1000) rfl (in_ix i34 rfl) (fun z69 e69 => ?_)
                  have q69 : z42x13 = z69 := (e42x13).trans e69.symm
                  subst q69
                  refine g_bipush 48 72 (gd rfl) rfl rfl ?_
                  refine g_isub 73 (gd rfl) rfl (fun z72 e72 => ?_)
                  have i72 := in_sub 0 9 e72 i42x27 (in_c 48 rfl) rfl rfl
                  refine g_iadd 74 (gd rfl) rfl (fun z73 e73 => ?_)
                  have i73 := in_add 0 99999999 e73 i60 i72 rfl rfl
                  have hq := dg_st (a := y26_4.toInt) (d := z72.toInt) (n := y26_3.toInt) (by (first | have a0 := oa7 h2 h1 i34a i34 j26_4 j26_3 i53 | ((first | have a0 := in_u h2 | (have a0 := h2; unfold In at a0)); (first | have a1 := in_u h1 | (have a1 := h1; unfold In at a1)); (first | have a2 := in_u i34a | (have a2 := i34a; unfold In at a2)); (first | have a3 := in_u i34 | (have a3 := i34; unfold In at a3)); (first | have a4 := in_u j26_4 | (have a4 := j26_4; unfold In at a4)); (first | have a5 := in_u j26_3 | (have a5 := j26_3; unfold In at a5)); (first | have a6 := in_u i53 | (have a6 := i53; unfold In at a6)))); have a7 := t_add e48 j26_3 (in_c 1 rfl) rfl; (first | have a8 := oa2 ((in_c 1 rfl)) i73 | ((first | have a8 := in_u ((in_c 1 rfl)) | (have a8 := (in_c 1 rfl); unfold In at a8)); (first | have a9 := in_u i73 | (have a9 := i73; unfold In at a9)))); have a10 := t_add e73 i60 i72 rfl; (first | have a11 := in_u i72 | (have a11 := i72; unfold In at a11)); have a12 := t_sub e72 i42x27 (in_c 48 rfl) rfl; (first | have a13 := oa3 ((in_c 48 rfl)) i42x27 i60 | ((first | have a13 := in_u ((in_c 48 rfl)) | (have a13 := (in_c 48 rfl); unfold In at a13)); (first | have a14 := in_u i42x27 | (have a14 := i42x27; unfold In at a14)); (first | have a15 := in_u i60 | (have a15 := i60; unfold In at a15)))); have a16 := (t_mulc 10 (Or.inr e60) j26_4 rfl).1; omega) g26_0.1 (g26_0.2.1 (by (first | have a0 := oa7 h2 h1 i34a i34 j26_4 j26_3 i53 | ((first | have a0 := in_u h2 | (have a0 := h2; unfold In at a0)); (first | have a1 := in_u h1 | (have a1 := h1; unfold In at a1)); (first | have a2 := in_u i34a | (have a2 := i34a; unfold In at a2)); (first | have a3 := in_u i34 | (have a3 := i34; unfold In at a3)); (first | have a4 := in_u j26_4 | (have a4 := j26_4; unfold In at a4)); (first | have a5 := in_u j26_3 | (have a5 := j26_3; unfold In at a5)); (first | have a6 := in_u i53 | (have a6 := i53; unfold In at a6)))); have a7 := t_add e48 j26_3 (in_c 1 rfl) rfl; (first | have a8 := oa2 ((in_c 1 rfl)) i73 | ((first | have a8 := in_u ((in_c 1 rfl)) | (have a8 := (in_c 1 rfl); unfold In at a8)); (first | have a9 := in_u i73 | (have a9 := i73; unfold In at a9)))); have a10 := t_add e73 i60 i72 rfl; (first | have a11 := in_u i72 | (have a11 := i72; unfold In at a11)); have a12 := t_sub e72 i42x27 (in_c 48 rfl) rfl; (first | have a13 := oa3 ((in_c 48 rfl)) i42x27 i60 | ((first | have a13 := in_u ((in_c 48 rfl)) | (have a13 := (in_c 48 rfl); unfold In at a13)); (first | have a14 := in_u i42x27 | (have a14 := i42x27; unfold In at a14)); (first | have a15 := in_u i60 | (have a15 := i60; unfold In at a15)))); have a16 := (t_mulc 10 (Or.inr e60) j26_4 rfl).1; omega)) (by (first | have a0 := oa7 h2 h1 i34a i34 j26_4 j26_3 i53 | ((first | have a0 := in_u h2 | (have a0 := h2; unfold In at a0)); (first | have a1 := in_u h1 | (have a1 := h1; unfold In at a1)); (first | have a2 := in_u i34a | (have a2 := i34a; unfold In at a2)); (first | have a3 := in_u i34 | (have a3 := i34; unfold In at a3)); (first | have a4 := in_u j26_4 | (have a4 := j26_4; unfold In at a4)); (first | have a5 := in_u j26_3 | (have a5 := j26_3; unfold In at a5)); (first | have a6 := in_u i53 | (have a6 := i53; unfold In at a6)))); have a7 := t_add e48 j26_3 (in_c 1 rfl) rfl; (first | have a8 := oa2 ((in_c 1 rfl)) i73 | ((first | have a8 := in_u ((in_c 1 rfl)) | (have a8 := (in_c 1 rfl); unfold In at a8)); (first | have a9 := in_u i73 | (have a9 := i73; unfold In at a9)))); have a10 := t_add e73 i60 i72 rfl; (first | have a11 := in_u i72 | (have a11 := i72; unfold In at a11)); have a12 := t_sub e72 i42x27 (in_c 48 rfl) rfl; (first | have a13 := oa3 ((in_c 48 rfl)) i42x27 i60 | ((first | have a13 := in_u ((in_c 48 rfl)) | (have a13 := (in_c 48 rfl); unfold In at a13)); (first | have a14 := in_u i42x27 | (have a14 := i42x27; unfold In at a14)); (first | have a15 := in_u i60 | (have a15 := i60; unfold In at a15)))); have a16 := (t_mulc 10 (Or.inr e60) j26_4 rfl).1; omega)
                  have iq : In z73 0 9999999 := (by have e7 : z73.toInt = y26_4.toInt * 10 + z72.toInt := (by (first | have a0 := oa7 h2 h1 i34a i34 j26_4 j26_3 i53 | ((first | have a0 := in_u h2 | (have a0 := h2; unfold In at a0)); (first | have a1 := in_u h1 | (have a1 := h1; unfold In at a1)); (first | have a2 := in_u i34a | (have a2 := i34a; unfold In at a2)); (first | have a3 := in_u i34 | (have a3 := i34; unfold In at a3)); (first | have a4 := in_u j26_4 | (have a4 := j26_4; unfold In at a4)); (first | have a5 := in_u j26_3 | (have a5 := j26_3; unfold In at a5)); (first | have a6 := in_u i53 | (have a6 := i53; unfold In at a6)))); have a7 := t_add e48 j26_3 (in_c 1 rfl) rfl; (first | have a8 := oa2 ((in_c 1 rfl)) i73 | ((first | have a8 := in_u ((in_c 1 rfl)) | (have a8 := (in_c 1 rfl); unfold In at a8)); (first | have a9 := in_u i73 | (have a9 := i73; unfold In at a9)))); have a10 := t_add e73 i60 i72 rfl; (first | have a11 := in_u i72 | (have a11 := i72; unfold In at a11)); have a12 := t_sub e72 i42x27 (in_c 48 rfl) rfl; (first | have a13 := oa3 ((in_c 48 rfl)) i42x27 i60 | ((first | have a13 := in_u ((in_c 48 rfl)) | (have a13 := (in_c 48 rfl); unfold In at a13)); (first | have a14 := in_u i42x27 | (have a14 := i42x27; unfold In at a14)); (first | have a15 := in_u i60 | (have a15 := i60; unfold In at a15)))); have a16 := (t_mulc 10 (Or.inr e60) j26_4 rfl).1; omega); have h7 := dg_7 (n := y26_3.toInt + 1) (by (first | have a0 := oa7 h2 h1 i34a i34 j26_4 j26_3 i53 | ((first | have a0 := in_u h2 | (have a0 := h2; unfold In at a0)); (first | have a1 := in_u h1 | (have a1 := h1; unfold In at a1)); (first | have a2 := in_u i34a | (have a2 := i34a; unfold In at a2)); (first | have a3 := in_u i34 | (have a3 := i34; unfold In at a3)); (first | have a4 := in_u j26_4 | (have a4 := j26_4; unfold In at a4)); (first | have a5 := in_u j26_3 | (have a5 := j26_3; unfold In at a5)); (first | have a6 := in_u i53 | (have a6 := i53; unfold In at a6)))); have a7 := t_add e48 j26_3 (in_c 1 rfl) rfl; (first | have a8 := oa2 ((in_c 1 rfl)) i73 | ((first | have a8 := in_u ((in_c 1 rfl)) | (have a8 := (in_c 1 rfl); unfold In at a8)); (first | have a9 := in_u i73 | (have a9 := i73; unfold In at a9)))); have a10 := t_add e73 i60 i72 rfl; (first | have a11 := in_u i72 | (have a11 := i72; unfold In at a11)); have a12 := t_sub e72 i42x27 (in_c 48 rfl) rfl; (first | have a13 := oa3 ((in_c 48 rfl)) i42x27 i60 | ((first | have a13 := in_u ((in_c 48 rfl)) | (have a13 := (in_c 48 rfl); unfold In at a13)); (first | have a14 := in_u i42x27 | (have a14 := i42x27; unfold In at a14)); (first | have a15 := in_u i60 | (have a15 := i60; unfold In at a15)))); have a16 := (t_mulc 10 (Or.inr e60) j26_4 rfl).1; omega) (by (first | have a0 := oa7 h2 h1 i34a i34 j26_4 j26_3 i53 | ((first | have a0 := in_u h2 | (have a0 := h2; unfold In at a0)); (first | have a1 := in_u h1 | (have a1 := h1; unfold In at a1)); (first | have a2 := in_u i34a | (have a2 := i34a; unfold In at a2)); (first | have a3 := in_u i34 | (have a3 := i34; unfold In at a3)); (first | have a4 := in_u j26_4 | (have a4 := j26_4; unfold In at a4)); (first | have a5 := in_u j26_3 | (have a5 := j26_3; unfold In at a5)); (first | have a6 := in_u i53 | (have a6 := i53; unfold In at a6)))); have a7 := t_add e48 j26_3 (in_c 1 rfl) rfl; (first | have a8 := oa2 ((in_c 1 rfl)) i73 | ((first | have a8 := in_u ((in_c 1 rfl)) | (have a8 := (in_c 1 rfl); unfold In at a8)); (first | have a9 := in_u i73 | (have a9 := i73; unfold In at a9)))); have a10 := t_add e73 i60 i72 rfl; (first | have a11 := in_u i72 | (have a11 := i72; unfold In at a11)); have a12 := t_sub e72 i42x27 (in_c 48 rfl) rfl; (first | have a13 := oa3 ((in_c 48 rfl)) i42x27 i60 | ((first | have a13 := in_u ((in_c 48 rfl)) | (have a13 := (in_c 48 rfl); unfold In at a13)); (first | have a14 := in_u i42x27 | (have a14 := i42x27; unfold In at a14)); (first | have a15 := in_u i60 | (have a15 := i60; unfold In at a15)))); have a16 := (t_mulc 10 (Or.inr e60) j26_4 rfl).1; omega) hq.2; exact ⟨by rw [e7]; exact hq.1, by rw [e7]; exact h7⟩)
                  have i74 : In z73 0 9999999 := by exact iq
                  refine g_istore 76 (gd rfl) rfl (Nat.le_of_ble_eq_true rfl) ?_
                  refine g_aload_n 77 (gd rfl) rfl rfl ?_
                  refine g_dup 78 (gd rfl) rfl rfl ?_
                  refine g_getI 81 (gd rfl) rfl rfl rfl (fun z78 e78 => ?_)
                  have q78 : w26_46_2 = z78 := (v26_46_2).trans e78.symm
                  subst q78
                  refine g_iconst 1 82 (gd rfl) rfl rfl ?_
                  refine g_iadd 83 (gd rfl) rfl (fun z82 e82 => ?_)
                  have i82 := in_add 1 1000 e82 i34 (in_c 1 rfl) rfl rfl
                  refine g_putI 86 (gd rfl) rfl rfl rfl rfl ?_
                  have hI83 := inv_sF (q := 46) (j := 2) hIc26 rfl (in_w 0 1000 i82 rfl)
                  refine g_goto 26 (gd rfl) rfl ?_
                  have v26 : z82 = (sF sc26 46 2 z82).2.2.1 46 2 := sF_get
                  have n26 : (z82).toInt ≤ (u_46_1).toInt := by (first | have a0 := oa7 h2 h1 i34a i34 j26_4 j26_3 i74 | ((first | have a0 := in_u h2 | (have a0 := h2; unfold In at a0)); (first | have a1 := in_u h1 | (have a1 := h1; unfold In at a1)); (first | have a2 := in_u i34a | (have a2 := i34a; unfold In at a2)); (first | have a3 := in_u i34 | (have a3 := i34; unfold In at a3)); (first | have a4 := in_u j26_4 | (have a4 := j26_4; unfold In at a4)); (first | have a5 := in_u j26_3 | (have a5 := j26_3; unfold In at a5)); (first | have a6 := in_u i74 | (have a6 := i74; unfold In at a6)))); have a7 := t_add e73 i60 i72 rfl; (first | have a8 := in_u i72 | (have a8 := i72; unfold In at a8)); have a9 := t_sub e72 i42x27 (in_c 48 rfl) rfl; (first | have a10 := oa3 ((in_c 48 rfl)) i42x27 i60 | ((first | have a10 := in_u ((in_c 48 rfl)) | (have a10 := (in_c 48 rfl); unfold In at a10)); (first | have a11 := in_u i42x27 | (have a11 := i42x27; unfold In at a11)); (first | have a12 := in_u i60 | (have a12 := i60; unfold In at a12)))); have a13 := (t_mulc 10 (Or.inr e60) j26_4 rfl).1; (first | have a14 := in_u i53 | (have a14 := i53; unfold In at a14)); have a15 := t_add e48 j26_3 (in_c 1 rfl) rfl; (first | have a16 := oa2 ((in_c 1 rfl)) i82 | ((first | have a16 := in_u ((in_c 1 rfl)) | (have a16 := (in_c 1 rfl); unfold In at a16)); (first | have a17 := in_u i82 | (have a17 := i82; unfold In at a17)))); have a18 := t_add e82 i34 (in_c 1 rfl) rfl; omega
                  have n26a : (u_46_2).toInt + (x1).toInt ≤ (z82).toInt := by (first | have a0 := oa7 h2 h1 i34a i34 j26_4 j26_3 i74 | ((first | have a0 := in_u h2 | (have a0 := h2; unfold In at a0)); (first | have a1 := in_u h1 | (have a1 := h1; unfold In at a1)); (first | have a2 := in_u i34a | (have a2 := i34a; unfold In at a2)); (first | have a3 := in_u i34 | (have a3 := i34; unfold In at a3)); (first | have a4 := in_u j26_4 | (have a4 := j26_4; unfold In at a4)); (first | have a5 := in_u j26_3 | (have a5 := j26_3; unfold In at a5)); (first | have a6 := in_u i74 | (have a6 := i74; unfold In at a6)))); have a7 := t_add e73 i60 i72 rfl; (first | have a8 := in_u i72 | (have a8 := i72; unfold In at a8)); have a9 := t_sub e72 i42x27 (in_c 48 rfl) rfl; (first | have a10 := oa3 ((in_c 48 rfl)) i42x27 i60 | ((first | have a10 := in_u ((in_c 48 rfl)) | (have a10 := (in_c 48 rfl); unfold In at a10)); (first | have a11 := in_u i42x27 | (have a11 := i42x27; unfold In at a11)); (first | have a12 := in_u i60 | (have a12 := i60; unfold In at a12)))); have a13 := (t_mulc 10 (Or.inr e60) j26_4 rfl).1; (first | have a14 := in_u i53 | (have a14 := i53; unfold In at a14)); have a15 := t_add e48 j26_3 (in_c 1 rfl) rfl; (first | have a16 := oa2 ((in_c 1 rfl)) i82 | ((first | have a16 := in_u ((in_c 1 rfl)) | (have a16 := (in_c 1 rfl); unfold In at a16)); (first | have a17 := in_u i82 | (have a17 := i82; unfold In at a17)))); have a18 := t_add e82 i34 (in_c 1 rfl) rfl; omega
                  have n26b : (z48).toInt ≤ (z82).toInt := by (first | have a0 := oa7 h2 h1 i34a i34 j26_4 j26_3 i74 | ((first | have a0 := in_u h2 | (have a0 := h2; unfold In at a0)); (first | have a1 := in_u h1 | (have a1 := h1; unfold In at a1)); (first | have a2 := in_u i34a | (have a2 := i34a; unfold In at a2)); (first | have a3 := in_u i34 | (have a3 := i34; unfold In at a3)); (first | have a4 := in_u j26_4 | (have a4 := j26_4; unfold In at a4)); (first | have a5 := in_u j26_3 | (have a5 := j26_3; unfold In at a5)); (first | have a6 := in_u i74 | (have a6 := i74; unfold In at a6)))); have a7 := t_add e73 i60 i72 rfl; (first | have a8 := in_u i72 | (have a8 := i72; unfold In at a8)); have a9 := t_sub e72 i42x27 (in_c 48 rfl) rfl; (first | have a10 := oa3 ((in_c 48 rfl)) i42x27 i60 | ((first | have a10 := in_u ((in_c 48 rfl)) | (have a10 := (in_c 48 rfl); unfold In at a10)); (first | have a11 := in_u i42x27 | (have a11 := i42x27; unfold In at a11)); (first | have a12 := in_u i60 | (have a12 := i60; unfold In at a12)))); have a13 := (t_mulc 10 (Or.inr e60) j26_4 rfl).1; (first | have a14 := in_u i53 | (have a14 := i53; unfold In at a14)); have a15 := t_add e48 j26_3 (in_c 1 rfl) rfl; (first | have a16 := oa2 ((in_c 1 rfl)) i82 | ((first | have a16 := in_u ((in_c 1 rfl)) | (have a16 := (in_c 1 rfl); unfold In at a16)); (first | have a17 := in_u i82 | (have a17 := i82; unfold In at a17)))); have a18 := t_add e82 i34 (in_c 1 rfl) rfl; omega
                  have n26c : 0 ≤ (z73).toInt ∧ ((z48).toInt ≤ (x2).toInt → (z73).toInt < (10 : Int) ^ ((z48).toInt).toNat) ∧ ((x2).toInt < (z48).toInt → (z73).toInt < (10 : Int) ^ ((x2).toInt).toNat) := by have e7 : z73.toInt = y26_4.toInt * 10 + z72.toInt := (by (first | have a0 := oa7 h2 h1 i34a i34 j26_4 j26_3 i74 | ((first | have a0 := in_u h2 | (have a0 := h2; unfold In at a0)); (first | have a1 := in_u h1 | (have a1 := h1; unfold In at a1)); (first | have a2 := in_u i34a | (have a2 := i34a; unfold In at a2)); (first | have a3 := in_u i34 | (have a3 := i34; unfold In at a3)); (first | have a4 := in_u j26_4 | (have a4 := j26_4; unfold In at a4)); (first | have a5 := in_u j26_3 | (have a5 := j26_3; unfold In at a5)); (first | have a6 := in_u i74 | (have a6 := i74; unfold In at a6)))); have a7 := t_add e73 i60 i72 rfl; (first | have a8 := in_u i72 | (have a8 := i72; unfold In at a8)); have a9 := t_sub e72 i42x27 (in_c 48 rfl) rfl; (first | have a10 := oa3 ((in_c 48 rfl)) i42x27 i60 | ((first | have a10 := in_u ((in_c 48 rfl)) | (have a10 := (in_c 48 rfl); unfold In at a10)); (first | have a11 := in_u i42x27 | (have a11 := i42x27; unfold In at a11)); (first | have a12 := in_u i60 | (have a12 := i60; unfold In at a12)))); have a13 := (t_mulc 10 (Or.inr e60) j26_4 rfl).1; (first | have a14 := in_u i53 | (have a14 := i53; unfold In at a14)); have a15 := t_add e48 j26_3 (in_c 1 rfl) rfl; (first | have a16 := oa2 ((in_c 1 rfl)) i82 | ((first | have a16 := in_u ((in_c 1 rfl)) | (have a16 := (in_c 1 rfl); unfold In at a16)); (first | have a17 := in_u i82 | (have a17 := i82; unfold In at a17)))); have a18 := t_add e82 i34 (in_c 1 rfl) rfl; omega); have e8 : z48.toInt = y26_3.toInt + 1 := (by (first | have a0 := oa7 h2 h1 i34a i34 j26_4 j26_3 i74 | ((first | have a0 := in_u h2 | (have a0 := h2; unfold In at a0)); (first | have a1 := in_u h1 | (have a1 := h1; unfold In at a1)); (first | have a2 := in_u i34a | (have a2 := i34a; unfold In at a2)); (first | have a3 := in_u i34 | (have a3 := i34; unfold In at a3)); (first | have a4 := in_u j26_4 | (have a4 := j26_4; unfold In at a4)); (first | have a5 := in_u j26_3 | (have a5 := j26_3; unfold In at a5)); (first | have a6 := in_u i74 | (have a6 := i74; unfold In at a6)))); have a7 := t_add e73 i60 i72 rfl; (first | have a8 := in_u i72 | (have a8 := i72; unfold In at a8)); have a9 := t_sub e72 i42x27 (in_c 48 rfl) rfl; (first | have a10 := oa3 ((in_c 48 rfl)) i42x27 i60 | ((first | have a10 := in_u ((in_c 48 rfl)) | (have a10 := (in_c 48 rfl); unfold In at a10)); (first | have a11 := in_u i42x27 | (have a11 := i42x27; unfold In at a11)); (first | have a12 := in_u i60 | (have a12 := i60; unfold In at a12)))); have a13 := (t_mulc 10 (Or.inr e60) j26_4 rfl).1; (first | have a14 := in_u i53 | (have a14 := i53; unfold In at a14)); have a15 := t_add e48 j26_3 (in_c 1 rfl) rfl; (first | have a16 := oa2 ((in_c 1 rfl)) i82 | ((first | have a16 := in_u ((in_c 1 rfl)) | (have a16 := (in_c 1 rfl); unfold In at a16)); (first | have a17 := in_u i82 | (have a17 := i82; unfold In at a17)))); have a18 := t_add e82 i34 (in_c 1 rfl) rfl; omega); exact ⟨by rw [e7]; exact hq.1, fun _ => by rw [e7, e8]; exact hq.2, fun h => absurd h (by (first | have a0 := oa7 h2 h1 i34a i34 j26_4 j26_3 i74 | ((first | have a0 := in_u h2 | (have a0 := h2; unfold In at a0)); (first | have a1 := in_u h1 | (have a1 := h1; unfold In at a1)); (first | have a2 := in_u i34a | (have a2 := i34a; unfold In at a2)); (first | have a3 := in_u i34 | (have a3 := i34; unfold In at a3)); (first | have a4 := in_u j26_4 | (have a4 := j26_4; unfold In at a4)); (first | have a5 := in_u j26_3 | (have a5 := j26_3; unfold In at a5)); (first | have a6 := in_u i74 | (have a6 := i74; unfold In at a6)))); have a7 := t_add e73 i60 i72 rfl; (first | have a8 := in_u i72 | (have a8 := i72; unfold In at a8)); have a9 := t_sub e72 i42x27 (in_c 48 rfl) rfl; (first | have a10 := oa3 ((in_c 48 rfl)) i42x27 i60 | ((first | have a10 := in_u ((in_c 48 rfl)) | (have a10 := (in_c 48 rfl); unfold In at a10)); (first | have a11 := in_u i42x27 | (have a11 := i42x27; unfold In at a11)); (first | have a12 := in_u i60 | (have a12 := i60; unfold In at a12)))); have a13 := (t_mulc 10 (Or.inr e60) j26_4 rfl).1; (first | have a14 := in_u i53 | (have a14 := i53; unfold In at a14)); have a15 := t_add e48 j26_3 (in_c 1 rfl) rfl; (first | have a16 := oa2 ((in_c 1 rfl)) i82 | ((first | have a16 := in_u ((in_c 1 rfl)) | (have a16 := (in_c 1 rfl); unfold In at a16)); (first | have a17 := in_u i82 | (have a17 := i82; unfold In at a17)))); have a18 := t_add e82 i34 (in_c 1 rfl) rfl; omega)⟩
                  have m26 : (u_46_1).toInt - (z82).toInt < ((k26 : Nat) : Int) := by (first | have a0 := oa7 h2 h1 i34a i34 j26_4 j26_3 i74 | ((first | have a0 := in_u h2 | (have a0 := h2; unfold In at a0)); (first | have a1 := in_u h1 | (have a1 := h1; unfold In at a1)); (first | have a2 := in_u i34a | (have a2 := i34a; unfold In at a2)); (first | have a3 := in_u i34 | (have a3 := i34; unfold In at a3)); (first | have a4 := in_u j26_4 | (have a4 := j26_4; unfold In at a4)); (first | have a5 := in_u j26_3 | (have a5 := j26_3; unfold In at a5)); (first | have a6 := in_u i74 | (have a6 := i74; unfold In at a6)))); have a7 := t_add e73 i60 i72 rfl; (first | have a8 := in_u i72 | (have a8 := i72; unfold In at a8)); have a9 := t_sub e72 i42x27 (in_c 48 rfl) rfl; (first | have a10 := oa3 ((in_c 48 rfl)) i42x27 i60 | ((first | have a10 := in_u ((in_c 48 rfl)) | (have a10 := (in_c 48 rfl); unfold In at a10)); (first | have a11 := in_u i42x27 | (have a11 := i42x27; unfold In at a11)); (first | have a12 := in_u i60 | (have a12 := i60; unfold In at a12)))); have a13 := (t_mulc 10 (Or.inr e60) j26_4 rfl).1; (first | have a14 := in_u i53 | (have a14 := i53; unfold In at a14)); have a15 := t_add e48 j26_3 (in_c 1 rfl) rfl; (first | have a16 := oa2 ((in_c 1 rfl)) i82 | ((first | have a16 := in_u ((in_c 1 rfl)) | (have a16 := (in_c 1 rfl); unfold In at a16)); (first | have a17 := in_u i82 | (have a17 := i82; unfold In at a17)))); have a18 := t_add e82 i34 (in_c 1 rfl) rfl; omega
                  exact gg_w (by first | exact Nat.le_add_right _ _ | exact gw2 | exact gw3 | exact gwe rfl | exact gwf rfl | exact gwg rfl | exact gwh rfl | omega) (gg_f (gf_cons rfl (gf_cons rfl (gf_cons rfl (gf_cons rfl (gf_cons rfl gf_nil))))) (ih26  (sF sc26 46 2 z82) z48 z73 z82 hI83 (fr_sF rfl hFc26) (in_w 0 1000 i53 rfl) (in_w 0 9999999 i74 rfl) v26 n26 n26a n26b n26c m26))
  refine g_enter2 (k := 173) (N := 901801) (by first | exact dq1 hd rfl | exact dq0 hd rfl | exact dq2 hd rfl | exact dq3 hd rfl | omega) rfl (Nat.le_of_ble_eq_true rfl) ?_
  refine g_iconst 0 1 (gd rfl) rfl rfl ?_
  refine g_istore_n 2 (gd rfl) rfl (Nat.le_of_ble_eq_true rfl) ?_
  refine g_iconst 0 3 (gd rfl) rfl rfl ?_
  refine g_istore 5 (gd rfl) rfl (Nat.le_of_ble_eq_true rfl) ?_
  refine g_aload_n 6 (gd rfl) rfl rfl ?_
  refine g_iload_n 7 (gd rfl) rfl rfl ?_
  refine g_if_eq 10 19 (gd rfl) rfl rfl (fun c7 => ?_) (fun c7 => ?_)
  · skip
    have i7 := z_eq 0 0 c7 h1 rfl
    refine g_aload_n 20 (gd rfl) rfl rfl ?_
    refine g_getI 23 (gd rfl) rfl rfl rfl (fun z20 e20 => ?_)
    have q20 : u_46_2 = z20 := (e_46_2).trans e20.symm
    subst q20
    refine g_putI 26 (gd rfl) rfl rfl rfl rfl ?_
    have hI23 := inv_sF (q := 46) (j := 2) hI rfl (in_w 0 1000 (inv_F hI 0 1000 rfl e_46_2) rfl)
    have v26 : u_46_2 = (sF s 46 2 u_46_2).2.2.1 46 2 := sF_get
    have n26 : (u_46_2).toInt ≤ (u_46_1).toInt := by (first | have a0 := oa5 ((inv_F hI 0 1000 rfl e_46_1)) ((inv_F hI 0 1000 rfl e_46_2)) h2 i7 ((in_c 0 rfl)) | ((first | have a0 := in_u ((inv_F hI 0 1000 rfl e_46_1)) | (have a0 := (inv_F hI 0 1000 rfl e_46_1); unfold In at a0)); (first | have a1 := in_u ((inv_F hI 0 1000 rfl e_46_2)) | (have a1 := (inv_F hI 0 1000 rfl e_46_2); unfold In at a1)); (first | have a2 := in_u h2 | (have a2 := h2; unfold In at a2)); (first | have a3 := in_u i7 | (have a3 := i7; unfold In at a3)); (first | have a4 := in_u ((in_c 0 rfl)) | (have a4 := (in_c 0 rfl); unfold In at a4)))); omega
    have n26a : (u_46_2).toInt + (x1).toInt ≤ (u_46_2).toInt := by (first | have a0 := oa5 ((inv_F hI 0 1000 rfl e_46_1)) ((inv_F hI 0 1000 rfl e_46_2)) h2 i7 ((in_c 0 rfl)) | ((first | have a0 := in_u ((inv_F hI 0 1000 rfl e_46_1)) | (have a0 := (inv_F hI 0 1000 rfl e_46_1); unfold In at a0)); (first | have a1 := in_u ((inv_F hI 0 1000 rfl e_46_2)) | (have a1 := (inv_F hI 0 1000 rfl e_46_2); unfold In at a1)); (first | have a2 := in_u h2 | (have a2 := h2; unfold In at a2)); (first | have a3 := in_u i7 | (have a3 := i7; unfold In at a3)); (first | have a4 := in_u ((in_c 0 rfl)) | (have a4 := (in_c 0 rfl); unfold In at a4)))); omega
    have n26b : ((Int32.ofInt 0)).toInt ≤ (u_46_2).toInt := by (first | have a0 := oa5 ((inv_F hI 0 1000 rfl e_46_1)) ((inv_F hI 0 1000 rfl e_46_2)) h2 i7 ((in_c 0 rfl)) | ((first | have a0 := in_u ((inv_F hI 0 1000 rfl e_46_1)) | (have a0 := (inv_F hI 0 1000 rfl e_46_1); unfold In at a0)); (first | have a1 := in_u ((inv_F hI 0 1000 rfl e_46_2)) | (have a1 := (inv_F hI 0 1000 rfl e_46_2); unfold In at a1)); (first | have a2 := in_u h2 | (have a2 := h2; unfold In at a2)); (first | have a3 := in_u i7 | (have a3 := i7; unfold In at a3)); (first | have a4 := in_u ((in_c 0 rfl)) | (have a4 := (in_c 0 rfl); unfold In at a4)))); omega
    have n26c : 0 ≤ ((Int32.ofInt 0)).toInt ∧ (((Int32.ofInt 0)).toInt ≤ (x2).toInt → ((Int32.ofInt 0)).toInt < (10 : Int) ^ (((Int32.ofInt 0)).toInt).toNat) ∧ ((x2).toInt < ((Int32.ofInt 0)).toInt → ((Int32.ofInt 0)).toInt < (10 : Int) ^ ((x2).toInt).toNat) := by exact ⟨by decide, fun _ => by decide, fun h => absurd h (by have h9 : (Int32.ofInt 0).toInt = 0 := rfl; (first | have a0 := oa5 ((inv_F hI 0 1000 rfl e_46_1)) ((inv_F hI 0 1000 rfl e_46_2)) h2 i7 ((in_c 0 rfl)) | ((first | have a0 := in_u ((inv_F hI 0 1000 rfl e_46_1)) | (have a0 := (inv_F hI 0 1000 rfl e_46_1); unfold In at a0)); (first | have a1 := in_u ((inv_F hI 0 1000 rfl e_46_2)) | (have a1 := (inv_F hI 0 1000 rfl e_46_2); unfold In at a1)); (first | have a2 := in_u h2 | (have a2 := h2; unfold In at a2)); (first | have a3 := in_u i7 | (have a3 := i7; unfold In at a3)); (first | have a4 := in_u ((in_c 0 rfl)) | (have a4 := (in_c 0 rfl); unfold In at a4)))); omega)⟩
    have m26 : (u_46_1).toInt - (u_46_2).toInt < ((1001 : Nat) : Int) := by (first | have a0 := oa5 ((inv_F hI 0 1000 rfl e_46_1)) ((inv_F hI 0 1000 rfl e_46_2)) h2 i7 ((in_c 0 rfl)) | ((first | have a0 := in_u ((inv_F hI 0 1000 rfl e_46_1)) | (have a0 := (inv_F hI 0 1000 rfl e_46_1); unfold In at a0)); (first | have a1 := in_u ((inv_F hI 0 1000 rfl e_46_2)) | (have a1 := (inv_F hI 0 1000 rfl e_46_2); unfold In at a1)); (first | have a2 := in_u h2 | (have a2 := h2; unfold In at a2)); (first | have a3 := in_u i7 | (have a3 := i7; unfold In at a3)); (first | have a4 := in_u ((in_c 0 rfl)) | (have a4 := (in_c 0 rfl); unfold In at a4)))); omega
    exact gg_w (by first | exact Nat.le_of_ble_eq_true rfl | omega) (gg_f (gf_cons rfl (gf_cons rfl (gf_cons rfl (gf_cons rfl (gf_cons rfl gf_nil))))) (ct26 1001 (sF s 46 2 u_46_2) (Int32.ofInt 0) (Int32.ofInt 0) u_46_2 hI23 (fr_sF rfl fr_rf) (in_w 0 1000 (in_c 0 rfl) rfl) (in_w 0 9999999 (in_c 0 rfl) rfl) v26 n26 n26a n26b n26c m26))
  · skip
    have i7 := z_ne 1 1 c7 h1 rfl
    refine g_aload_n 11 (gd rfl) rfl rfl ?_
    refine g_getI 14 (gd rfl) rfl rfl rfl (fun z11 e11 => ?_)
    have q11 : u_46_2 = z11 := (e_46_2).trans e11.symm
    subst q11
    refine g_iconst 1 15 (gd rfl) rfl rfl ?_
    refine g_iadd 16 (gd rfl) rfl (fun z15 e15 => ?_)
    have i15 := in_add 1 1001 e15 (inv_F hI 0 1000 rfl e_46_2) (in_c 1 rfl) rfl rfl
    refine g_goto 23 (gd rfl) rfl ?_
    have i23 : In z15 0 1000 := by (first | have a0 := oa6 ((inv_F hI 0 1000 rfl e_46_1)) ((inv_F hI 0 1000 rfl e_46_2)) h2 i7 ((in_c 0 rfl)) i15 | ((first | have a0 := in_u ((inv_F hI 0 1000 rfl e_46_1)) | (have a0 := (inv_F hI 0 1000 rfl e_46_1); unfold In at a0)); (first | have a1 := in_u ((inv_F hI 0 1000 rfl e_46_2)) | (have a1 := (inv_F hI 0 1000 rfl e_46_2); unfold In at a1)); (first | have a2 := in_u h2 | (have a2 := h2; unfold In at a2)); (first | have a3 := in_u i7 | (have a3 := i7; unfold In at a3)); (first | have a4 := in_u ((in_c 0 rfl)) | (have a4 := (in_c 0 rfl); unfold In at a4)); (first | have a5 := in_u i15 | (have a5 := i15; unfold In at a5)))); have a6 := t_add e15 (inv_F hI 0 1000 rfl e_46_2) (in_c 1 rfl) rfl; (first | have a7 := in_u ((in_c 1 rfl)) | (have a7 := (in_c 1 rfl); unfold In at a7)); exact ⟨by omega, by omega⟩
    refine g_putI 26 (gd rfl) rfl rfl rfl rfl ?_
    have hI23 := inv_sF (q := 46) (j := 2) hI rfl (in_w 0 1000 i23 rfl)
    have v26 : z15 = (sF s 46 2 z15).2.2.1 46 2 := sF_get
    have n26 : (z15).toInt ≤ (u_46_1).toInt := by (first | have a0 := oa6 ((inv_F hI 0 1000 rfl e_46_1)) ((inv_F hI 0 1000 rfl e_46_2)) h2 i7 ((in_c 0 rfl)) i23 | ((first | have a0 := in_u ((inv_F hI 0 1000 rfl e_46_1)) | (have a0 := (inv_F hI 0 1000 rfl e_46_1); unfold In at a0)); (first | have a1 := in_u ((inv_F hI 0 1000 rfl e_46_2)) | (have a1 := (inv_F hI 0 1000 rfl e_46_2); unfold In at a1)); (first | have a2 := in_u h2 | (have a2 := h2; unfold In at a2)); (first | have a3 := in_u i7 | (have a3 := i7; unfold In at a3)); (first | have a4 := in_u ((in_c 0 rfl)) | (have a4 := (in_c 0 rfl); unfold In at a4)); (first | have a5 := in_u i23 | (have a5 := i23; unfold In at a5)))); have a6 := t_add e15 (inv_F hI 0 1000 rfl e_46_2) (in_c 1 rfl) rfl; (first | have a7 := in_u ((in_c 1 rfl)) | (have a7 := (in_c 1 rfl); unfold In at a7)); omega
    have n26a : (u_46_2).toInt + (x1).toInt ≤ (z15).toInt := by (first | have a0 := oa6 ((inv_F hI 0 1000 rfl e_46_1)) ((inv_F hI 0 1000 rfl e_46_2)) h2 i7 ((in_c 0 rfl)) i23 | ((first | have a0 := in_u ((inv_F hI 0 1000 rfl e_46_1)) | (have a0 := (inv_F hI 0 1000 rfl e_46_1); unfold In at a0)); (first | have a1 := in_u ((inv_F hI 0 1000 rfl e_46_2)) | (have a1 := (inv_F hI 0 1000 rfl e_46_2); unfold In at a1)); (first | have a2 := in_u h2 | (have a2 := h2; unfold In at a2)); (first | have a3 := in_u i7 | (have a3 := i7; unfold In at a3)); (first | have a4 := in_u ((in_c 0 rfl)) | (have a4 := (in_c 0 rfl); unfold In at a4)); (first | have a5 := in_u i23 | (have a5 := i23; unfold In at a5)))); have a6 := t_add e15 (inv_F hI 0 1000 rfl e_46_2) (in_c 1 rfl) rfl; (first | have a7 := in_u ((in_c 1 rfl)) | (have a7 := (in_c 1 rfl); unfold In at a7)); omega
    have n26b : ((Int32.ofInt 0)).toInt ≤ (z15).toInt := by (first | have a0 := oa6 ((inv_F hI 0 1000 rfl e_46_1)) ((inv_F hI 0 1000 rfl e_46_2)) h2 i7 ((in_c 0 rfl)) i23 | ((first | have a0 := in_u ((inv_F hI 0 1000 rfl e_46_1)) | (have a0 := (inv_F hI 0 1000 rfl e_46_1); unfold In at a0)); (first | have a1 := in_u ((inv_F hI 0 1000 rfl e_46_2)) | (have a1 := (inv_F hI 0 1000 rfl e_46_2); unfold In at a1)); (first | have a2 := in_u h2 | (have a2 := h2; unfold In at a2)); (first | have a3 := in_u i7 | (have a3 := i7; unfold In at a3)); (first | have a4 := in_u ((in_c 0 rfl)) | (have a4 := (in_c 0 rfl); unfold In at a4)); (first | have a5 := in_u i23 | (have a5 := i23; unfold In at a5)))); have a6 := t_add e15 (inv_F hI 0 1000 rfl e_46_2) (in_c 1 rfl) rfl; (first | have a7 := in_u ((in_c 1 rfl)) | (have a7 := (in_c 1 rfl); unfold In at a7)); omega
    have n26c : 0 ≤ ((Int32.ofInt 0)).toInt ∧ (((Int32.ofInt 0)).toInt ≤ (x2).toInt → ((Int32.ofInt 0)).toInt < (10 : Int) ^ (((Int32.ofInt 0)).toInt).toNat) ∧ ((x2).toInt < ((Int32.ofInt 0)).toInt → ((Int32.ofInt 0)).toInt < (10 : Int) ^ ((x2).toInt).toNat) := by exact ⟨by decide, fun _ => by decide, fun h => absurd h (by have h9 : (Int32.ofInt 0).toInt = 0 := rfl; (first | have a0 := oa6 ((inv_F hI 0 1000 rfl e_46_1)) ((inv_F hI 0 1000 rfl e_46_2)) h2 i7 ((in_c 0 rfl)) i23 | ((first | have a0 := in_u ((inv_F hI 0 1000 rfl e_46_1)) | (have a0 := (inv_F hI 0 1000 rfl e_46_1); unfold In at a0)); (first | have a1 := in_u ((inv_F hI 0 1000 rfl e_46_2)) | (have a1 := (inv_F hI 0 1000 rfl e_46_2); unfold In at a1)); (first | have a2 := in_u h2 | (have a2 := h2; unfold In at a2)); (first | have a3 := in_u i7 | (have a3 := i7; unfold In at a3)); (first | have a4 := in_u ((in_c 0 rfl)) | (have a4 := (in_c 0 rfl); unfold In at a4)); (first | have a5 := in_u i23 | (have a5 := i23; unfold In at a5)))); have a6 := t_add e15 (inv_F hI 0 1000 rfl e_46_2) (in_c 1 rfl) rfl; (first | have a7 := in_u ((in_c 1 rfl)) | (have a7 := (in_c 1 rfl); unfold In at a7)); omega)⟩
    have m26 : (u_46_1).toInt - (z15).toInt < ((1001 : Nat) : Int) := by (first | have a0 := oa6 ((inv_F hI 0 1000 rfl e_46_1)) ((inv_F hI 0 1000 rfl e_46_2)) h2 i7 ((in_c 0 rfl)) i23 | ((first | have a0 := in_u ((inv_F hI 0 1000 rfl e_46_1)) | (have a0 := (inv_F hI 0 1000 rfl e_46_1); unfold In at a0)); (first | have a1 := in_u ((inv_F hI 0 1000 rfl e_46_2)) | (have a1 := (inv_F hI 0 1000 rfl e_46_2); unfold In at a1)); (first | have a2 := in_u h2 | (have a2 := h2; unfold In at a2)); (first | have a3 := in_u i7 | (have a3 := i7; unfold In at a3)); (first | have a4 := in_u ((in_c 0 rfl)) | (have a4 := (in_c 0 rfl); unfold In at a4)); (first | have a5 := in_u i23 | (have a5 := i23; unfold In at a5)))); have a6 := t_add e15 (inv_F hI 0 1000 rfl e_46_2) (in_c 1 rfl) rfl; (first | have a7 := in_u ((in_c 1 rfl)) | (have a7 := (in_c 1 rfl); unfold In at a7)); omega
    exact gg_w (by first | exact Nat.le_of_ble_eq_true rfl | omega) (gg_f (gf_cons rfl (gf_cons rfl (gf_cons rfl (gf_cons rfl (gf_cons rfl gf_nil))))) (ct26 1001 (sF s 46 2 z15) (Int32.ofInt 0) (Int32.ofInt 0) z15 hI23 (fr_sF rfl fr_rf) (in_w 0 1000 (in_c 0 rfl) rfl) (in_w 0 9999999 (in_c 0 rfl) rfl) v26 n26 n26a n26b n26c m26))

def fm_57_102 : FM := ([104], [], [(102, 4)], [])
/-- GraphHouse$Engine.emit -/
theorem k_57_102 {Z : AmZ} {A : Nat → Nat} {s : GS} {ex : va_W} {d : Nat} {X : AmX} {x1 : Int32} {u_102_4 : Int32} (hd : 1 ≤ d) (hI : Inv s) (e_102_4 : u_102_4 = s.2.2.1 102 4) (p_0 : (u_102_4).toInt ≤ 119) : GC Z d 57 [.ref (A 102), .int x1] (WW Z A s ++ ex) 0 0 (fun v u => ∃ t : GS, Inv t ∧ Fr fm_57_102 s t ∧ ((t.2.2.1 102 4).toInt = (s.2.2.1 102 4).toInt + 1) ∧ ∃ z : Int32, v = some (.int z) ∧ u = WW Z A t ++ ex ∧ In z 1 1 ∧ (t.1 104 = upd (s.1 104) (s.2.2.1 102 4).toNatClampNeg x1)) X := by
  intro post xp hP hX
  refine g_enter2 (k := 57) (N := 900) (by first | exact dq1 hd rfl | exact dq0 hd rfl | exact dq2 hd rfl | exact dq3 hd rfl | omega) rfl (Nat.le_of_ble_eq_true rfl) ?_
  refine g_aload_n 1 (gd rfl) rfl rfl ?_
  refine g_getI 4 (gd rfl) rfl rfl rfl (fun z1 e1 => ?_)
  have q1 : u_102_4 = z1 := (e_102_4).trans e1.symm
  subst q1
  refine g_bipush 120 6 (gd rfl) rfl rfl ?_
  refine g_cmp_ge 9 29 (gd rfl) rfl rfl (fun c6 => ?_) (fun c6 => ?_)
  · skip
    have i6 := r_le2 120 120 c6 (in_c 120 rfl) (inv_F hI 0 120 rfl e_102_4) rfl
    exfalso
    (first | have a0 := in_u i6 | (have a0 := i6; unfold In at a0)); omega
  · skip
    have i6 := r_lt1 0 119 c6 (inv_F hI 0 120 rfl e_102_4) (in_c 120 rfl) rfl
    refine g_aload_n 10 (gd rfl) rfl rfl ?_
    refine g_getA (q2 := 104) 13 (gd rfl) rfl rfl rfl rfl ?_
    refine g_aload_n 14 (gd rfl) rfl rfl ?_
    refine g_getI 17 (gd rfl) rfl rfl rfl (fun z14 e14 => ?_)
    have q14 : u_102_4 = z14 := (e_102_4).trans e14.symm
    subst q14
    refine g_iload_n 18 (gd rfl) rfl rfl ?_
    refine g_iastore 19 (gd rfl) rfl (n := 120) rfl (in_ix i6 rfl) ?_
    have hI18 := inv_sI (q := 104) (j := u_102_4.toNatClampNeg) hI rfl (in_w (-2147483648) 2147483647 (i_rng x1) rfl)
    refine g_aload_n 20 (gd rfl) rfl rfl ?_
    refine g_dup 21 (gd rfl) rfl rfl ?_
    refine g_getI 24 (gd rfl) rfl rfl rfl (fun z21 e21 => ?_)
    have q21 : u_102_4 = z21 := (sI_F (e_102_4)).trans e21.symm
    subst q21
    refine g_iconst 1 25 (gd rfl) rfl rfl ?_
    refine g_iadd 26 (gd rfl) rfl (fun z25 e25 => ?_)
    have i25 := in_add 1 120 e25 i6 (in_c 1 rfl) rfl rfl
    refine g_putI 29 (gd rfl) rfl rfl rfl rfl ?_
    have hI26 := inv_sF (q := 102) (j := 4) hI18 rfl (in_w 0 120 i25 rfl)
    refine g_iconst 1 30 (gd rfl) rfl rfl ?_
    have n30 : (sF (sI s 104 u_102_4.toNatClampNeg x1) 102 4 z25).1 104 = upd (s.1 104) (s.2.2.1 102 4).toNatClampNeg x1 := by rw [← e_102_4]; simp [sI, sF]
    have n30a : (z25).toInt = (u_102_4).toInt + 1 := by (first | have a0 := oa2 i6 i25 | ((first | have a0 := in_u i6 | (have a0 := i6; unfold In at a0)); (first | have a1 := in_u i25 | (have a1 := i25; unfold In at a1)))); have a2 := t_add e25 i6 (in_c 1 rfl) rfl; (first | have a3 := in_u ((in_c 1 rfl)) | (have a3 := (in_c 1 rfl); unfold In at a3)); omega
    have n30b : ((sF (sI s 104 u_102_4.toNatClampNeg x1) 102 4 z25).2.2.1 102 4).toInt = (s.2.2.1 102 4).toInt + 1 := by have b0 : z25 = (sF (sI s 104 u_102_4.toNatClampNeg x1) 102 4 z25).2.2.1 102 4 := sF_get; first | (rw [← b0, ← e_102_4]; exact n30a) | (rw [← b0]; exact n30a)
    exact g_ireturn (gd rfl) rfl (nb01 (in_w 0 1 (in_c 1 rfl) rfl)) (hP _ _ ⟨(sF (sI s 104 u_102_4.toNatClampNeg x1) 102 4 z25), hI26, (fr_sF rfl (fr_sI rfl fr_rf)), n30b, (Int32.ofInt 1), rfl, rfl, in_w 1 1 (in_c 1 rfl) rfl, n30⟩)

def fm_105_2 : FM := ([4], [], [(2, 2), (2, 3)], [])
def fm_132_1_2 : FM := ([4, 5, 6, 7, 8], [], [(2, 2), (2, 3)], [])
def fm_133_1_2 : FM := ([6, 7, 8], [], [], [])
def fm_131_1_2 : FM := ([3, 4, 5, 6, 7, 8], [], [(2, 0), (2, 1), (2, 2), (2, 3)], [])
def fm_105_32 : FM := ([34], [], [(32, 2), (32, 3)], [])
def fm_132_1_32 : FM := ([34, 35, 36, 37, 38], [], [(32, 2), (32, 3)], [])
def fm_133_1_32 : FM := ([36, 37, 38], [], [], [])
def fm_129_1 : FM := ([3, 4, 5, 6, 7, 8, 30], [], [(2, 0), (2, 1), (2, 2), (2, 3), (30, 0)], [])
end
section
/-! methods, by vc.py -/
def fm_125_1 : FM := ([3, 4, 5, 6, 7, 8, 30], [], [(2, 0), (2, 1), (2, 2), (2, 3), (30, 0)], [])
def fm_124_1 : FM := ([3, 4, 5, 6, 7, 8, 30], [], [(2, 0), (2, 1), (2, 2), (2, 3), (30, 0)], [])
def fm_126_1 : FM := ([3, 4, 5, 6, 7, 8, 30], [], [(2, 0), (2, 1), (2, 2), (2, 3), (30, 0)], [])
def fm_127_1 : FM := ([3, 4, 5, 6, 7, 8, 30], [], [(2, 0), (2, 1), (2, 2), (2, 3), (30, 0)], [])
def fm_128_1 : FM := ([3, 4, 5, 6, 7, 8, 30], [], [(2, 0), (2, 1), (2, 2), (2, 3), (30, 0)], [])
def fm_138_1 : FM := ([3, 4, 5, 6, 7, 8, 30], [], [(2, 0), (2, 1), (2, 2), (2, 3), (30, 0)], [])
def fm_212_0 : FM := ([3, 4, 5, 6, 7, 8, 30], [], [(2, 0), (2, 1), (2, 2), (2, 3), (30, 0)], [])
def fm_214_0 : FM := ([3, 4, 5, 6, 7, 8, 30], [], [(2, 0), (2, 1), (2, 2), (2, 3), (30, 0)], [])
def fm_213_0 : FM := ([3, 4, 5, 6, 7, 8, 30], [], [(2, 0), (2, 1), (2, 2), (2, 3), (30, 0)], [])
def fm_215_0 : FM := ([3, 4, 5, 6, 7, 8, 30], [], [(2, 0), (2, 1), (2, 2), (2, 3), (30, 0)], [])
end
section
/-! methods, by vc.py -/
def fm_216_0 : FM := ([3, 4, 5, 6, 7, 8, 30], [], [(2, 0), (2, 1), (2, 2), (2, 3), (30, 0)], [])
def fm_110_86_2 : FM := ([], [87, 88], [], [])
/-- GraphHouse$Groups.shareOut -/
theorem k_110_86_2 {Z : AmZ} {A : Nat → Nat} {s : GS} {ex : va_W} {d : Nat} {X : AmX} {u_2_4 : Int32} {u_2_0 : Int32} (hd : 3 ≤ d) (hI : Inv s) (e_2_4 : u_2_4 = s.2.2.1 2 4) (e_2_0 : u_2_0 = s.2.2.1 2 0) (p_0 : (u_2_4).toInt = (u_2_0).toInt) : GC Z d 110 [.ref (A 86), .ref (A 2)] (WW Z A s ++ ex) 0 0 (fun v u => ∃ xa ya : Nat, ∃ t : GS, Inv t ∧ Fr fm_110_86_2 s t ∧ v = none ∧ u = WW Z (a2 A xa ya) t ++ ex) X := by
  intro post xp hP hX
  obtain ⟨u_2_1, e_2_1⟩ : ∃ w, w = s.2.2.1 2 1 := ⟨_, rfl⟩
  have ro_2_1 := inv_F hI 0 32 rfl e_2_1
  have ro_2_4 := inv_F hI (-1) 4000 rfl e_2_4
  have ro_2_0 := inv_F hI 0 4000 rfl e_2_0
  have ct137 : ∀ (k137 : Nat) (sc137 : GS) (y137_2 : Int64) (y137_4 : Int32) (w137_2_4 : Int32) (w137_2_0 : Int32), Inv sc137 → Fr fm_110_86_2 s sc137 → (In y137_4 0 32) → (w137_2_4 = sc137.2.2.1 2 4) → (w137_2_0 = sc137.2.2.1 2 0) → ((w137_2_4).toInt = (w137_2_0).toInt) → 32 - (y137_4).toInt < (k137 : Int) → GG Z (d - 1) 110 post (gx xp) (1 + k137 * 900) 137 (fun j => xlook j [(0, .ref (A 86)), (1, .ref (A 2)), (2, .long y137_2), (4, .int y137_4)]) [] (WW Z A sc137 ++ ex) 0 0 := by
    intro k137
    induction k137 with
    | zero => intro sc137 y137_2 y137_4 w137_2_4 w137_2_0 hIc137 hFc137 j137_4 v137_2_4 v137_2_0 n137_0 mm137; exact m_no mm137 j137_4 rfl
    | succ k137 ih137 =>
      intro sc137 y137_2 y137_4 w137_2_4 w137_2_0 hIc137 hFc137 j137_4 v137_2_4 v137_2_0 n137_0 mm137
      refine gg_w (M := 1 + k137 * 900 + 900) gws ?_
      refine g_iload 139 (gd rfl) rfl rfl ?_
      refine g_aload_n 140 (gd rfl) rfl rfl ?_
      refine g_getI 143 (gd rfl) rfl rfl rfl (fun z140 e140 => ?_)
      have q140 : u_2_1 = z140 := (fr_F e_2_1 hFc137 rfl).trans e140.symm
      subst q140
      refine g_cmp_ge 146 189 (gd rfl) rfl rfl (fun c143 => ?_) (fun c143 => ?_)
      · skip
        refine g_aload_n 190 (gd rfl) rfl rfl ?_
        refine g_getA (q2 := 87) 193 (gd rfl) rfl rfl rfl rfl ?_
        refine g_astore 195 (gd rfl) rfl (Nat.le_of_ble_eq_true rfl) ?_
        refine g_aload_n 196 (gd rfl) rfl rfl ?_
        refine g_aload_n 197 (gd rfl) rfl rfl ?_
        refine g_getA (q2 := 88) 200 (gd rfl) rfl rfl rfl rfl ?_
        refine g_swap rfl rfl ?_
        have hI200 := inv_sws hIc137
        exact g_return (gd rfl) rfl (hP _ _ ⟨(A 88), (A 87), (sws sc137), hI200, (fr_sws rfl rfl hFc137), rfl, rfl⟩)
      · skip
        have i143 := r_lt1 0 31 c143 j137_4 ro_2_1 rfl
        have i143a := r_lt2 1 32 c143 j137_4 ro_2_1 rfl
        refine g_aload_n 147 (gd rfl) rfl rfl ?_
        refine g_getA (q2 := 88) 150 (gd rfl) rfl rfl rfl rfl ?_
        refine g_iload 152 (gd rfl) rfl rfl ?_
        refine g_dup2 153 (gd rfl) rfl rfl rfl ?_
        refine g_laload 154 (gd rfl) rfl (n := 32) rfl (in_ix i143 rfl) (fun z153 e153 => ?_)
        refine g_lload_n 155 (gd rfl) rfl rfl ?_
        refine g_aload_n 156 (gd rfl) rfl rfl ?_
        refine g_getI 159 (gd rfl) rfl rfl rfl (fun z156 e156 => ?_)
        have q156 : u_2_1 = z156 := (fr_F e_2_1 hFc137 rfl).trans e156.symm
        subst q156
        refine g_i2l 160 (gd rfl) rfl (fun z159 e159 => ?_)
        have i159 := l_i e159 i143a
        refine g_ldiv 161 (gd rfl) rfl (ldv_nz i159 rfl) (fun z160 e160 => ?_)
        refine g_iload 163 (gd rfl) rfl rfl ?_
        refine g_i2l 164 (gd rfl) rfl (fun z163 e163 => ?_)
        have i163 := l_i e163 i143
        refine g_lload_n 165 (gd rfl) rfl rfl ?_
        refine g_aload_n 166 (gd rfl) rfl rfl ?_
        refine g_getI 169 (gd rfl) rfl rfl rfl (fun z166 e166 => ?_)
        have q166 : u_2_1 = z166 := (fr_F e_2_1 hFc137 rfl).trans e166.symm
        subst q166
        refine g_i2l 170 (gd rfl) rfl (fun z169 e169 => ?_)
        have i169 := l_i e169 i143a
        refine g_lrem 171 (gd rfl) rfl (ldv_nz i169 rfl) (fun z170 e170 => ?_)
        refine g_lcmp 172 (gd rfl) rfl (fun z171 e171 => ?_)
        have i171 := lc_in e171
        refine g_if_ge 175 179 (gd rfl) rfl rfl (fun c172 => ?_) (fun c172 => ?_)
        · skip
          have i172 := z_ge 0 1 c172 i171 rfl
          have c172a := lc_ge e171 c172
          have i172a := lr_le1 (-9223372036854775808) 31 c172a (l_rng z170) i163 rfl
          refine g_lconst 0 180 (gd rfl) rfl rfl ?_
          refine g_ladd 181 (gd rfl) rfl (fun z180 e180 => ?_)
          refine g_ladd 182 (gd rfl) rfl (fun z181 e181 => ?_)
          refine g_lastore 183 (gd rfl) rfl (n := 32) rfl (in_ix i143 rfl) ?_
          have hI182 := inv_sL (q := 88) (j := y137_4.toNatClampNeg) (x := z181) hIc137 rfl (l_rng z181)
          refine g_iinc 186 (gd rfl) rfl rfl (Nat.le_of_ble_eq_true rfl) (fun z183 e183 => ?_)
          have i183 := in_add 1 32 e183 i143 (in_c 1 rfl) rfl rfl
          refine g_goto 137 (gd rfl) rfl ?_
          have v137 : w137_2_4 = (sL sc137 88 y137_4.toNatClampNeg z181).2.2.1 2 4 := sL_F (v137_2_4)
          have v137a : w137_2_0 = (sL sc137 88 y137_4.toNatClampNeg z181).2.2.1 2 0 := sL_F (v137_2_0)
          have n137 : (w137_2_4).toInt = (w137_2_0).toInt := by first | exact n137_0 | ((first | have a0 := oa5 i143a ((inv_F hIc137 0 4000 rfl v137_2_0)) ((inv_F hIc137 (-1) 4000 rfl v137_2_4)) i143 i183 | ((first | have a0 := in_u i143a | (have a0 := i143a; unfold In at a0)); (first | have a1 := in_u ((inv_F hIc137 0 4000 rfl v137_2_0)) | (have a1 := (inv_F hIc137 0 4000 rfl v137_2_0); unfold In at a1)); (first | have a2 := in_u ((inv_F hIc137 (-1) 4000 rfl v137_2_4)) | (have a2 := (inv_F hIc137 (-1) 4000 rfl v137_2_4); unfold In at a2)); (first | have a3 := in_u i143 | (have a3 := i143; unfold In at a3)); (first | have a4 := in_u i183 | (have a4 := i183; unfold In at a4)))); have a5 := t_add e183 i143 (in_c 1 rfl) rfl; (first | have a6 := in_u ((in_c 1 rfl)) | (have a6 := (in_c 1 rfl); unfold In at a6)); have a7 := tx_i2l e169; have a8 := tx_i2l e163; have a9 := tx_i2l e159; omega)
          exact gg_w (by first | exact Nat.le_add_right _ _ | exact gw2 | exact gw3 | exact gwe rfl | exact gwf rfl | exact gwg rfl | exact gwh rfl | omega) (gg_f (gf_cons rfl (gf_cons rfl (gf_cons rfl (gf_cons rfl gf_nil)))) (ih137 (sL sc137 88 y137_4.toNatClampNeg z181) y137_2 z183 w137_2_4 w137_2_0 hI182 (fr_sL rfl hFc137) (in_w 0 32 i183 rfl) v137 v137a n137 (m_up mm137 (t_add e183 i143 (in_c 1 rfl) rfl) (in_w 1 1 (in_c 1 rfl) rfl))))
        · skip
          have i172 := z_lt (-1) (-1) c172 i171 rfl
          have c172a := lc_lt e171 c172
          have i172a := lr_lt2 1 9223372036854775807 c172a i163 (l_rng z170) rfl
          refine g_lconst 1 176 (gd rfl) rfl rfl ?_
          refine g_goto 180 (gd rfl) rfl ?_
          refine g_ladd 181 (gd rfl) rfl (fun z180 e180 => ?_)
          refine g_ladd 182 (gd rfl) rfl (fun z181 e181 => ?_)
          refine g_lastore 183 (gd rfl) rfl (n := 32) rfl (in_ix i143 rfl) ?_
          have hI182 := inv_sL (q := 88) (j := y137_4.toNatClampNeg) (x := z181) hIc137 rfl (l_rng z181)
          refine g_iinc 186 (gd rfl) rfl rfl (Nat.le_of_ble_eq_true rfl) (fun z183 e183 => ?_)
          have i183 := in_add 1 32 e183 i143 (in_c 1 rfl) rfl rfl
          refine g_goto 137 (gd rfl) rfl ?_
          have v137 : w137_2_4 = (sL sc137 88 y137_4.toNatClampNeg z181).2.2.1 2 4 := sL_F (v137_2_4)
          have v137a : w137_2_0 = (sL sc137 88 y137_4.toNatClampNeg z181).2.2.1 2 0 := sL_F (v137_2_0)
          have n137 : (w137_2_4).toInt = (w137_2_0).toInt := by first | exact n137_0 | ((first | have a0 := oa5 i143a ((inv_F hIc137 0 4000 rfl v137_2_0)) ((inv_F hIc137 (-1) 4000 rfl v137_2_4)) i143 i183 | ((first | have a0 := in_u i143a | (have a0 := i143a; unfold In at a0)); (first | have a1 := in_u ((inv_F hIc137 0 4000 rfl v137_2_0)) | (have a1 := (inv_F hIc137 0 4000 rfl v137_2_0); unfold In at a1)); (first | have a2 := in_u ((inv_F hIc137 (-1) 4000 rfl v137_2_4)) | (have a2 := (inv_F hIc137 (-1) 4000 rfl v137_2_4); unfold In at a2)); (first | have a3 := in_u i143 | (have a3 := i143; unfold In at a3)); (first | have a4 := in_u i183 | (have a4 := i183; unfold In at a4)))); have a5 := t_add e183 i143 (in_c 1 rfl) rfl; (first | have a6 := in_u ((in_c 1 rfl)) | (have a6 := (in_c 1 rfl); unfold In at a6)); have a7 := tx_i2l e169; have a8 := tx_i2l e163; have a9 := tx_i2l e159; omega)
          exact gg_w (by first | exact Nat.le_add_right _ _ | exact gw2 | exact gw3 | exact gwe rfl | exact gwf rfl | exact gwg rfl | exact gwh rfl | omega) (gg_f (gf_cons rfl (gf_cons rfl (gf_cons rfl (gf_cons rfl gf_nil)))) (ih137 (sL sc137 88 y137_4.toNatClampNeg z181) y137_2 z183 w137_2_4 w137_2_0 hI182 (fr_sL rfl hFc137) (in_w 0 32 i183 rfl) v137 v137a n137 (m_up mm137 (t_add e183 i143 (in_c 1 rfl) rfl) (in_w 1 1 (in_c 1 rfl) rfl))))
  have ct13 : ∀ (k13 : Nat) (sc13 : GS) (y13_2 : Int64) (y13_4 : Int32) (w13_2_4 : Int32) (w13_2_0 : Int32), Inv sc13 → Fr fm_110_86_2 s sc13 → (In y13_4 0 32) → (w13_2_4 = sc13.2.2.1 2 4) → (w13_2_0 = sc13.2.2.1 2 0) → ((w13_2_4).toInt = (w13_2_0).toInt) → 32 - (y13_4).toInt < (k13 : Int) → GG Z (d - 1) 110 post (gx xp) (29702 + k13 * 147601) 13 (fun j => xlook j [(0, .ref (A 86)), (1, .ref (A 2)), (2, .long y13_2), (4, .int y13_4)]) [] (WW Z A sc13 ++ ex) 0 0 := by
    intro k13
    induction k13 with
    | zero => intro sc13 y13_2 y13_4 w13_2_4 w13_2_0 hIc13 hFc13 j13_4 v13_2_4 v13_2_0 n13_0 mm13; exact m_no mm13 j13_4 rfl
    | succ k13 ih13 =>
      intro sc13 y13_2 y13_4 w13_2_4 w13_2_0 hIc13 hFc13 j13_4 v13_2_4 v13_2_0 n13_0 mm13
      refine gg_w (M := 29702 + k13 * 147601 + 147601) gws ?_
      have ct69 : ∀ (k69 : Nat) (sc69 : GS) (y69_5 : Int32) (y69_6 : Int64) (y69_8 : Int32) (w69_2_4 : Int32) (w69_2_0 : Int32), Inv sc69 → Fr fm_110_86_2 s sc69 → (In y13_4 0 31) → (In y69_5 (-160) 160) → (In y69_8 0 160) → (w69_2_4 = sc69.2.2.1 2 4) → (w69_2_0 = sc69.2.2.1 2 0) → ((w69_2_4).toInt = (w69_2_0).toInt) → 160 - (y69_8).toInt < (k69 : Int) → GG Z (d - 1) 110 post (gx xp) (29702 + k13 * 147601 + 1 + k69 * 900) 69 (fun j => xlook j [(0, .ref (A 86)), (1, .ref (A 2)), (2, .long y13_2), (4, .int y13_4), (5, .int y69_5), (6, .long y69_6), (8, .int y69_8)]) [] (WW Z A sc69 ++ ex) 0 0 := by
        intro k69
        induction k69 with
        | zero => intro sc69 y69_5 y69_6 y69_8 w69_2_4 w69_2_0 hIc69 hFc69 j69_4 j69_5 j69_8 v69_2_4 v69_2_0 n69_0 mm69; exact m_no mm69 j69_8 rfl
        | succ k69 ih69 =>
          intro sc69 y69_5 y69_6 y69_8 w69_2_4 w69_2_0 hIc69 hFc69 j69_4 j69_5 j69_8 v69_2_4 v69_2_0 n69_0 mm69
          refine gg_w (M := 29702 + k13 * 147601 + 1 + k69 * 900 + 900) gws ?_
          refine g_iload 71 (gd rfl) rfl rfl ?_
          refine g_aload_n 72 (gd rfl) rfl rfl ?_
          refine g_getA (q2 := 12) 75 (gd rfl) rfl rfl rfl rfl ?_
          refine g_iload 77 (gd rfl) rfl rfl ?_
          refine g_iconst 1 78 (gd rfl) rfl rfl ?_
          refine g_iadd 79 (gd rfl) rfl (fun z78 e78 => ?_)
          have i78 := in_add 1 32 e78 j69_4 (in_c 1 rfl) rfl rfl
          refine g_iaload 80 (gd rfl) rfl (n := 33) rfl (in_ix i78 rfl) (fun z79 e79 => ?_)
          have i79 := inv_I hIc69 (n := 33) (t := 0) 0 160 rfl (in_ix i78 rfl) rfl e79
          refine g_cmp_ge 83 111 (gd rfl) rfl rfl (fun c80 => ?_) (fun c80 => ?_)
          · skip
            refine g_lload_n 112 (gd rfl) rfl rfl ?_
            refine g_aload_n 113 (gd rfl) rfl rfl ?_
            refine g_getA (q2 := 87) 116 (gd rfl) rfl rfl rfl rfl ?_
            refine g_iload 118 (gd rfl) rfl rfl ?_
            refine g_laload 119 (gd rfl) rfl (n := 32) rfl (in_ix j69_4 rfl) (fun z118 e118 => ?_)
            refine g_lload 121 (gd rfl) rfl rfl ?_
            refine g_iload 123 (gd rfl) rfl rfl ?_
            refine g_i2l 124 (gd rfl) rfl (fun z123 e123 => ?_)
            have i123 := l_i e123 j69_5
            refine g_lmul 125 (gd rfl) rfl (fun z124 e124 => ?_)
            refine g_lsub 126 (gd rfl) rfl (fun z125 e125 => ?_)
            refine g_ladd 127 (gd rfl) rfl (fun z126 e126 => ?_)
            refine g_lstore_n 128 (gd rfl) rfl (Nat.le_of_ble_eq_true rfl) ?_
            refine g_iinc 131 (gd rfl) rfl rfl (Nat.le_of_ble_eq_true rfl) (fun z128 e128 => ?_)
            have i128 := in_add 1 32 e128 j69_4 (in_c 1 rfl) rfl rfl
            refine g_goto 13 (gd rfl) rfl ?_
            have n13 : (w69_2_4).toInt = (w69_2_0).toInt := by first | exact n69_0 | ((first | have a0 := oa7 j69_4 ro_2_1 ((inv_F hIc69 0 4000 rfl v69_2_0)) ((inv_F hIc69 (-1) 4000 rfl v69_2_4)) j69_8 j69_5 i128 | ((first | have a0 := in_u j69_4 | (have a0 := j69_4; unfold In at a0)); (first | have a1 := in_u ro_2_1 | (have a1 := ro_2_1; unfold In at a1)); (first | have a2 := in_u ((inv_F hIc69 0 4000 rfl v69_2_0)) | (have a2 := (inv_F hIc69 0 4000 rfl v69_2_0); unfold In at a2)); (first | have a3 := in_u ((inv_F hIc69 (-1) 4000 rfl v69_2_4)) | (have a3 := (inv_F hIc69 (-1) 4000 rfl v69_2_4); unfold In at a3)); (first | have a4 := in_u j69_8 | (have a4 := j69_8; unfold In at a4)); (first | have a5 := in_u j69_5 | (have a5 := j69_5; unfold In at a5)); (first | have a6 := in_u i128 | (have a6 := i128; unfold In at a6)))); have a7 := t_add e128 j69_4 (in_c 1 rfl) rfl; (first | have a8 := in_u ((in_c 1 rfl)) | (have a8 := (in_c 1 rfl); unfold In at a8)); have a9 := tx_i2l e123; (first | have a10 := in_u i78 | (have a10 := i78; unfold In at a10)); have a11 := t_add e78 j69_4 (in_c 1 rfl) rfl; omega)
            exact gg_w (by first | exact Nat.le_add_right _ _ | exact gw2 | exact gw3 | exact gwe rfl | exact gwf rfl | exact gwg rfl | exact gwh rfl | omega) (gg_f (gf_cons rfl (gf_cons rfl (gf_cons rfl (gf_cons rfl gf_nil)))) (ih13 sc69 z126 z128 w69_2_4 w69_2_0 hIc69 hFc69 (in_w 0 32 i128 rfl) v69_2_4 v69_2_0 n13 (m_up mm13 (t_add e128 j69_4 (in_c 1 rfl) rfl) (in_w 1 1 (in_c 1 rfl) rfl))))
          · skip
            have i80 := r_lt1 0 159 c80 j69_8 i79 rfl
            have i80a := r_lt2 1 160 c80 j69_8 i79 rfl
            refine g_aload_n 84 (gd rfl) rfl rfl ?_
            refine g_getA (q2 := 88) 87 (gd rfl) rfl rfl rfl rfl ?_
            refine g_aload_n 88 (gd rfl) rfl rfl ?_
            refine g_getA (q2 := 5) 91 (gd rfl) rfl rfl rfl rfl ?_
            refine g_aload_n 92 (gd rfl) rfl rfl ?_
            refine g_getA (q2 := 13) 95 (gd rfl) rfl rfl rfl rfl ?_
            refine g_iload 97 (gd rfl) rfl rfl ?_
            refine g_iaload 98 (gd rfl) rfl (n := 160) rfl (in_ix i80 rfl) (fun z97 e97 => ?_)
            have i97 := inv_I hIc69 (n := 160) (t := 0) 0 159 rfl (in_ix i80 rfl) rfl e97
            refine g_iaload 99 (gd rfl) rfl (n := 160) rfl (in_ix i97 rfl) (fun z98 e98 => ?_)
            have i98 := inv_I hIc69 (n := 160) (t := 0) 0 31 rfl (in_ix i97 rfl) rfl e98
            refine g_dup2 100 (gd rfl) rfl rfl rfl ?_
            refine g_laload 101 (gd rfl) rfl (n := 32) rfl (in_ix i98 rfl) (fun z100 e100 => ?_)
            refine g_lload 103 (gd rfl) rfl rfl ?_
            refine g_ladd 104 (gd rfl) rfl (fun z103 e103 => ?_)
            refine g_lastore 105 (gd rfl) rfl (n := 32) rfl (in_ix i98 rfl) ?_
            have hI104 := inv_sL (q := 88) (j := z98.toNatClampNeg) (x := z103) hIc69 rfl (l_rng z103)
            refine g_iinc 108 (gd rfl) rfl rfl (Nat.le_of_ble_eq_true rfl) (fun z105 e105 => ?_)
            have i105 := in_add 1 160 e105 i80 (in_c 1 rfl) rfl rfl
            refine g_goto 69 (gd rfl) rfl ?_
            have v69 : w69_2_4 = (sL sc69 88 z98.toNatClampNeg z103).2.2.1 2 4 := sL_F (v69_2_4)
            have v69a : w69_2_0 = (sL sc69 88 z98.toNatClampNeg z103).2.2.1 2 0 := sL_F (v69_2_0)
            have n69 : (w69_2_4).toInt = (w69_2_0).toInt := by first | exact n69_0 | ((first | have a0 := oa7 j69_4 ro_2_1 ((inv_F hIc69 0 4000 rfl v69_2_0)) ((inv_F hIc69 (-1) 4000 rfl v69_2_4)) i80 j69_5 i105 | ((first | have a0 := in_u j69_4 | (have a0 := j69_4; unfold In at a0)); (first | have a1 := in_u ro_2_1 | (have a1 := ro_2_1; unfold In at a1)); (first | have a2 := in_u ((inv_F hIc69 0 4000 rfl v69_2_0)) | (have a2 := (inv_F hIc69 0 4000 rfl v69_2_0); unfold In at a2)); (first | have a3 := in_u ((inv_F hIc69 (-1) 4000 rfl v69_2_4)) | (have a3 := (inv_F hIc69 (-1) 4000 rfl v69_2_4); unfold In at a3)); (first | have a4 := in_u i80 | (have a4 := i80; unfold In at a4)); (first | have a5 := in_u j69_5 | (have a5 := j69_5; unfold In at a5)); (first | have a6 := in_u i105 | (have a6 := i105; unfold In at a6)))); have a7 := t_add e105 i80 (in_c 1 rfl) rfl; (first | have a8 := oa2 ((in_c 1 rfl)) i78 | ((first | have a8 := in_u ((in_c 1 rfl)) | (have a8 := (in_c 1 rfl); unfold In at a8)); (first | have a9 := in_u i78 | (have a9 := i78; unfold In at a9)))); have a10 := t_add e78 j69_4 (in_c 1 rfl) rfl; omega)
            exact gg_w (by first | exact Nat.le_add_right _ _ | exact gw2 | exact gw3 | exact gwe rfl | exact gwf rfl | exact gwg rfl | exact gwh rfl | omega) (gg_f (gf_cons rfl (gf_cons rfl (gf_cons rfl (gf_cons rfl (gf_cons rfl (gf_cons rfl (gf_cons rfl gf_nil))))))) (ih69 (sL sc69 88 z98.toNatClampNeg z103) y69_5 y69_6 z105 w69_2_4 w69_2_0 hI104 (fr_sL rfl hFc69) (in_w 0 31 j69_4 rfl) (in_w (-160) 160 j69_5 rfl) (in_w 0 160 i105 rfl) v69 v69a n69 (m_up mm69 (t_add e105 i80 (in_c 1 rfl) rfl) (in_w 1 1 (in_c 1 rfl) rfl))))
      refine g_iload 15 (gd rfl) rfl rfl ?_
      refine g_aload_n 16 (gd rfl) rfl rfl ?_
      refine g_getI 19 (gd rfl) rfl rfl rfl (fun z16 e16 => ?_)
      have q16 : u_2_1 = z16 := (fr_F e_2_1 hFc13 rfl).trans e16.symm
      subst q16
      refine g_cmp_ge 22 134 (gd rfl) rfl rfl (fun c19 => ?_) (fun c19 => ?_)
      · skip
        refine g_iconst 0 135 (gd rfl) rfl rfl ?_
        refine g_istore 137 (gd rfl) rfl (Nat.le_of_ble_eq_true rfl) ?_
        have n137 : (w13_2_4).toInt = (w13_2_0).toInt := by first | exact n13_0 | ((first | have a0 := oa5 ro_2_1 ((inv_F hIc13 0 4000 rfl v13_2_0)) ((inv_F hIc13 (-1) 4000 rfl v13_2_4)) j13_4 ((in_c 0 rfl)) | ((first | have a0 := in_u ro_2_1 | (have a0 := ro_2_1; unfold In at a0)); (first | have a1 := in_u ((inv_F hIc13 0 4000 rfl v13_2_0)) | (have a1 := (inv_F hIc13 0 4000 rfl v13_2_0); unfold In at a1)); (first | have a2 := in_u ((inv_F hIc13 (-1) 4000 rfl v13_2_4)) | (have a2 := (inv_F hIc13 (-1) 4000 rfl v13_2_4); unfold In at a2)); (first | have a3 := in_u j13_4 | (have a3 := j13_4; unfold In at a3)); (first | have a4 := in_u ((in_c 0 rfl)) | (have a4 := (in_c 0 rfl); unfold In at a4)))); omega)
        exact gg_w (by first | exact Nat.le_add_right _ _ | exact gw2 | exact gw3 | exact gwe rfl | exact gwf rfl | exact gwg rfl | exact gwh rfl | omega) (gg_f (gf_cons rfl (gf_cons rfl (gf_cons rfl (gf_cons rfl gf_nil)))) (ct137 33 sc13 y13_2 (Int32.ofInt 0) w13_2_4 w13_2_0 hIc13 hFc13 (in_w 0 32 (in_c 0 rfl) rfl) v13_2_4 v13_2_0 n137 (m_in 33 (in_w 0 32 (in_c 0 rfl) rfl) rfl)))
      · skip
        have i19 := r_lt1 0 31 c19 j13_4 ro_2_1 rfl
        have i19a := r_lt2 1 32 c19 j13_4 ro_2_1 rfl
        refine g_aload_n 23 (gd rfl) rfl rfl ?_
        refine g_iload 25 (gd rfl) rfl rfl ?_
        refine g_callv (X := _) (As := [.int y13_4]) (r := []) (b := A 2) (q := 2) 28 (gd rfl) rfl rfl rfl rfl rfl (ww_o rfl) (Nat.le_of_ble_eq_true rfl) (mc := 0) (ms := 0) (Nat.zero_le _) (Nat.zero_le _) (P := fun v u => _) ?_ (fun e u h => h) (fun v u h => h)
        intro po25 xx25 hp25 hx25
        refine g_enter2 (k := 103) (N := 300) (by first | exact dq1 hd rfl | exact dq0 hd rfl | exact dq2 hd rfl | exact dq3 hd rfl | omega) rfl (Nat.le_of_ble_eq_true rfl) ?_
        refine g_aload_n 1 (gd rfl) rfl rfl ?_
        refine g_getA (q2 := 12) 4 (gd rfl) rfl rfl rfl rfl ?_
        refine g_iload_n 5 (gd rfl) rfl rfl ?_
        refine g_iconst 1 6 (gd rfl) rfl rfl ?_
        refine g_iadd 7 (gd rfl) rfl (fun z25x6 e25x6 => ?_)
        have i25x6 := in_add 1 32 e25x6 i19 (in_c 1 rfl) rfl rfl
        refine g_iaload 8 (gd rfl) rfl (n := 33) rfl (in_ix i25x6 rfl) (fun z25x7 e25x7 => ?_)
        have i25x7 := inv_I hIc13 (n := 33) (t := 0) 0 160 rfl (in_ix i25x6 rfl) rfl e25x7
        refine g_aload_n 9 (gd rfl) rfl rfl ?_
        refine g_getA (q2 := 12) 12 (gd rfl) rfl rfl rfl rfl ?_
        refine g_iload_n 13 (gd rfl) rfl rfl ?_
        refine g_iaload 14 (gd rfl) rfl (n := 33) rfl (in_ix i19 rfl) (fun z25x13 e25x13 => ?_)
        have i25x13 := inv_I hIc13 (n := 33) (t := 0) 0 160 rfl (in_ix i19 rfl) rfl e25x13
        refine g_isub 15 (gd rfl) rfl (fun z25x14 e25x14 => ?_)
        have i25x14 := in_sub (-160) 160 e25x14 i25x7 i25x13 rfl rfl
        refine g_ireturn (gd rfl) rfl rfl (hp25 _ _ ?_)
        show GG _ _ _ _ _ _ _ _ [.int z25x14] _ _ _
        refine g_istore 30 (gd rfl) rfl (Nat.le_of_ble_eq_true rfl) ?_
        refine g_iload 32 (gd rfl) rfl rfl ?_
        refine g_if_ne 35 39 (gd rfl) rfl rfl (fun c32 => ?_) (fun c32 => ?_)
        · skip
          refine g_aload_n 40 (gd rfl) rfl rfl ?_
          refine g_getA (q2 := 87) 43 (gd rfl) rfl rfl rfl rfl ?_
          refine g_iload 45 (gd rfl) rfl rfl ?_
          refine g_laload 46 (gd rfl) rfl (n := 32) rfl (in_ix i19 rfl) (fun z45 e45 => ?_)
          refine g_ldc2_w 85 49 (gd rfl) rfl rfl ?_
          refine g_lmul 50 (gd rfl) rfl (fun z49 e49 => ?_)
          refine g_ldc2_w 100 53 (gd rfl) rfl rfl ?_
          refine g_iload 55 (gd rfl) rfl rfl ?_
          refine g_i2l 56 (gd rfl) rfl (fun z55 e55 => ?_)
          have i55 := l_i e55 i25x14
          refine g_lmul 57 (gd rfl) rfl (fun z56 e56 => ?_)
          have i56 := l_mulc 100 (-16000) 16000 (Or.inl e56) i55 rfl
          have nz57 : (z56).toInt ≠ 0 := by exact l_nz100 e56 e55 (by (first | have a0 := oa5 i19a ((inv_F hIc13 0 4000 rfl v13_2_0)) ((inv_F hIc13 (-1) 4000 rfl v13_2_4)) i19 i25x14 | ((first | have a0 := in_u i19a | (have a0 := i19a; unfold In at a0)); (first | have a1 := in_u ((inv_F hIc13 0 4000 rfl v13_2_0)) | (have a1 := (inv_F hIc13 0 4000 rfl v13_2_0); unfold In at a1)); (first | have a2 := in_u ((inv_F hIc13 (-1) 4000 rfl v13_2_4)) | (have a2 := (inv_F hIc13 (-1) 4000 rfl v13_2_4); unfold In at a2)); (first | have a3 := in_u i19 | (have a3 := i19; unfold In at a3)); (first | have a4 := in_u i25x14 | (have a4 := i25x14; unfold In at a4)))); have a5 := t_sub e25x14 i25x7 i25x13 rfl; (first | have a6 := oa2 i25x13 i25x7 | ((first | have a6 := in_u i25x13 | (have a6 := i25x13; unfold In at a6)); (first | have a7 := in_u i25x7 | (have a7 := i25x7; unfold In at a7)))); have a8 := tx_i2l e55; (first | have a9 := in_u i25x6 | (have a9 := i25x6; unfold In at a9)); have a10 := t_add e25x6 i19 (in_c 1 rfl) rfl; (first | have a11 := in_u ((in_c 1 rfl)) | (have a11 := (in_c 1 rfl); unfold In at a11)); omega) (by (first | have a0 := oa5 i19a ((inv_F hIc13 0 4000 rfl v13_2_0)) ((inv_F hIc13 (-1) 4000 rfl v13_2_4)) i19 i25x14 | ((first | have a0 := in_u i19a | (have a0 := i19a; unfold In at a0)); (first | have a1 := in_u ((inv_F hIc13 0 4000 rfl v13_2_0)) | (have a1 := (inv_F hIc13 0 4000 rfl v13_2_0); unfold In at a1)); (first | have a2 := in_u ((inv_F hIc13 (-1) 4000 rfl v13_2_4)) | (have a2 := (inv_F hIc13 (-1) 4000 rfl v13_2_4); unfold In at a2)); (first | have a3 := in_u i19 | (have a3 := i19; unfold In at a3)); (first | have a4 := in_u i25x14 | (have a4 := i25x14; unfold In at a4)))); have a5 := t_sub e25x14 i25x7 i25x13 rfl; (first | have a6 := oa2 i25x13 i25x7 | ((first | have a6 := in_u i25x13 | (have a6 := i25x13; unfold In at a6)); (first | have a7 := in_u i25x7 | (have a7 := i25x7; unfold In at a7)))); have a8 := tx_i2l e55; (first | have a9 := in_u i25x6 | (have a9 := i25x6; unfold In at a9)); have a10 := t_add e25x6 i19 (in_c 1 rfl) rfl; (first | have a11 := in_u ((in_c 1 rfl)) | (have a11 := (in_c 1 rfl); unfold In at a11)); omega) (by (first | have a0 := oa5 i19a ((inv_F hIc13 0 4000 rfl v13_2_0)) ((inv_F hIc13 (-1) 4000 rfl v13_2_4)) i19 i25x14 | ((first | have a0 := in_u i19a | (have a0 := i19a; unfold In at a0)); (first | have a1 := in_u ((inv_F hIc13 0 4000 rfl v13_2_0)) | (have a1 := (inv_F hIc13 0 4000 rfl v13_2_0); unfold In at a1)); (first | have a2 := in_u ((inv_F hIc13 (-1) 4000 rfl v13_2_4)) | (have a2 := (inv_F hIc13 (-1) 4000 rfl v13_2_4); unfold In at a2)); (first | have a3 := in_u i19 | (have a3 := i19; unfold In at a3)); (first | have a4 := in_u i25x14 | (have a4 := i25x14; unfold In at a4)))); have a5 := t_sub e25x14 i25x7 i25x13 rfl; (first | have a6 := oa2 i25x13 i25x7 | ((first | have a6 := in_u i25x13 | (have a6 := i25x13; unfold In at a6)); (first | have a7 := in_u i25x7 | (have a7 := i25x7; unfold In at a7)))); have a8 := tx_i2l e55; (first | have a9 := in_u i25x6 | (have a9 := i25x6; unfold In at a9)); have a10 := t_add e25x6 i19 (in_c 1 rfl) rfl; (first | have a11 := in_u ((in_c 1 rfl)) | (have a11 := (in_c 1 rfl); unfold In at a11)); omega)
          refine g_ldiv 58 (gd rfl) rfl (lnz nz57) (fun z57 e57 => ?_)
          refine g_lstore 60 (gd rfl) rfl (Nat.le_of_ble_eq_true rfl) ?_
          refine g_aload_n 61 (gd rfl) rfl rfl ?_
          refine g_getA (q2 := 12) 64 (gd rfl) rfl rfl rfl rfl ?_
          refine g_iload 66 (gd rfl) rfl rfl ?_
          refine g_iaload 67 (gd rfl) rfl (n := 33) rfl (in_ix i19 rfl) (fun z66 e66 => ?_)
          have q66 : z25x13 = z66 := (e25x13).trans e66.symm
          subst q66
          refine g_istore 69 (gd rfl) rfl (Nat.le_of_ble_eq_true rfl) ?_
          have n69 : (w13_2_4).toInt = (w13_2_0).toInt := by first | exact n13_0 | ((first | have a0 := oa6 i19a ((inv_F hIc13 0 4000 rfl v13_2_0)) ((inv_F hIc13 (-1) 4000 rfl v13_2_4)) i19 i25x13 i25x14 | ((first | have a0 := in_u i19a | (have a0 := i19a; unfold In at a0)); (first | have a1 := in_u ((inv_F hIc13 0 4000 rfl v13_2_0)) | (have a1 := (inv_F hIc13 0 4000 rfl v13_2_0); unfold In at a1)); (first | have a2 := in_u ((inv_F hIc13 (-1) 4000 rfl v13_2_4)) | (have a2 := (inv_F hIc13 (-1) 4000 rfl v13_2_4); unfold In at a2)); (first | have a3 := in_u i19 | (have a3 := i19; unfold In at a3)); (first | have a4 := in_u i25x13 | (have a4 := i25x13; unfold In at a4)); (first | have a5 := in_u i25x14 | (have a5 := i25x14; unfold In at a5)))); have a6 := t_sub e25x14 i25x7 i25x13 rfl; (first | have a7 := in_u i25x7 | (have a7 := i25x7; unfold In at a7)); have a8 := tx_i2l e55; (first | have a9 := in_u i25x6 | (have a9 := i25x6; unfold In at a9)); have a10 := t_add e25x6 i19 (in_c 1 rfl) rfl; (first | have a11 := in_u ((in_c 1 rfl)) | (have a11 := (in_c 1 rfl); unfold In at a11)); omega)
          exact gg_w (by first | exact Nat.le_add_right _ _ | exact gw2 | exact gw3 | exact gwe rfl | exact gwf rfl | exact gwg rfl | exact gwh rfl | omega) (gg_f (gf_cons rfl (gf_cons rfl (gf_cons rfl (gf_cons rfl (gf_cons rfl (gf_cons rfl (gf_cons rfl gf_nil))))))) (ct69 161 sc13 z25x14 z57 z25x13 w13_2_4 w13_2_0 hIc13 hFc13 (in_w 0 31 i19 rfl) (in_w (-160) 160 i25x14 rfl) (in_w 0 160 i25x13 rfl) v13_2_4 v13_2_0 n69 (m_in 161 (in_w 0 160 i25x13 rfl) rfl)))
        · skip
          have i32 := z_eq 0 0 c32 i25x14 rfl
          refine g_lconst 0 36 (gd rfl) rfl rfl ?_
          refine g_goto 58 (gd rfl) rfl ?_
          refine g_lstore 60 (gd rfl) rfl (Nat.le_of_ble_eq_true rfl) ?_
          refine g_aload_n 61 (gd rfl) rfl rfl ?_
          refine g_getA (q2 := 12) 64 (gd rfl) rfl rfl rfl rfl ?_
          refine g_iload 66 (gd rfl) rfl rfl ?_
          refine g_iaload 67 (gd rfl) rfl (n := 33) rfl (in_ix i19 rfl) (fun z66 e66 => ?_)
          have q66 : z25x13 = z66 := (e25x13).trans e66.symm
          subst q66
          refine g_istore 69 (gd rfl) rfl (Nat.le_of_ble_eq_true rfl) ?_
          have n69 : (w13_2_4).toInt = (w13_2_0).toInt := by first | exact n13_0 | ((first | have a0 := oa6 i19a ((inv_F hIc13 0 4000 rfl v13_2_0)) ((inv_F hIc13 (-1) 4000 rfl v13_2_4)) i19 i25x13 i32 | ((first | have a0 := in_u i19a | (have a0 := i19a; unfold In at a0)); (first | have a1 := in_u ((inv_F hIc13 0 4000 rfl v13_2_0)) | (have a1 := (inv_F hIc13 0 4000 rfl v13_2_0); unfold In at a1)); (first | have a2 := in_u ((inv_F hIc13 (-1) 4000 rfl v13_2_4)) | (have a2 := (inv_F hIc13 (-1) 4000 rfl v13_2_4); unfold In at a2)); (first | have a3 := in_u i19 | (have a3 := i19; unfold In at a3)); (first | have a4 := in_u i25x13 | (have a4 := i25x13; unfold In at a4)); (first | have a5 := in_u i32 | (have a5 := i32; unfold In at a5)))); have a6 := t_sub e25x14 i25x7 i25x13 rfl; (first | have a7 := oa2 i25x7 i25x6 | ((first | have a7 := in_u i25x7 | (have a7 := i25x7; unfold In at a7)); (first | have a8 := in_u i25x6 | (have a8 := i25x6; unfold In at a8)))); have a9 := t_add e25x6 i19 (in_c 1 rfl) rfl; (first | have a10 := in_u ((in_c 1 rfl)) | (have a10 := (in_c 1 rfl); unfold In at a10)); omega)
          exact gg_w (by first | exact Nat.le_add_right _ _ | exact gw2 | exact gw3 | exact gwe rfl | exact gwf rfl | exact gwg rfl | exact gwh rfl | omega) (gg_f (gf_cons rfl (gf_cons rfl (gf_cons rfl (gf_cons rfl (gf_cons rfl (gf_cons rfl (gf_cons rfl gf_nil))))))) (ct69 161 sc13 z25x14 (Int64.ofInt 0) z25x13 w13_2_4 w13_2_0 hIc13 hFc13 (in_w 0 31 i19 rfl) (in_w (-160) 160 i32 rfl) (in_w 0 160 i25x13 rfl) v13_2_4 v13_2_0 n69 (m_in 161 (in_w 0 160 i25x13 rfl) rfl)))
  refine g_enter2 (k := 110) (N := 4901435) (by first | exact dq1 hd rfl | exact dq0 hd rfl | exact dq2 hd rfl | exact dq3 hd rfl | omega) rfl (Nat.le_of_ble_eq_true rfl) ?_
  refine g_lconst 0 1 (gd rfl) rfl rfl ?_
  refine g_lstore_n 2 (gd rfl) rfl (Nat.le_of_ble_eq_true rfl) ?_
  refine g_aload_n 3 (gd rfl) rfl rfl ?_
  refine g_getA (q2 := 88) 6 (gd rfl) rfl rfl rfl rfl ?_
  refine g_lconst 0 7 (gd rfl) rfl rfl ?_
  refine g_calls (As := [.ref (A 88), .long (Int64.ofInt 0)]) (r := []) 10 (gd rfl) rfl rfl rfl rfl rfl (Nat.le_of_ble_eq_true rfl) (Nat.zero_le _) (Nat.zero_le _) (k_fillL 88 (by first | exact dq1 hd rfl | exact dq0 hd rfl | exact dq2 hd rfl | exact dq3 hd rfl | omega) hI (n := 32) rfl rfl rfl (l_rng (Int64.ofInt 0))) (fun v u h => ?_)
  obtain ⟨s7, hI7, hF7, rfl, rfl, fl7⟩ := h
  show GG _ _ _ _ _ _ _ _ [] _ _ _
  refine g_iconst 0 11 (gd rfl) rfl rfl ?_
  refine g_istore 13 (gd rfl) rfl (Nat.le_of_ble_eq_true rfl) ?_
  have v13 : u_2_4 = s7.2.2.1 2 4 := fr_F (e_2_4) hF7 rfl
  have v13a : u_2_0 = s7.2.2.1 2 0 := fr_F (e_2_0) hF7 rfl
  have n13 : (u_2_4).toInt = (u_2_0).toInt := by (first | have a0 := oa4 ro_2_1 ((inv_F hI 0 4000 rfl e_2_0)) ((inv_F hI (-1) 4000 rfl e_2_4)) ((in_c 0 rfl)) | ((first | have a0 := in_u ro_2_1 | (have a0 := ro_2_1; unfold In at a0)); (first | have a1 := in_u ((inv_F hI 0 4000 rfl e_2_0)) | (have a1 := (inv_F hI 0 4000 rfl e_2_0); unfold In at a1)); (first | have a2 := in_u ((inv_F hI (-1) 4000 rfl e_2_4)) | (have a2 := (inv_F hI (-1) 4000 rfl e_2_4); unfold In at a2)); (first | have a3 := in_u ((in_c 0 rfl)) | (have a3 := (in_c 0 rfl); unfold In at a3)))); omega
  exact gg_w (by first | exact Nat.le_of_ble_eq_true rfl | omega) (gg_f (gf_cons rfl (gf_cons rfl (gf_cons rfl (gf_cons rfl gf_nil)))) (ct13 33 s7 (Int64.ofInt 0) (Int32.ofInt 0) u_2_4 u_2_0 hI7 (fr_tr rfl fr_rf hF7) (in_w 0 32 (in_c 0 rfl) rfl) v13 v13a n13 (m_in 33 (in_w 0 32 (in_c 0 rfl) rfl) rfl)))

def fm_110_86_32 : FM := ([], [87, 88], [], [])
/-- GraphHouse$Groups.shareOut -/
theorem k_110_86_32 {Z : AmZ} {A : Nat → Nat} {s : GS} {ex : va_W} {d : Nat} {X : AmX} {u_32_4 : Int32} {u_32_0 : Int32} (hd : 3 ≤ d) (hI : Inv s) (e_32_4 : u_32_4 = s.2.2.1 32 4) (e_32_0 : u_32_0 = s.2.2.1 32 0) (p_0 : (u_32_4).toInt = (u_32_0).toInt) : GC Z d 110 [.ref (A 86), .ref (A 32)] (WW Z A s ++ ex) 0 0 (fun v u => ∃ xa ya : Nat, ∃ t : GS, Inv t ∧ Fr fm_110_86_32 s t ∧ v = none ∧ u = WW Z (a2 A xa ya) t ++ ex) X := by
  intro post xp hP hX
  obtain ⟨u_32_1, e_32_1⟩ : ∃ w, w = s.2.2.1 32 1 := ⟨_, rfl⟩
  have ro_32_1 := inv_F hI 0 32 rfl e_32_1
  have ro_32_4 := inv_F hI (-1) 4000 rfl e_32_4
  have ro_32_0 := inv_F hI 0 4000 rfl e_32_0
  have ct137 : ∀ (k137 : Nat) (sc137 : GS) (y137_2 : Int64) (y137_4 : Int32) (w137_32_4 : Int32) (w137_32_0 : Int32), Inv sc137 → Fr fm_110_86_32 s sc137 → (In y137_4 0 32) → (w137_32_4 = sc137.2.2.1 32 4) → (w137_32_0 = sc137.2.2.1 32 0) → ((w137_32_4).toInt = (w137_32_0).toInt) → 32 - (y137_4).toInt < (k137 : Int) → GG Z (d - 1) 110 post (gx xp) (1 + k137 * 900) 137 (fun j => xlook j [(0, .ref (A 86)), (1, .ref (A 32)), (2, .long y137_2), (4, .int y137_4)]) [] (WW Z A sc137 ++ ex) 0 0 := by
    intro k137
    induction k137 with
    | zero => intro sc137 y137_2 y137_4 w137_32_4 w137_32_0 hIc137 hFc137 j137_4 v137_32_4 v137_32_0 n137_0 mm137; exact m_no mm137 j137_4 rfl
    | succ k137 ih137 =>
      intro sc137 y137_2 y137_4 w137_32_4 w137_32_0 hIc137 hFc137 j137_4 v137_32_4 v137_32_0 n137_0 mm137
      refine gg_w (M := 1 + k137 * 900 + 900) gws ?_
      refine g_iload 139 (gd rfl) rfl rfl ?_
      refine g_aload_n 140 (gd rfl) rfl rfl ?_
      refine g_getI 143 (gd rfl) rfl rfl rfl (fun z140 e140 => ?_)
      have q140 : u_32_1 = z140 := (fr_F e_32_1 hFc137 rfl).trans e140.symm
      subst q140
      refine g_cmp_ge 146 189 (gd rfl) rfl rfl (fun c143 => ?_) (fun c143 => ?_)
      · skip
        refine g_aload_n 190 (gd rfl) rfl rfl ?_
        refine g_getA (q2 := 87) 193 (gd rfl) rfl rfl rfl rfl ?_
        refine g_astore 195 (gd rfl) rfl (Nat.le_of_ble_eq_true rfl) ?_
        refine g_aload_n 196 (gd rfl) rfl rfl ?_
        refine g_aload_n 197 (gd rfl) rfl rfl ?_
        refine g_getA (q2 := 88) 200 (gd rfl) rfl rfl rfl rfl ?_
        refine g_swap rfl rfl ?_
        have hI200 := inv_sws hIc137
        exact g_return (gd rfl) rfl (hP _ _ ⟨(A 88), (A 87), (sws sc137), hI200, (fr_sws rfl rfl hFc137), rfl, rfl⟩)
      · skip
        have i143 := r_lt1 0 31 c143 j137_4 ro_32_1 rfl
        have i143a := r_lt2 1 32 c143 j137_4 ro_32_1 rfl
        refine g_aload_n 147 (gd rfl) rfl rfl ?_
        refine g_getA (q2 := 88) 150 (gd rfl) rfl rfl rfl rfl ?_
        refine g_iload 152 (gd rfl) rfl rfl ?_
        refine g_dup2 153 (gd rfl) rfl rfl rfl ?_
        refine g_laload 154 (gd rfl) rfl (n := 32) rfl (in_ix i143 rfl) (fun z153 e153 => ?_)
        refine g_lload_n 155 (gd rfl) rfl rfl ?_
        refine g_aload_n 156 (gd rfl) rfl rfl ?_
        refine g_getI 159 (gd rfl) rfl rfl rfl (fun z156 e156 => ?_)
        have q156 : u_32_1 = z156 := (fr_F e_32_1 hFc137 rfl).trans e156.symm
        subst q156
        refine g_i2l 160 (gd rfl) rfl (fun z159 e159 => ?_)
        have i159 := l_i e159 i143a
        refine g_ldiv 161 (gd rfl) rfl (ldv_nz i159 rfl) (fun z160 e160 => ?_)
        refine g_iload 163 (gd rfl) rfl rfl ?_
        refine g_i2l 164 (gd rfl) rfl (fun z163 e163 => ?_)
        have i163 := l_i e163 i143
        refine g_lload_n 165 (gd rfl) rfl rfl ?_
        refine g_aload_n 166 (gd rfl) rfl rfl ?_
        refine g_getI 169 (gd rfl) rfl rfl rfl (fun z166 e166 => ?_)
        have q166 : u_32_1 = z166 := (fr_F e_32_1 hFc137 rfl).trans e166.symm
        subst q166
        refine g_i2l 170 (gd rfl) rfl (fun z169 e169 => ?_)
        have i169 := l_i e169 i143a
        refine g_lrem 171 (gd rfl) rfl (ldv_nz i169 rfl) (fun z170 e170 => ?_)
        refine g_lcmp 172 (gd rfl) rfl (fun z171 e171 => ?_)
        have i171 := lc_in e171
        refine g_if_ge 175 179 (gd rfl) rfl rfl (fun c172 => ?_) (fun c172 => ?_)
        · skip
          have i172 := z_ge 0 1 c172 i171 rfl
          have c172a := lc_ge e171 c172
          have i172a := lr_le1 (-9223372036854775808) 31 c172a (l_rng z170) i163 rfl
          refine g_lconst 0 180 (gd rfl) rfl rfl ?_
          refine g_ladd 181 (gd rfl) rfl (fun z180 e180 => ?_)
          refine g_ladd 182 (gd rfl) rfl (fun z181 e181 => ?_)
          refine g_lastore 183 (gd rfl) rfl (n := 32) rfl (in_ix i143 rfl) ?_
          have hI182 := inv_sL (q := 88) (j := y137_4.toNatClampNeg) (x := z181) hIc137 rfl (l_rng z181)
          refine g_iinc 186 (gd rfl) rfl rfl (Nat.le_of_ble_eq_true rfl) (fun z183 e183 => ?_)
          have i183 := in_add 1 32 e183 i143 (in_c 1 rfl) rfl rfl
          refine g_goto 137 (gd rfl) rfl ?_
          have v137 : w137_32_4 = (sL sc137 88 y137_4.toNatClampNeg z181).2.2.1 32 4 := sL_F (v137_32_4)
          have v137a : w137_32_0 = (sL sc137 88 y137_4.toNatClampNeg z181).2.2.1 32 0 := sL_F (v137_32_0)
          have n137 : (w137_32_4).toInt = (w137_32_0).toInt := by first | exact n137_0 | ((first | have a0 := oa5 i143a ((inv_F hIc137 0 4000 rfl v137_32_0)) ((inv_F hIc137 (-1) 4000 rfl v137_32_4)) i143 i183 | ((first | have a0 := in_u i143a | (have a0 := i143a; unfold In at a0)); (first | have a1 := in_u ((inv_F hIc137 0 4000 rfl v137_32_0)) | (have a1 := (inv_F hIc137 0 4000 rfl v137_32_0); unfold In at a1)); (first | have a2 := in_u ((inv_F hIc137 (-1) 4000 rfl v137_32_4)) | (have a2 := (inv_F hIc137 (-1) 4000 rfl v137_32_4); unfold In at a2)); (first | have a3 := in_u i143 | (have a3 := i143; unfold In at a3)); (first | have a4 := in_u i183 | (have a4 := i183; unfold In at a4)))); have a5 := t_add e183 i143 (in_c 1 rfl) rfl; (first | have a6 := in_u ((in_c 1 rfl)) | (have a6 := (in_c 1 rfl); unfold In at a6)); have a7 := tx_i2l e169; have a8 := tx_i2l e163; have a9 := tx_i2l e159; omega)
          exact gg_w (by first | exact Nat.le_add_right _ _ | exact gw2 | exact gw3 | exact gwe rfl | exact gwf rfl | exact gwg rfl | exact gwh rfl | omega) (gg_f (gf_cons rfl (gf_cons rfl (gf_cons rfl (gf_cons rfl gf_nil)))) (ih137 (sL sc137 88 y137_4.toNatClampNeg z181) y137_2 z183 w137_32_4 w137_32_0 hI182 (fr_sL rfl hFc137) (in_w 0 32 i183 rfl) v137 v137a n137 (m_up mm137 (t_add e183 i143 (in_c 1 rfl) rfl) (in_w 1 1 (in_c 1 rfl) rfl))))
        · skip
          have i172 := z_lt (-1) (-1) c172 i171 rfl
          have c172a := lc_lt e171 c172
          have i172a := lr_lt2 1 9223372036854775807 c172a i163 (l_rng z170) rfl
          refine g_lconst 1 176 (gd rfl) rfl rfl ?_
          refine g_goto 180 (gd rfl) rfl ?_
          refine g_ladd 181 (gd rfl) rfl (fun z180 e180 => ?_)
          refine g_ladd 182 (gd rfl) rfl (fun z181 e181 => ?_)
          refine g_lastore 183 (gd rfl) rfl (n := 32) rfl (in_ix i143 rfl) ?_
          have hI182 := inv_sL (q := 88) (j := y137_4.toNatClampNeg) (x := z181) hIc137 rfl (l_rng z181)
          refine g_iinc 186 (gd rfl) rfl rfl (Nat.le_of_ble_eq_true rfl) (fun z183 e183 => ?_)
          have i183 := in_add 1 32 e183 i143 (in_c 1 rfl) rfl rfl
          refine g_goto 137 (gd rfl) rfl ?_
          have v137 : w137_32_4 = (sL sc137 88 y137_4.toNatClampNeg z181).2.2.1 32 4 := sL_F (v137_32_4)
          have v137a : w137_32_0 = (sL sc137 88 y137_4.toNatClampNeg z181).2.2.1 32 0 := sL_F (v137_32_0)
          have n137 : (w137_32_4).toInt = (w137_32_0).toInt := by first | exact n137_0 | ((first | have a0 := oa5 i143a ((inv_F hIc137 0 4000 rfl v137_32_0)) ((inv_F hIc137 (-1) 4000 rfl v137_32_4)) i143 i183 | ((first | have a0 := in_u i143a | (have a0 := i143a; unfold In at a0)); (first | have a1 := in_u ((inv_F hIc137 0 4000 rfl v137_32_0)) | (have a1 := (inv_F hIc137 0 4000 rfl v137_32_0); unfold In at a1)); (first | have a2 := in_u ((inv_F hIc137 (-1) 4000 rfl v137_32_4)) | (have a2 := (inv_F hIc137 (-1) 4000 rfl v137_32_4); unfold In at a2)); (first | have a3 := in_u i143 | (have a3 := i143; unfold In at a3)); (first | have a4 := in_u i183 | (have a4 := i183; unfold In at a4)))); have a5 := t_add e183 i143 (in_c 1 rfl) rfl; (first | have a6 := in_u ((in_c 1 rfl)) | (have a6 := (in_c 1 rfl); unfold In at a6)); have a7 := tx_i2l e169; have a8 := tx_i2l e163; have a9 := tx_i2l e159; omega)
          exact gg_w (by first | exact Nat.le_add_right _ _ | exact gw2 | exact gw3 | exact gwe rfl | exact gwf rfl | exact gwg rfl | exact gwh rfl | omega) (gg_f (gf_cons rfl (gf_cons rfl (gf_cons rfl (gf_cons rfl gf_nil)))) (ih137 (sL sc137 88 y137_4.toNatClampNeg z181) y137_2 z183 w137_32_4 w137_32_0 hI182 (fr_sL rfl hFc137) (in_w 0 32 i183 rfl) v137 v137a n137 (m_up mm137 (t_add e183 i143 (in_c 1 rfl) rfl) (in_w 1 1 (in_c 1 rfl) rfl))))
  have ct13 : ∀ (k13 : Nat) (sc13 : GS) (y13_2 : Int64) (y13_4 : Int32) (w13_32_4 : Int32) (w13_32_0 : Int32), Inv sc13 → Fr fm_110_86_32 s sc13 → (In y13_4 0 32) → (w13_32_4 = sc13.2.2.1 32 4) → (w13_32_0 = sc13.2.2.1 32 0) → ((w13_32_4).toInt = (w13_32_0).toInt) → 32 - (y13_4).toInt < (k13 : Int) → GG Z (d - 1) 110 post (gx xp) (29702 + k13 * 147601) 13 (fun j => xlook j [(0, .ref (A 86)), (1, .ref (A 32)), (2, .long y13_2), (4, .int y13_4)]) [] (WW Z A sc13 ++ ex) 0 0 := by
    intro k13
    induction k13 with
    | zero => intro sc13 y13_2 y13_4 w13_32_4 w13_32_0 hIc13 hFc13 j13_4 v13_32_4 v13_32_0 n13_0 mm13; exact m_no mm13 j13_4 rfl
    | succ k13 ih13 =>
      intro sc13 y13_2 y13_4 w13_32_4 w13_32_0 hIc13 hFc13 j13_4 v13_32_4 v13_32_0 n13_0 mm13
      refine gg_w (M := 29702 + k13 * 147601 + 147601) gws ?_
      have ct69 : ∀ (k69 : Nat) (sc69 : GS) (y69_5 : Int32) (y69_6 : Int64) (y69_8 : Int32) (w69_32_4 : Int32) (w69_32_0 : Int32), Inv sc69 → Fr fm_110_86_32 s sc69 → (In y13_4 0 31) → (In y69_5 (-160) 160) → (In y69_8 0 160) → (w69_32_4 = sc69.2.2.1 32 4) → (w69_32_0 = sc69.2.2.1 32 0) → ((w69_32_4).toInt = (w69_32_0).toInt) → 160 - (y69_8).toInt < (k69 : Int) → GG Z (d - 1) 110 post (gx xp) (29702 + k13 * 147601 + 1 + k69 * 900) 69 (fun j => xlook j [(0, .ref (A 86)), (1, .ref (A 32)), (2, .long y13_2), (4, .int y13_4), (5, .int y69_5), (6, .long y69_6), (8, .int y69_8)]) [] (WW Z A sc69 ++ ex) 0 0 := by
        intro k69
        induction k69 with
        | zero => intro sc69 y69_5 y69_6 y69_8 w69_32_4 w69_32_0 hIc69 hFc69 j69_4 j69_5 j69_8 v69_32_4 v69_32_0 n69_0 mm69; exact m_no mm69 j69_8 rfl
        | succ k69 ih69 =>
          intro sc69 y69_5 y69_6 y69_8 w69_32_4 w69_32_0 hIc69 hFc69 j69_4 j69_5 j69_8 v69_32_4 v69_32_0 n69_0 mm69
          refine gg_w (M := 29702 + k13 * 147601 + 1 + k69 * 900 + 900) gws ?_
          refine g_iload 71 (gd rfl) rfl rfl ?_
          refine g_aload_n 72 (gd rfl) rfl rfl ?_
          refine g_getA (q2 := 42) 75 (gd rfl) rfl rfl rfl rfl ?_
          refine g_iload 77 (gd rfl) rfl rfl ?_
          refine g_iconst 1 78 (gd rfl) rfl rfl ?_
          refine g_iadd 79 (gd rfl) rfl (fun z78 e78 => ?_)
          have i78 := in_add 1 32 e78 j69_4 (in_c 1 rfl) rfl rfl
          refine g_iaload 80 (gd rfl) rfl (n := 33) rfl (in_ix i78 rfl) (fun z79 e79 => ?_)
          have i79 := inv_I hIc69 (n := 33) (t := 0) 0 160 rfl (in_ix i78 rfl) rfl e79
          refine g_cmp_ge 83 111 (gd rfl) rfl rfl (fun c80 => ?_) (fun c80 => ?_)
          · skip
            refine g_lload_n 112 (gd rfl) rfl rfl ?_
            refine g_aload_n 113 (gd rfl) rfl rfl ?_
            refine g_getA (q2 := 87) 116 (gd rfl) rfl rfl rfl rfl ?_
            refine g_iload 118 (gd rfl) rfl rfl ?_
            refine g_laload 119 (gd rfl) rfl (n := 32) rfl (in_ix j69_4 rfl) (fun z118 e118 => ?_)
            refine g_lload 121 (gd rfl) rfl rfl ?_
            refine g_iload 123 (gd rfl) rfl rfl ?_
            refine g_i2l 124 (gd rfl) rfl (fun z123 e123 => ?_)
            have i123 := l_i e123 j69_5
            refine g_lmul 125 (gd rfl) rfl (fun z124 e124 => ?_)
            refine g_lsub 126 (gd rfl) rfl (fun z125 e125 => ?_)
            refine g_ladd 127 (gd rfl) rfl (fun z126 e126 => ?_)
            refine g_lstore_n 128 (gd rfl) rfl (Nat.le_of_ble_eq_true rfl) ?_
            refine g_iinc 131 (gd rfl) rfl rfl (Nat.le_of_ble_eq_true rfl) (fun z128 e128 => ?_)
            have i128 := in_add 1 32 e128 j69_4 (in_c 1 rfl) rfl rfl
            refine g_goto 13 (gd rfl) rfl ?_
            have n13 : (w69_32_4).toInt = (w69_32_0).toInt := by first | exact n69_0 | ((first | have a0 := oa7 j69_4 ro_32_1 ((inv_F hIc69 0 4000 rfl v69_32_0)) ((inv_F hIc69 (-1) 4000 rfl v69_32_4)) j69_8 j69_5 i128 | ((first | have a0 := in_u j69_4 | (have a0 := j69_4; unfold In at a0)); (first | have a1 := in_u ro_32_1 | (have a1 := ro_32_1; unfold In at a1)); (first | have a2 := in_u ((inv_F hIc69 0 4000 rfl v69_32_0)) | (have a2 := (inv_F hIc69 0 4000 rfl v69_32_0); unfold In at a2)); (first | have a3 := in_u ((inv_F hIc69 (-1) 4000 rfl v69_32_4)) | (have a3 := (inv_F hIc69 (-1) 4000 rfl v69_32_4); unfold In at a3)); (first | have a4 := in_u j69_8 | (have a4 := j69_8; unfold In at a4)); (first | have a5 := in_u j69_5 | (have a5 := j69_5; unfold In at a5)); (first | have a6 := in_u i128 | (have a6 := i128; unfold In at a6)))); have a7 := t_add e128 j69_4 (in_c 1 rfl) rfl; (first | have a8 := in_u ((in_c 1 rfl)) | (have a8 := (in_c 1 rfl); unfold In at a8)); have a9 := tx_i2l e123; (first | have a10 := in_u i78 | (have a10 := i78; unfold In at a10)); have a11 := t_add e78 j69_4 (in_c 1 rfl) rfl; omega)
            exact gg_w (by first | exact Nat.le_add_right _ _ | exact gw2 | exact gw3 | exact gwe rfl | exact gwf rfl | exact gwg rfl | exact gwh rfl | omega) (gg_f (gf_cons rfl (gf_cons rfl (gf_cons rfl (gf_cons rfl gf_nil)))) (ih13 sc69 z126 z128 w69_32_4 w69_32_0 hIc69 hFc69 (in_w 0 32 i128 rfl) v69_32_4 v69_32_0 n13 (m_up mm13 (t_add e128 j69_4 (in_c 1 rfl) rfl) (in_w 1 1 (in_c 1 rfl) rfl))))
          · skip
            have i80 := r_lt1 0 159 c80 j69_8 i79 rfl
            have i80a := r_lt2 1 160 c80 j69_8 i79 rfl
            refine g_aload_n 84 (gd rfl) rfl rfl ?_
            refine g_getA (q2 := 88) 87 (gd rfl) rfl rfl rfl rfl ?_
            refine g_aload_n 88 (gd rfl) rfl rfl ?_
            refine g_getA (q2 := 35) 91 (gd rfl) rfl rfl rfl rfl ?_
            refine g_aload_n 92 (gd rfl) rfl rfl ?_
            refine g_getA (q2 := 43) 95 (gd rfl) rfl rfl rfl rfl ?_
            refine g_iload 97 (gd rfl) rfl rfl ?_
            refine g_iaload 98 (gd rfl) rfl (n := 160) rfl (in_ix i80 rfl) (fun z97 e97 => ?_)
            have i97 := inv_I hIc69 (n := 160) (t := 0) 0 159 rfl (in_ix i80 rfl) rfl e97
            refine g_iaload 99 (gd rfl) rfl (n := 160) rfl (in_ix i97 rfl) (fun z98 e98 => ?_)
            have i98 := inv_I hIc69 (n := 160) (t := 0) 0 31 rfl (in_ix i97 rfl) rfl e98
            refine g_dup2 100 (gd rfl) rfl rfl rfl ?_
            refine g_laload 101 (gd rfl) rfl (n := 32) rfl (in_ix i98 rfl) (fun z100 e100 => ?_)
            refine g_lload 103 (gd rfl) rfl rfl ?_
            refine g_ladd 104 (gd rfl) rfl (fun z103 e103 => ?_)
            refine g_lastore 105 (gd rfl) rfl (n := 32) rfl (in_ix i98 rfl) ?_
            have hI104 := inv_sL (q := 88) (j := z98.toNatClampNeg) (x := z103) hIc69 rfl (l_rng z103)
            refine g_iinc 108 (gd rfl) rfl rfl (Nat.le_of_ble_eq_true rfl) (fun z105 e105 => ?_)
            have i105 := in_add 1 160 e105 i80 (in_c 1 rfl) rfl rfl
            refine g_goto 69 (gd rfl) rfl ?_
            have v69 : w69_32_4 = (sL sc69 88 z98.toNatClampNeg z103).2.2.1 32 4 := sL_F (v69_32_4)
            have v69a : w69_32_0 = (sL sc69 88 z98.toNatClampNeg z103).2.2.1 32 0 := sL_F (v69_32_0)
            have n69 : (w69_32_4).toInt = (w69_32_0).toInt := by first | exact n69_0 | ((first | have a0 := oa7 j69_4 ro_32_1 ((inv_F hIc69 0 4000 rfl v69_32_0)) ((inv_F hIc69 (-1) 4000 rfl v69_32_4)) i80 j69_5 i105 | ((first | have a0 := in_u j69_4 | (have a0 := j69_4; unfold In at a0)); (first | have a1 := in_u ro_32_1 | (have a1 := ro_32_1; unfold In at a1)); (first | have a2 := in_u ((inv_F hIc69 0 4000 rfl v69_32_0)) | (have a2 := (inv_F hIc69 0 4000 rfl v69_32_0); unfold In at a2)); (first | have a3 := in_u ((inv_F hIc69 (-1) 4000 rfl v69_32_4)) | (have a3 := (inv_F hIc69 (-1) 4000 rfl v69_32_4); unfold In at a3)); (first | have a4 := in_u i80 | (have a4 := i80; unfold In at a4)); (first | have a5 := in_u j69_5 | (have a5 := j69_5; unfold In at a5)); (first | have a6 := in_u i105 | (have a6 := i105; unfold In at a6)))); have a7 := t_add e105 i80 (in_c 1 rfl) rfl; (first | have a8 := oa2 ((in_c 1 rfl)) i78 | ((first | have a8 := in_u ((in_c 1 rfl)) | (have a8 := (in_c 1 rfl); unfold In at a8)); (first | have a9 := in_u i78 | (have a9 := i78; unfold In at a9)))); have a10 := t_add e78 j69_4 (in_c 1 rfl) rfl; omega)
            exact gg_w (by first | exact Nat.le_add_right _ _ | exact gw2 | exact gw3 | exact gwe rfl | exact gwf rfl | exact gwg rfl | exact gwh rfl | omega) (gg_f (gf_cons rfl (gf_cons rfl (gf_cons rfl (gf_cons rfl (gf_cons rfl (gf_cons rfl (gf_cons rfl gf_nil))))))) (ih69 (sL sc69 88 z98.toNatClampNeg z103) y69_5 y69_6 z105 w69_32_4 w69_32_0 hI104 (fr_sL rfl hFc69) (in_w 0 31 j69_4 rfl) (in_w (-160) 160 j69_5 rfl) (in_w 0 160 i105 rfl) v69 v69a n69 (m_up mm69 (t_add e105 i80 (in_c 1 rfl) rfl) (in_w 1 1 (in_c 1 rfl) rfl))))
      refine g_iload 15 (gd rfl) rfl rfl ?_
      refine g_aload_n 16 (gd rfl) rfl rfl ?_
      refine g_getI 19 (gd rfl) rfl rfl rfl (fun z16 e16 => ?_)
      have q16 : u_32_1 = z16 := (fr_F e_32_1 hFc13 rfl).trans e16.symm
      subst q16
      refine g_cmp_ge 22 134 (gd rfl) rfl rfl (fun c19 => ?_) (fun c19 => ?_)
      · skip
        refine g_iconst 0 135 (gd rfl) rfl rfl ?_
        refine g_istore 137 (gd rfl) rfl (Nat.le_of_ble_eq_true rfl) ?_
        have n137 : (w13_32_4).toInt = (w13_32_0).toInt := by first | exact n13_0 | ((first | have a0 := oa5 ro_32_1 ((inv_F hIc13 0 4000 rfl v13_32_0)) ((inv_F hIc13 (-1) 4000 rfl v13_32_4)) j13_4 ((in_c 0 rfl)) | ((first | have a0 := in_u ro_32_1 | (have a0 := ro_32_1; unfold In at a0)); (first | have a1 := in_u ((inv_F hIc13 0 4000 rfl v13_32_0)) | (have a1 := (inv_F hIc13 0 4000 rfl v13_32_0); unfold In at a1)); (first | have a2 := in_u ((inv_F hIc13 (-1) 4000 rfl v13_32_4)) | (have a2 := (inv_F hIc13 (-1) 4000 rfl v13_32_4); unfold In at a2)); (first | have a3 := in_u j13_4 | (have a3 := j13_4; unfold In at a3)); (first | have a4 := in_u ((in_c 0 rfl)) | (have a4 := (in_c 0 rfl); unfold In at a4)))); omega)
        exact gg_w (by first | exact Nat.le_add_right _ _ | exact gw2 | exact gw3 | exact gwe rfl | exact gwf rfl | exact gwg rfl | exact gwh rfl | omega) (gg_f (gf_cons rfl (gf_cons rfl (gf_cons rfl (gf_cons rfl gf_nil)))) (ct137 33 sc13 y13_2 (Int32.ofInt 0) w13_32_4 w13_32_0 hIc13 hFc13 (in_w 0 32 (in_c 0 rfl) rfl) v13_32_4 v13_32_0 n137 (m_in 33 (in_w 0 32 (in_c 0 rfl) rfl) rfl)))
      · skip
        have i19 := r_lt1 0 31 c19 j13_4 ro_32_1 rfl
        have i19a := r_lt2 1 32 c19 j13_4 ro_32_1 rfl
        refine g_aload_n 23 (gd rfl) rfl rfl ?_
        refine g_iload 25 (gd rfl) rfl rfl ?_
        refine g_callv (X := _) (As := [.int y13_4]) (r := []) (b := A 32) (q := 32) 28 (gd rfl) rfl rfl rfl rfl rfl (ww_o rfl) (Nat.le_of_ble_eq_true rfl) (mc := 0) (ms := 0) (Nat.zero_le _) (Nat.zero_le _) (P := fun v u => _) ?_ (fun e u h => h) (fun v u h => h)
        intro po25 xx25 hp25 hx25
        refine g_enter2 (k := 103) (N := 300) (by first | exact dq1 hd rfl | exact dq0 hd rfl | exact dq2 hd rfl | exact dq3 hd rfl | omega) rfl (Nat.le_of_ble_eq_true rfl) ?_
        refine g_aload_n 1 (gd rfl) rfl rfl ?_
        refine g_getA (q2 := 42) 4 (gd rfl) rfl rfl rfl rfl ?_
        refine g_iload_n 5 (gd rfl) rfl rfl ?_
        refine g_iconst 1 6 (gd rfl) rfl rfl ?_
        refine g_iadd 7 (gd rfl) rfl (fun z25x6 e25x6 => ?_)
        have i25x6 := in_add 1 32 e25x6 i19 (in_c 1 rfl) rfl rfl
        refine g_iaload 8 (gd rfl) rfl (n := 33) rfl (in_ix i25x6 rfl) (fun z25x7 e25x7 => ?_)
        have i25x7 := inv_I hIc13 (n := 33) (t := 0) 0 160 rfl (in_ix i25x6 rfl) rfl e25x7
        refine g_aload_n 9 (gd rfl) rfl rfl ?_
        refine g_getA (q2 := 42) 12 (gd rfl) rfl rfl rfl rfl ?_
        refine g_iload_n 13 (gd rfl) rfl rfl ?_
        refine g_iaload 14 (gd rfl) rfl (n := 33) rfl (in_ix i19 rfl) (fun z25x13 e25x13 => ?_)
        have i25x13 := inv_I hIc13 (n := 33) (t := 0) 0 160 rfl (in_ix i19 rfl) rfl e25x13
        refine g_isub 15 (gd rfl) rfl (fun z25x14 e25x14 => ?_)
        have i25x14 := in_sub (-160) 160 e25x14 i25x7 i25x13 rfl rfl
        refine g_ireturn (gd rfl) rfl rfl (hp25 _ _ ?_)
        show GG _ _ _ _ _ _ _ _ [.int z25x14] _ _ _
        refine g_istore 30 (gd rfl) rfl (Nat.le_of_ble_eq_true rfl) ?_
        refine g_iload 32 (gd rfl) rfl rfl ?_
        refine g_if_ne 35 39 (gd rfl) rfl rfl (fun c32 => ?_) (fun c32 => ?_)
        · skip
          refine g_aload_n 40 (gd rfl) rfl rfl ?_
          refine g_getA (q2 := 87) 43 (gd rfl) rfl rfl rfl rfl ?_
          refine g_iload 45 (gd rfl) rfl rfl ?_
          refine g_laload 46 (gd rfl) rfl (n := 32) rfl (in_ix i19 rfl) (fun z45 e45 => ?_)
          refine g_ldc2_w 85 49 (gd rfl) rfl rfl ?_
          refine g_lmul 50 (gd rfl) rfl (fun z49 e49 => ?_)
          refine g_ldc2_w 100 53 (gd rfl) rfl rfl ?_
          refine g_iload 55 (gd rfl) rfl rfl ?_
          refine g_i2l 56 (gd rfl) rfl (fun z55 e55 => ?_)
          have i55 := l_i e55 i25x14
          refine g_lmul 57 (gd rfl) rfl (fun z56 e56 => ?_)
          have i56 := l_mulc 100 (-16000) 16000 (Or.inl e56) i55 rfl
          have nz57 : (z56).toInt ≠ 0 := by exact l_nz100 e56 e55 (by (first | have a0 := oa5 i19a ((inv_F hIc13 0 4000 rfl v13_32_0)) ((inv_F hIc13 (-1) 4000 rfl v13_32_4)) i19 i25x14 | ((first | have a0 := in_u i19a | (have a0 := i19a; unfold In at a0)); (first | have a1 := in_u ((inv_F hIc13 0 4000 rfl v13_32_0)) | (have a1 := (inv_F hIc13 0 4000 rfl v13_32_0); unfold In at a1)); (first | have a2 := in_u ((inv_F hIc13 (-1) 4000 rfl v13_32_4)) | (have a2 := (inv_F hIc13 (-1) 4000 rfl v13_32_4); unfold In at a2)); (first | have a3 := in_u i19 | (have a3 := i19; unfold In at a3)); (first | have a4 := in_u i25x14 | (have a4 := i25x14; unfold In at a4)))); have a5 := t_sub e25x14 i25x7 i25x13 rfl; (first | have a6 := oa2 i25x13 i25x7 | ((first | have a6 := in_u i25x13 | (have a6 := i25x13; unfold In at a6)); (first | have a7 := in_u i25x7 | (have a7 := i25x7; unfold In at a7)))); have a8 := tx_i2l e55; (first | have a9 := in_u i25x6 | (have a9 := i25x6; unfold In at a9)); have a10 := t_add e25x6 i19 (in_c 1 rfl) rfl; (first | have a11 := in_u ((in_c 1 rfl)) | (have a11 := (in_c 1 rfl); unfold In at a11)); omega) (by (first | have a0 := oa5 i19a ((inv_F hIc13 0 4000 rfl v13_32_0)) ((inv_F hIc13 (-1) 4000 rfl v13_32_4)) i19 i25x14 | ((first | have a0 := in_u i19a | (have a0 := i19a; unfold In at a0)); (first | have a1 := in_u ((inv_F hIc13 0 4000 rfl v13_32_0)) | (have a1 := (inv_F hIc13 0 4000 rfl v13_32_0); unfold In at a1)); (first | have a2 := in_u ((inv_F hIc13 (-1) 4000 rfl v13_32_4)) | (have a2 := (inv_F hIc13 (-1) 4000 rfl v13_32_4); unfold In at a2)); (first | have a3 := in_u i19 | (have a3 := i19; unfold In at a3)); (first | have a4 := in_u i25x14 | (have a4 := i25x14; unfold In at a4)))); have a5 := t_sub e25x14 i25x7 i25x13 rfl; (first | have a6 := oa2 i25x13 i25x7 | ((first | have a6 := in_u i25x13 | (have a6 := i25x13; unfold In at a6)); (first | have a7 := in_u i25x7 | (have a7 := i25x7; unfold In at a7)))); have a8 := tx_i2l e55; (first | have a9 := in_u i25x6 | (have a9 := i25x6; unfold In at a9)); have a10 := t_add e25x6 i19 (in_c 1 rfl) rfl; (first | have a11 := in_u ((in_c 1 rfl)) | (have a11 := (in_c 1 rfl); unfold In at a11)); omega) (by (first | have a0 := oa5 i19a ((inv_F hIc13 0 4000 rfl v13_32_0)) ((inv_F hIc13 (-1) 4000 rfl v13_32_4)) i19 i25x14 | ((first | have a0 := in_u i19a | (have a0 := i19a; unfold In at a0)); (first | have a1 := in_u ((inv_F hIc13 0 4000 rfl v13_32_0)) | (have a1 := (inv_F hIc13 0 4000 rfl v13_32_0); unfold In at a1)); (first | have a2 := in_u ((inv_F hIc13 (-1) 4000 rfl v13_32_4)) | (have a2 := (inv_F hIc13 (-1) 4000 rfl v13_32_4); unfold In at a2)); (first | have a3 := in_u i19 | (have a3 := i19; unfold In at a3)); (first | have a4 := in_u i25x14 | (have a4 := i25x14; unfold In at a4)))); have a5 := t_sub e25x14 i25x7 i25x13 rfl; (first | have a6 := oa2 i25x13 i25x7 | ((first | have a6 := in_u i25x13 | (have a6 := i25x13; unfold In at a6)); (first | have a7 := in_u i25x7 | (have a7 := i25x7; unfold In at a7)))); have a8 := tx_i2l e55; (first | have a9 := in_u i25x6 | (have a9 := i25x6; unfold In at a9)); have a10 := t_add e25x6 i19 (in_c 1 rfl) rfl; (first | have a11 := in_u ((in_c 1 rfl)) | (have a11 := (in_c 1 rfl); unfold In at a11)); omega)
          refine g_ldiv 58 (gd rfl) rfl (lnz nz57) (fun z57 e57 => ?_)
          refine g_lstore 60 (gd rfl) rfl (Nat.le_of_ble_eq_true rfl) ?_
          refine g_aload_n 61 (gd rfl) rfl rfl ?_
          refine g_getA (q2 := 42) 64 (gd rfl) rfl rfl rfl rfl ?_
          refine g_iload 66 (gd rfl) rfl rfl ?_
          refine g_iaload 67 (gd rfl) rfl (n := 33) rfl (in_ix i19 rfl) (fun z66 e66 => ?_)
          have q66 : z25x13 = z66 := (e25x13).trans e66.symm
          subst q66
          refine g_istore 69 (gd rfl) rfl (Nat.le_of_ble_eq_true rfl) ?_
          have n69 : (w13_32_4).toInt = (w13_32_0).toInt := by first | exact n13_0 | ((first | have a0 := oa6 i19a ((inv_F hIc13 0 4000 rfl v13_32_0)) ((inv_F hIc13 (-1) 4000 rfl v13_32_4)) i19 i25x13 i25x14 | ((first | have a0 := in_u i19a | (have a0 := i19a; unfold In at a0)); (first | have a1 := in_u ((inv_F hIc13 0 4000 rfl v13_32_0)) | (have a1 := (inv_F hIc13 0 4000 rfl v13_32_0); unfold In at a1)); (first | have a2 := in_u ((inv_F hIc13 (-1) 4000 rfl v13_32_4)) | (have a2 := (inv_F hIc13 (-1) 4000 rfl v13_32_4); unfold In at a2)); (first | have a3 := in_u i19 | (have a3 := i19; unfold In at a3)); (first | have a4 := in_u i25x13 | (have a4 := i25x13; unfold In at a4)); (first | have a5 := in_u i25x14 | (have a5 := i25x14; unfold In at a5)))); have a6 := t_sub e25x14 i25x7 i25x13 rfl; (first | have a7 := in_u i25x7 | (have a7 := i25x7; unfold In at a7)); have a8 := tx_i2l e55; (first | have a9 := in_u i25x6 | (have a9 := i25x6; unfold In at a9)); have a10 := t_add e25x6 i19 (in_c 1 rfl) rfl; (first | have a11 := in_u ((in_c 1 rfl)) | (have a11 := (in_c 1 rfl); unfold In at a11)); omega)
          exact gg_w (by first | exact Nat.le_add_right _ _ | exact gw2 | exact gw3 | exact gwe rfl | exact gwf rfl | exact gwg rfl | exact gwh rfl | omega) (gg_f (gf_cons rfl (gf_cons rfl (gf_cons rfl (gf_cons rfl (gf_cons rfl (gf_cons rfl (gf_cons rfl gf_nil))))))) (ct69 161 sc13 z25x14 z57 z25x13 w13_32_4 w13_32_0 hIc13 hFc13 (in_w 0 31 i19 rfl) (in_w (-160) 160 i25x14 rfl) (in_w 0 160 i25x13 rfl) v13_32_4 v13_32_0 n69 (m_in 161 (in_w 0 160 i25x13 rfl) rfl)))
        · skip
          have i32 := z_eq 0 0 c32 i25x14 rfl
          refine g_lconst 0 36 (gd rfl) rfl rfl ?_
          refine g_goto 58 (gd rfl) rfl ?_
          refine g_lstore 60 (gd rfl) rfl (Nat.le_of_ble_eq_true rfl) ?_
          refine g_aload_n 61 (gd rfl) rfl rfl ?_
          refine g_getA (q2 := 42) 64 (gd rfl) rfl rfl rfl rfl ?_
          refine g_iload 66 (gd rfl) rfl rfl ?_
          refine g_iaload 67 (gd rfl) rfl (n := 33) rfl (in_ix i19 rfl) (fun z66 e66 => ?_)
          have q66 : z25x13 = z66 := (e25x13).trans e66.symm
          subst q66
          refine g_istore 69 (gd rfl) rfl (Nat.le_of_ble_eq_true rfl) ?_
          have n69 : (w13_32_4).toInt = (w13_32_0).toInt := by first | exact n13_0 | ((first | have a0 := oa6 i19a ((inv_F hIc13 0 4000 rfl v13_32_0)) ((inv_F hIc13 (-1) 4000 rfl v13_32_4)) i19 i25x13 i32 | ((first | have a0 := in_u i19a | (have a0 := i19a; unfold In at a0)); (first | have a1 := in_u ((inv_F hIc13 0 4000 rfl v13_32_0)) | (have a1 := (inv_F hIc13 0 4000 rfl v13_32_0); unfold In at a1)); (first | have a2 := in_u ((inv_F hIc13 (-1) 4000 rfl v13_32_4)) | (have a2 := (inv_F hIc13 (-1) 4000 rfl v13_32_4); unfold In at a2)); (first | have a3 := in_u i19 | (have a3 := i19; unfold In at a3)); (first | have a4 := in_u i25x13 | (have a4 := i25x13; unfold In at a4)); (first | have a5 := in_u i32 | (have a5 := i32; unfold In at a5)))); have a6 := t_sub e25x14 i25x7 i25x13 rfl; (first | have a7 := oa2 i25x7 i25x6 | ((first | have a7 := in_u i25x7 | (have a7 := i25x7; unfold In at a7)); (first | have a8 := in_u i25x6 | (have a8 := i25x6; unfold In at a8)))); have a9 := t_add e25x6 i19 (in_c 1 rfl) rfl; (first | have a10 := in_u ((in_c 1 rfl)) | (have a10 := (in_c 1 rfl); unfold In at a10)); omega)
          exact gg_w (by first | exact Nat.le_add_right _ _ | exact gw2 | exact gw3 | exact gwe rfl | exact gwf rfl | exact gwg rfl | exact gwh rfl | omega) (gg_f (gf_cons rfl (gf_cons rfl (gf_cons rfl (gf_cons rfl (gf_cons rfl (gf_cons rfl (gf_cons rfl gf_nil))))))) (ct69 161 sc13 z25x14 (Int64.ofInt 0) z25x13 w13_32_4 w13_32_0 hIc13 hFc13 (in_w 0 31 i19 rfl) (in_w (-160) 160 i32 rfl) (in_w 0 160 i25x13 rfl) v13_32_4 v13_32_0 n69 (m_in 161 (in_w 0 160 i25x13 rfl) rfl)))
  refine g_enter2 (k := 110) (N := 4901435) (by first | exact dq1 hd rfl | exact dq0 hd rfl | exact dq2 hd rfl | exact dq3 hd rfl | omega) rfl (Nat.le_of_ble_eq_true rfl) ?_
  refine g_lconst 0 1 (gd rfl) rfl rfl ?_
  refine g_lstore_n 2 (gd rfl) rfl (Nat.le_of_ble_eq_true rfl) ?_
  refine g_aload_n 3 (gd rfl) rfl rfl ?_
  refine g_getA (q2 := 88) 6 (gd rfl) rfl rfl rfl rfl ?_
  refine g_lconst 0 7 (gd rfl) rfl rfl ?_
  refine g_calls (As := [.ref (A 88), .long (Int64.ofInt 0)]) (r := []) 10 (gd rfl) rfl rfl rfl rfl rfl (Nat.le_of_ble_eq_true rfl) (Nat.zero_le _) (Nat.zero_le _) (k_fillL 88 (by first | exact dq1 hd rfl | exact dq0 hd rfl | exact dq2 hd rfl | exact dq3 hd rfl | omega) hI (n := 32) rfl rfl rfl (l_rng (Int64.ofInt 0))) (fun v u h => ?_)
  obtain ⟨s7, hI7, hF7, rfl, rfl, fl7⟩ := h
  show GG _ _ _ _ _ _ _ _ [] _ _ _
  refine g_iconst 0 11 (gd rfl) rfl rfl ?_
  refine g_istore 13 (gd rfl) rfl (Nat.le_of_ble_eq_true rfl) ?_
  have v13 : u_32_4 = s7.2.2.1 32 4 := fr_F (e_32_4) hF7 rfl
  have v13a : u_32_0 = s7.2.2.1 32 0 := fr_F (e_32_0) hF7 rfl
  have n13 : (u_32_4).toInt = (u_32_0).toInt := by (first | have a0 := oa4 ro_32_1 ((inv_F hI 0 4000 rfl e_32_0)) ((inv_F hI (-1) 4000 rfl e_32_4)) ((in_c 0 rfl)) | ((first | have a0 := in_u ro_32_1 | (have a0 := ro_32_1; unfold In at a0)); (first | have a1 := in_u ((inv_F hI 0 4000 rfl e_32_0)) | (have a1 := (inv_F hI 0 4000 rfl e_32_0); unfold In at a1)); (first | have a2 := in_u ((inv_F hI (-1) 4000 rfl e_32_4)) | (have a2 := (inv_F hI (-1) 4000 rfl e_32_4); unfold In at a2)); (first | have a3 := in_u ((in_c 0 rfl)) | (have a3 := (in_c 0 rfl); unfold In at a3)))); omega
  exact gg_w (by first | exact Nat.le_of_ble_eq_true rfl | omega) (gg_f (gf_cons rfl (gf_cons rfl (gf_cons rfl (gf_cons rfl gf_nil)))) (ct13 33 s7 (Int64.ofInt 0) (Int32.ofInt 0) u_32_4 u_32_0 hI7 (fr_tr rfl fr_rf hF7) (in_w 0 32 (in_c 0 rfl) rfl) v13 v13a n13 (m_in 33 (in_w 0 32 (in_c 0 rfl) rfl) rfl)))

def fm_49_60_9 : FM := ([63], [], [(60, 7)], [])
/-- GraphHouse$Colours.setAside -/
theorem k_49_60_9 {Z : AmZ} {A : Nat → Nat} {s : GS} {ex : va_W} {d : Nat} {X : AmX} {x2 : Int32} (hd : 4 ≤ d) (hI : Inv s)  : GC Z d 49 [.ref (A 60), .ref (A 9), .int x2] (WW Z A s ++ ex) 0 0 (fun v u => ∃ t : GS, Inv t ∧ Fr fm_49_60_9 s t ∧ ∃ z : Int32, v = some (.int z) ∧ u = WW Z A t ++ ex ∧ In z (-2147483648) 2147483647) X := by
  intro post xp hP hX
  have ct8 : ∀ (k8 : Nat) (sc8 : GS) (y8_3 : Int32) (y8_4 : Int32) (y8_5 : Int32), Inv sc8 → Fr fm_49_60_9 s sc8 → (In y8_5 0 33) → 33 - (y8_5).toInt < (k8 : Int) → GG Z (d - 1) 49 post (gx xp) (1 + k8 * 3865470569101) 8 (fun j => xlook j [(0, .ref (A 60)), (1, .ref (A 9)), (2, .int x2), (3, .int y8_3), (4, .int y8_4), (5, .int y8_5)]) [] (WW Z A sc8 ++ ex) 0 0 := by
    intro k8
    induction k8 with
    | zero => intro sc8 y8_3 y8_4 y8_5 hIc8 hFc8 j8_5 mm8; exact m_no mm8 j8_5 rfl
    | succ k8 ih8 =>
      intro sc8 y8_3 y8_4 y8_5 hIc8 hFc8 j8_5 mm8
      refine gg_w (M := 1 + k8 * 3865470569101 + 3865470569101) gws ?_
      have ct27 : ∀ (k27 : Nat) (sc27 : GS) (y27_3 : Int32) (y27_4 : Int32) (y27_6 : Int32), Inv sc27 → Fr fm_49_60_9 s sc27 → (In y8_5 0 32) → ((y27_6.toBitVec.toNat : Nat) : Int) < (k27 : Int) → GG Z (d - 1) 49 post (gx xp) (1 + k8 * 3865470569101 + 1 + k27 * 900) 27 (fun j => xlook j [(0, .ref (A 60)), (1, .ref (A 9)), (2, .int x2), (3, .int y27_3), (4, .int y27_4), (5, .int y8_5), (6, .int y27_6)]) [] (WW Z A sc27 ++ ex) 0 0 := by
        intro k27
        induction k27 with
        | zero => intro sc27 y27_3 y27_4 y27_6 hIc27 hFc27 j27_5 mm27; exact absurd mm27 (Int.not_lt.mpr (Int.natCast_nonneg _))
        | succ k27 ih27 =>
          intro sc27 y27_3 y27_4 y27_6 hIc27 hFc27 j27_5 mm27
          refine gg_w (M := 1 + k8 * 3865470569101 + 1 + k27 * 900 + 900) gws ?_
          refine g_iload 29 (gd rfl) rfl rfl ?_
          refine g_if_eq 32 110 (gd rfl) rfl rfl (fun c29 => ?_) (fun c29 => ?_)
          · skip
            have i29 := z_eq 0 0 c29 (i_rng y27_6) rfl
            refine g_iinc 113 (gd rfl) rfl rfl (Nat.le_of_ble_eq_true rfl) (fun z110 e110 => ?_)
            have i110 := in_add 1 33 e110 j27_5 (in_c 1 rfl) rfl rfl
            refine g_goto 8 (gd rfl) rfl ?_
            exact gg_w (by first | exact Nat.le_add_right _ _ | exact gw2 | exact gw3 | exact gwe rfl | exact gwf rfl | exact gwg rfl | exact gwh rfl | omega) (gg_f (gf_cons rfl (gf_cons rfl (gf_cons rfl (gf_cons rfl (gf_cons rfl (gf_cons rfl gf_nil)))))) (ih8 sc27 y27_3 y27_4 z110 hIc27 hFc27 (in_w 0 33 i110 rfl) (m_up mm8 (t_add e110 j27_5 (in_c 1 rfl) rfl) (in_w 1 1 (in_c 1 rfl) rfl))))
          · skip
            refine g_iload 34 (gd rfl) rfl rfl ?_
            refine g_calls (As := [.int y27_6]) (r := []) 37 (gd rfl) rfl rfl rfl rfl rfl (Nat.le_of_ble_eq_true rfl) (Nat.zero_le _) (Nat.zero_le _) (k_264n (by first | exact dq1 hd rfl | exact dq0 hd rfl | exact dq2 hd rfl | exact dq3 hd rfl | omega) c29) (fun v u h => ?_)
            obtain ⟨z34, rfl, rfl, i34, hb34, hl34⟩ := h
            show GG _ _ _ _ _ _ _ _ [.int z34] _ _ _
            refine g_istore 39 (gd rfl) rfl (Nat.le_of_ble_eq_true rfl) ?_
            refine g_aload_n 40 (gd rfl) rfl rfl ?_
            refine g_aload_n 41 (gd rfl) rfl rfl ?_
            refine g_iload 43 (gd rfl) rfl rfl ?_
            refine g_iaload 44 (gd rfl) rfl (n := 32) rfl (in_ix i34 rfl) (fun z43 e43 => ?_)
            refine g_callv (X := _) (As := [.int z43]) (r := []) (b := A 60) (q := 60) 47 (gd rfl) rfl rfl rfl rfl rfl (ww_o rfl) (Nat.le_of_ble_eq_true rfl) (Nat.zero_le _) (Nat.zero_le _) (k_51_60 (by first | exact dq1 hd rfl | exact dq0 hd rfl | exact dq2 hd rfl | exact dq3 hd rfl | omega) hIc27 ) (fun e u h => h) (fun v u h => ?_)
            obtain ⟨z44, rfl, rfl, i44⟩ := h
            show GG _ _ _ _ _ _ _ _ [.int z44] _ _ _
            refine g_aload_n 48 (gd rfl) rfl rfl ?_
            refine g_iload 50 (gd rfl) rfl rfl ?_
            refine g_iaload 51 (gd rfl) rfl (n := 32) rfl (in_ix i34 rfl) (fun z50 e50 => ?_)
            have q50 : z43 = z50 := (e43).trans e50.symm
            subst q50
            refine g_iload_n 52 (gd rfl) rfl rfl ?_
            refine g_iand 53 (gd rfl) rfl (fun z52 e52 => ?_)
            refine g_calls (As := [.int z52]) (r := [.int z44]) 56 (gd rfl) rfl rfl rfl rfl rfl (Nat.le_of_ble_eq_true rfl) (Nat.zero_le _) (Nat.zero_le _) (k_414b (by first | exact dq1 hd rfl | exact dq0 hd rfl | exact dq2 hd rfl | exact dq3 hd rfl | omega) hIc27 ) (fun v u h => ?_)
            obtain ⟨z53, rfl, rfl, i53⟩ := h
            show GG _ _ _ _ _ _ _ _ [.int z53, .int z44] _ _ _
            refine g_cmp_le 59 98 (gd rfl) rfl rfl (fun c56 => ?_) (fun c56 => ?_)
            · skip
              refine g_iload 100 (gd rfl) rfl rfl ?_
              refine g_iload 102 (gd rfl) rfl rfl ?_
              refine g_iconst 1 103 (gd rfl) rfl rfl ?_
              refine g_isub 104 (gd rfl) rfl (fun z103 e103 => ?_)
              refine g_iand 105 (gd rfl) rfl (fun z104 e104 => ?_)
              refine g_istore 107 (gd rfl) rfl (Nat.le_of_ble_eq_true rfl) ?_
              refine g_goto 27 (gd rfl) rfl ?_
              exact gg_w (by first | exact Nat.le_add_right _ _ | exact gw2 | exact gw3 | exact gwe rfl | exact gwf rfl | exact gwg rfl | exact gwh rfl | omega) (gg_f (gf_cons rfl (gf_cons rfl (gf_cons rfl (gf_cons rfl (gf_cons rfl (gf_cons rfl (gf_cons rfl gf_nil))))))) (ih27 sc27 y27_3 y27_4 z104 hIc27 hFc27 (in_w 0 32 j27_5 rfl) (mb e104 e103 c29 mm27)))
            · skip
              have i56 := r_lt1 0 31 c56 i53 i44 rfl
              have i56a := r_lt2 1 32 c56 i53 i44 rfl
              refine g_aload_n 60 (gd rfl) rfl rfl ?_
              refine g_getI 63 (gd rfl) rfl rfl rfl (fun z60 e60 => ?_)
              have i60 := inv_F hIc27 0 32 rfl e60
              refine g_bipush 32 65 (gd rfl) rfl rfl ?_
              refine g_cmp_ge 68 98 (gd rfl) rfl rfl (fun c65 => ?_) (fun c65 => ?_)
              · skip
                have i65 := r_le2 32 32 c65 (in_c 32 rfl) i60 rfl
                refine g_iload 100 (gd rfl) rfl rfl ?_
                refine g_iload 102 (gd rfl) rfl rfl ?_
                refine g_iconst 1 103 (gd rfl) rfl rfl ?_
                refine g_isub 104 (gd rfl) rfl (fun z103 e103 => ?_)
                refine g_iand 105 (gd rfl) rfl (fun z104 e104 => ?_)
                refine g_istore 107 (gd rfl) rfl (Nat.le_of_ble_eq_true rfl) ?_
                refine g_goto 27 (gd rfl) rfl ?_
                exact gg_w (by first | exact Nat.le_add_right _ _ | exact gw2 | exact gw3 | exact gwe rfl | exact gwf rfl | exact gwg rfl | exact gwh rfl | omega) (gg_f (gf_cons rfl (gf_cons rfl (gf_cons rfl (gf_cons rfl (gf_cons rfl (gf_cons rfl (gf_cons rfl gf_nil))))))) (ih27 sc27 y27_3 y27_4 z104 hIc27 hFc27 (in_w 0 32 j27_5 rfl) (mb e104 e103 c29 mm27)))
              · skip
                have i65 := r_lt1 0 31 c65 i60 (in_c 32 rfl) rfl
                refine g_aload_n 69 (gd rfl) rfl rfl ?_
                refine g_getA (q2 := 63) 72 (gd rfl) rfl rfl rfl rfl ?_
                refine g_aload_n 73 (gd rfl) rfl rfl ?_
                refine g_getI 76 (gd rfl) rfl rfl rfl (fun z73 e73 => ?_)
                have q73 : z60 = z73 := (e60).trans e73.symm
                subst q73
                refine g_iload 78 (gd rfl) rfl rfl ?_
                refine g_iastore 79 (gd rfl) rfl (n := 32) rfl (in_ix i65 rfl) ?_
                have hI78 := inv_sI (q := 63) (j := z60.toNatClampNeg) hIc27 rfl (in_w 0 31 i34 rfl)
                refine g_aload_n 80 (gd rfl) rfl rfl ?_
                refine g_dup 81 (gd rfl) rfl rfl ?_
                refine g_getI 84 (gd rfl) rfl rfl rfl (fun z81 e81 => ?_)
                have q81 : z60 = z81 := (sI_F (e60)).trans e81.symm
                subst q81
                refine g_iconst 1 85 (gd rfl) rfl rfl ?_
                refine g_iadd 86 (gd rfl) rfl (fun z85 e85 => ?_)
                have i85 := in_add 1 32 e85 i65 (in_c 1 rfl) rfl rfl
                refine g_putI 89 (gd rfl) rfl rfl rfl rfl ?_
                have hI86 := inv_sF (q := 60) (j := 7) hI78 rfl (in_w 0 32 i85 rfl)
                refine g_iload_n 90 (gd rfl) rfl rfl ?_
                refine g_iconst 1 91 (gd rfl) rfl rfl ?_
                refine g_iload 93 (gd rfl) rfl rfl ?_
                refine g_ishl 94 (gd rfl) rfl (fun z93 e93 => ?_)
                refine g_iconst (-1) 95 (gd rfl) rfl rfl ?_
                refine g_ixor 96 (gd rfl) rfl (fun z95 e95 => ?_)
                refine g_iand 97 (gd rfl) rfl (fun z96 e96 => ?_)
                refine g_istore_n 98 (gd rfl) rfl (Nat.le_of_ble_eq_true rfl) ?_
                refine g_iload 100 (gd rfl) rfl rfl ?_
                refine g_iload 102 (gd rfl) rfl rfl ?_
                refine g_iconst 1 103 (gd rfl) rfl rfl ?_
                refine g_isub 104 (gd rfl) rfl (fun z103 e103 => ?_)
                refine g_iand 105 (gd rfl) rfl (fun z104 e104 => ?_)
                refine g_istore 107 (gd rfl) rfl (Nat.le_of_ble_eq_true rfl) ?_
                refine g_goto 27 (gd rfl) rfl ?_
                exact gg_w (by first | exact Nat.le_add_right _ _ | exact gw2 | exact gw3 | exact gwe rfl | exact gwf rfl | exact gwg rfl | exact gwh rfl | omega) (gg_f (gf_cons rfl (gf_cons rfl (gf_cons rfl (gf_cons rfl (gf_cons rfl (gf_cons rfl (gf_cons rfl gf_nil))))))) (ih27 (sF (sI sc27 63 z60.toNatClampNeg z34) 60 7 z85) z96 y27_4 z104 hI86 (fr_sF rfl (fr_sI rfl hFc27)) (in_w 0 32 j27_5 rfl) (mb e104 e103 c29 mm27)))
      refine g_iload 10 (gd rfl) rfl rfl ?_
      refine g_bipush 32 12 (gd rfl) rfl rfl ?_
      refine g_cmp_gt 15 116 (gd rfl) rfl rfl (fun c12 => ?_) (fun c12 => ?_)
      · skip
        have i12 := r_lt2 33 33 c12 (in_c 32 rfl) j8_5 rfl
        refine g_iload_n 117 (gd rfl) rfl rfl ?_
        exact g_ireturn (gd rfl) rfl rfl (hP _ _ ⟨sc8, hIc8, hFc8, y8_3, rfl, rfl, in_w (-2147483648) 2147483647 (i_rng y8_3) rfl⟩)
      · skip
        have i12 := r_le1 0 32 c12 j8_5 (in_c 32 rfl) rfl
        refine g_iload_n 16 (gd rfl) rfl rfl ?_
        refine g_iload 18 (gd rfl) rfl rfl ?_
        refine g_cmp_eq 21 116 (gd rfl) rfl rfl (fun c18 => ?_) (fun c18 => ?_)
        · skip
          refine g_iload_n 117 (gd rfl) rfl rfl ?_
          exact g_ireturn (gd rfl) rfl rfl (hP _ _ ⟨sc8, hIc8, hFc8, y8_3, rfl, rfl, in_w (-2147483648) 2147483647 (i_rng y8_3) rfl⟩)
        · skip
          refine g_iload_n 22 (gd rfl) rfl rfl ?_
          refine g_istore 24 (gd rfl) rfl (Nat.le_of_ble_eq_true rfl) ?_
          refine g_iload_n 25 (gd rfl) rfl rfl ?_
          refine g_istore 27 (gd rfl) rfl (Nat.le_of_ble_eq_true rfl) ?_
          exact gg_w (by first | exact Nat.le_add_right _ _ | exact gw2 | exact gw3 | exact gwe rfl | exact gwf rfl | exact gwg rfl | exact gwh rfl | omega) (gg_f (gf_cons rfl (gf_cons rfl (gf_cons rfl (gf_cons rfl (gf_cons rfl (gf_cons rfl (gf_cons rfl gf_nil))))))) (ct27 4294967296 sc8 y8_3 y8_3 y8_3 hIc8 hFc8 (in_w 0 32 i12 rfl) (mb_in _)))
  refine g_enter2 (k := 49) (N := 131425999350335) (by first | exact dq1 hd rfl | exact dq0 hd rfl | exact dq2 hd rfl | exact dq3 hd rfl | omega) rfl (Nat.le_of_ble_eq_true rfl) ?_
  refine g_iload_n 1 (gd rfl) rfl rfl ?_
  refine g_istore_n 2 (gd rfl) rfl (Nat.le_of_ble_eq_true rfl) ?_
  refine g_iconst 0 3 (gd rfl) rfl rfl ?_
  refine g_istore 5 (gd rfl) rfl (Nat.le_of_ble_eq_true rfl) ?_
  refine g_iconst 0 6 (gd rfl) rfl rfl ?_
  refine g_istore 8 (gd rfl) rfl (Nat.le_of_ble_eq_true rfl) ?_
  exact gg_w (by first | exact Nat.le_of_ble_eq_true rfl | omega) (gg_f (gf_cons rfl (gf_cons rfl (gf_cons rfl (gf_cons rfl (gf_cons rfl (gf_cons rfl gf_nil)))))) (ct8 34 s x2 (Int32.ofInt 0) (Int32.ofInt 0) hI fr_rf (in_w 0 33 (in_c 0 rfl) rfl) (m_in 34 (in_w 0 33 (in_c 0 rfl) rfl) rfl)))

def fm_49_60_39 : FM := ([63], [], [(60, 7)], [])
/-- GraphHouse$Colours.setAside -/
theorem k_49_60_39 {Z : AmZ} {A : Nat → Nat} {s : GS} {ex : va_W} {d : Nat} {X : AmX} {x2 : Int32} (hd : 4 ≤ d) (hI : Inv s)  : GC Z d 49 [.ref (A 60), .ref (A 39), .int x2] (WW Z A s ++ ex) 0 0 (fun v u => ∃ t : GS, Inv t ∧ Fr fm_49_60_39 s t ∧ ∃ z : Int32, v = some (.int z) ∧ u = WW Z A t ++ ex ∧ In z (-2147483648) 2147483647) X := by
  intro post xp hP hX
  have ct8 : ∀ (k8 : Nat) (sc8 : GS) (y8_3 : Int32) (y8_4 : Int32) (y8_5 : Int32), Inv sc8 → Fr fm_49_60_39 s sc8 → (In y8_5 0 33) → 33 - (y8_5).toInt < (k8 : Int) → GG Z (d - 1) 49 post (gx xp) (1 + k8 * 3865470569101) 8 (fun j => xlook j [(0, .ref (A 60)), (1, .ref (A 39)), (2, .int x2), (3, .int y8_3), (4, .int y8_4), (5, .int y8_5)]) [] (WW Z A sc8 ++ ex) 0 0 := by
    intro k8
    induction k8 with
    | zero => intro sc8 y8_3 y8_4 y8_5 hIc8 hFc8 j8_5 mm8; exact m_no mm8 j8_5 rfl
    | succ k8 ih8 =>
      intro sc8 y8_3 y8_4 y8_5 hIc8 hFc8 j8_5 mm8
      refine gg_w (M := 1 + k8 * 3865470569101 + 3865470569101) gws ?_
      have ct27 : ∀ (k27 : Nat) (sc27 : GS) (y27_3 : Int32) (y27_4 : Int32) (y27_6 : Int32), Inv sc27 → Fr fm_49_60_39 s sc27 → (In y8_5 0 32) → ((y27_6.toBitVec.toNat : Nat) : Int) < (k27 : Int) → GG Z (d - 1) 49 post (gx xp) (1 + k8 * 3865470569101 + 1 + k27 * 900) 27 (fun j => xlook j [(0, .ref (A 60)), (1, .ref (A 39)), (2, .int x2), (3, .int y27_3), (4, .int y27_4), (5, .int y8_5), (6, .int y27_6)]) [] (WW Z A sc27 ++ ex) 0 0 := by
        intro k27
        induction k27 with
        | zero => intro sc27 y27_3 y27_4 y27_6 hIc27 hFc27 j27_5 mm27; exact absurd mm27 (Int.not_lt.mpr (Int.natCast_nonneg _))
        | succ k27 ih27 =>
          intro sc27 y27_3 y27_4 y27_6 hIc27 hFc27 j27_5 mm27
          refine gg_w (M := 1 + k8 * 3865470569101 + 1 + k27 * 900 + 900) gws ?_
          refine g_iload 29 (gd rfl) rfl rfl ?_
          refine g_if_eq 32 110 (gd rfl) rfl rfl (fun c29 => ?_) (fun c29 => ?_)
          · skip
            have i29 := z_eq 0 0 c29 (i_rng y27_6) rfl
            refine g_iinc 113 (gd rfl) rfl rfl (Nat.le_of_ble_eq_true rfl) (fun z110 e110 => ?_)
            have i110 := in_add 1 33 e110 j27_5 (in_c 1 rfl) rfl rfl
            refine g_goto 8 (gd rfl) rfl ?_
            exact gg_w (by first | exact Nat.le_add_right _ _ | exact gw2 | exact gw3 | exact gwe rfl | exact gwf rfl | exact gwg rfl | exact gwh rfl | omega) (gg_f (gf_cons rfl (gf_cons rfl (gf_cons rfl (gf_cons rfl (gf_cons rfl (gf_cons rfl gf_nil)))))) (ih8 sc27 y27_3 y27_4 z110 hIc27 hFc27 (in_w 0 33 i110 rfl) (m_up mm8 (t_add e110 j27_5 (in_c 1 rfl) rfl) (in_w 1 1 (in_c 1 rfl) rfl))))
          · skip
            refine g_iload 34 (gd rfl) rfl rfl ?_
            refine g_calls (As := [.int y27_6]) (r := []) 37 (gd rfl) rfl rfl rfl rfl rfl (Nat.le_of_ble_eq_true rfl) (Nat.zero_le _) (Nat.zero_le _) (k_264n (by first | exact dq1 hd rfl | exact dq0 hd rfl | exact dq2 hd rfl | exact dq3 hd rfl | omega) c29) (fun v u h => ?_)
            obtain ⟨z34, rfl, rfl, i34, hb34, hl34⟩ := h
            show GG _ _ _ _ _ _ _ _ [.int z34] _ _ _
            refine g_istore 39 (gd rfl) rfl (Nat.le_of_ble_eq_true rfl) ?_
            refine g_aload_n 40 (gd rfl) rfl rfl ?_
            refine g_aload_n 41 (gd rfl) rfl rfl ?_
            refine g_iload 43 (gd rfl) rfl rfl ?_
            refine g_iaload 44 (gd rfl) rfl (n := 32) rfl (in_ix i34 rfl) (fun z43 e43 => ?_)
            refine g_callv (X := _) (As := [.int z43]) (r := []) (b := A 60) (q := 60) 47 (gd rfl) rfl rfl rfl rfl rfl (ww_o rfl) (Nat.le_of_ble_eq_true rfl) (Nat.zero_le _) (Nat.zero_le _) (k_51_60 (by first | exact dq1 hd rfl | exact dq0 hd rfl | exact dq2 hd rfl | exact dq3 hd rfl | omega) hIc27 ) (fun e u h => h) (fun v u h => ?_)
            obtain ⟨z44, rfl, rfl, i44⟩ := h
            show GG _ _ _ _ _ _ _ _ [.int z44] _ _ _
            refine g_aload_n 48 (gd rfl) rfl rfl ?_
            refine g_iload 50 (gd rfl) rfl rfl ?_
            refine g_iaload 51 (gd rfl) rfl (n := 32) rfl (in_ix i34 rfl) (fun z50 e50 => ?_)
            have q50 : z43 = z50 := (e43).trans e50.symm
            subst q50
            refine g_iload_n 52 (gd rfl) rfl rfl ?_
            refine g_iand 53 (gd rfl) rfl (fun z52 e52 => ?_)
            refine g_calls (As := [.int z52]) (r := [.int z44]) 56 (gd rfl) rfl rfl rfl rfl rfl (Nat.le_of_ble_eq_true rfl) (Nat.zero_le _) (Nat.zero_le _) (k_414b (by first | exact dq1 hd rfl | exact dq0 hd rfl | exact dq2 hd rfl | exact dq3 hd rfl | omega) hIc27 ) (fun v u h => ?_)
            obtain ⟨z53, rfl, rfl, i53⟩ := h
            show GG _ _ _ _ _ _ _ _ [.int z53, .int z44] _ _ _
            refine g_cmp_le 59 98 (gd rfl) rfl rfl (fun c56 => ?_) (fun c56 => ?_)
            · skip
              refine g_iload 100 (gd rfl) rfl rfl ?_
              refine g_iload 102 (gd rfl) rfl rfl ?_
              refine g_iconst 1 103 (gd rfl) rfl rfl ?_
              refine g_isub 104 (gd rfl) rfl (fun z103 e103 => ?_)
              refine g_iand 105 (gd rfl) rfl (fun z104 e104 => ?_)
              refine g_istore 107 (gd rfl) rfl (Nat.le_of_ble_eq_true rfl) ?_
              refine g_goto 27 (gd rfl) rfl ?_
              exact gg_w (by first | exact Nat.le_add_right _ _ | exact gw2 | exact gw3 | exact gwe rfl | exact gwf rfl | exact gwg rfl | exact gwh rfl | omega) (gg_f (gf_cons rfl (gf_cons rfl (gf_cons rfl (gf_cons rfl (gf_cons rfl (gf_cons rfl (gf_cons rfl gf_nil))))))) (ih27 sc27 y27_3 y27_4 z104 hIc27 hFc27 (in_w 0 32 j27_5 rfl) (mb e104 e103 c29 mm27)))
            · skip
              have i56 := r_lt1 0 31 c56 i53 i44 rfl
              have i56a := r_lt2 1 32 c56 i53 i44 rfl
              refine g_aload_n 60 (gd rfl) rfl rfl ?_
              refine g_getI 63 (gd rfl) rfl rfl rfl (fun z60 e60 => ?_)
              have i60 := inv_F hIc27 0 32 rfl e60
              refine g_bipush 32 65 (gd rfl) rfl rfl ?_
              refine g_cmp_ge 68 98 (gd rfl) rfl rfl (fun c65 => ?_) (fun c65 => ?_)
              · skip
                have i65 := r_le2 32 32 c65 (in_c 32 rfl) i60 rfl
                refine g_iload 100 (gd rfl) rfl rfl ?_
                refine g_iload 102 (gd rfl) rfl rfl ?_
                refine g_iconst 1 103 (gd rfl) rfl rfl ?_
                refine g_isub 104 (gd rfl) rfl (fun z103 e103 => ?_)
                refine g_iand 105 (gd rfl) rfl (fun z104 e104 => ?_)
                refine g_istore 107 (gd rfl) rfl (Nat.le_of_ble_eq_true rfl) ?_
                refine g_goto 27 (gd rfl) rfl ?_
                exact gg_w (by first | exact Nat.le_add_right _ _ | exact gw2 | exact gw3 | exact gwe rfl | exact gwf rfl | exact gwg rfl | exact gwh rfl | omega) (gg_f (gf_cons rfl (gf_cons rfl (gf_cons rfl (gf_cons rfl (gf_cons rfl (gf_cons rfl (gf_cons rfl gf_nil))))))) (ih27 sc27 y27_3 y27_4 z104 hIc27 hFc27 (in_w 0 32 j27_5 rfl) (mb e104 e103 c29 mm27)))
              · skip
                have i65 := r_lt1 0 31 c65 i60 (in_c 32 rfl) rfl
                refine g_aload_n 69 (gd rfl) rfl rfl ?_
                refine g_getA (q2 := 63) 72 (gd rfl) rfl rfl rfl rfl ?_
                refine g_aload_n 73 (gd rfl) rfl rfl ?_
                refine g_getI 76 (gd rfl) rfl rfl rfl (fun z73 e73 => ?_)
                have q73 : z60 = z73 := (e60).trans e73.symm
                subst q73
                refine g_iload 78 (gd rfl) rfl rfl ?_
                refine g_iastore 79 (gd rfl) rfl (n := 32) rfl (in_ix i65 rfl) ?_
                have hI78 := inv_sI (q := 63) (j := z60.toNatClampNeg) hIc27 rfl (in_w 0 31 i34 rfl)
                refine g_aload_n 80 (gd rfl) rfl rfl ?_
                refine g_dup 81 (gd rfl) rfl rfl ?_
                refine g_getI 84 (gd rfl) rfl rfl rfl (fun z81 e81 => ?_)
                have q81 : z60 = z81 := (sI_F (e60)).trans e81.symm
                subst q81
                refine g_iconst 1 85 (gd rfl) rfl rfl ?_
                refine g_iadd 86 (gd rfl) rfl (fun z85 e85 => ?_)
                have i85 := in_add 1 32 e85 i65 (in_c 1 rfl) rfl rfl
                refine g_putI 89 (gd rfl) rfl rfl rfl rfl ?_
                have hI86 := inv_sF (q := 60) (j := 7) hI78 rfl (in_w 0 32 i85 rfl)
                refine g_iload_n 90 (gd rfl) rfl rfl ?_
                refine g_iconst 1 91 (gd rfl) rfl rfl ?_
                refine g_iload 93 (gd rfl) rfl rfl ?_
                refine g_ishl 94 (gd rfl) rfl (fun z93 e93 => ?_)
                refine g_iconst (-1) 95 (gd rfl) rfl rfl ?_
                refine g_ixor 96 (gd rfl) rfl (fun z95 e95 => ?_)
                refine g_iand 97 (gd rfl) rfl (fun z96 e96 => ?_)
                refine g_istore_n 98 (gd rfl) rfl (Nat.le_of_ble_eq_true rfl) ?_
                refine g_iload 100 (gd rfl) rfl rfl ?_
                refine g_iload 102 (gd rfl) rfl rfl ?_
                refine g_iconst 1 103 (gd rfl) rfl rfl ?_
                refine g_isub 104 (gd rfl) rfl (fun z103 e103 => ?_)
                refine g_iand 105 (gd rfl) rfl (fun z104 e104 => ?_)
                refine g_istore 107 (gd rfl) rfl (Nat.le_of_ble_eq_true rfl) ?_
                refine g_goto 27 (gd rfl) rfl ?_
                exact gg_w (by first | exact Nat.le_add_right _ _ | exact gw2 | exact gw3 | exact gwe rfl | exact gwf rfl | exact gwg rfl | exact gwh rfl | omega) (gg_f (gf_cons rfl (gf_cons rfl (gf_cons rfl (gf_cons rfl (gf_cons rfl (gf_cons rfl (gf_cons rfl gf_nil))))))) (ih27 (sF (sI sc27 63 z60.toNatClampNeg z34) 60 7 z85) z96 y27_4 z104 hI86 (fr_sF rfl (fr_sI rfl hFc27)) (in_w 0 32 j27_5 rfl) (mb e104 e103 c29 mm27)))
      refine g_iload 10 (gd rfl) rfl rfl ?_
      refine g_bipush 32 12 (gd rfl) rfl rfl ?_
      refine g_cmp_gt 15 116 (gd rfl) rfl rfl (fun c12 => ?_) (fun c12 => ?_)
      · skip
        have i12 := r_lt2 33 33 c12 (in_c 32 rfl) j8_5 rfl
        refine g_iload_n 117 (gd rfl) rfl rfl ?_
        exact g_ireturn (gd rfl) rfl rfl (hP _ _ ⟨sc8, hIc8, hFc8, y8_3, rfl, rfl, in_w (-2147483648) 2147483647 (i_rng y8_3) rfl⟩)
      · skip
        have i12 := r_le1 0 32 c12 j8_5 (in_c 32 rfl) rfl
        refine g_iload_n 16 (gd rfl) rfl rfl ?_
        refine g_iload 18 (gd rfl) rfl rfl ?_
        refine g_cmp_eq 21 116 (gd rfl) rfl rfl (fun c18 => ?_) (fun c18 => ?_)
        · skip
          refine g_iload_n 117 (gd rfl) rfl rfl ?_
          exact g_ireturn (gd rfl) rfl rfl (hP _ _ ⟨sc8, hIc8, hFc8, y8_3, rfl, rfl, in_w (-2147483648) 2147483647 (i_rng y8_3) rfl⟩)
        · skip
          refine g_iload_n 22 (gd rfl) rfl rfl ?_
          refine g_istore 24 (gd rfl) rfl (Nat.le_of_ble_eq_true rfl) ?_
          refine g_iload_n 25 (gd rfl) rfl rfl ?_
          refine g_istore 27 (gd rfl) rfl (Nat.le_of_ble_eq_true rfl) ?_
          exact gg_w (by first | exact Nat.le_add_right _ _ | exact gw2 | exact gw3 | exact gwe rfl | exact gwf rfl | exact gwg rfl | exact gwh rfl | omega) (gg_f (gf_cons rfl (gf_cons rfl (gf_cons rfl (gf_cons rfl (gf_cons rfl (gf_cons rfl (gf_cons rfl gf_nil))))))) (ct27 4294967296 sc8 y8_3 y8_3 y8_3 hIc8 hFc8 (in_w 0 32 i12 rfl) (mb_in _)))
  refine g_enter2 (k := 49) (N := 131425999350335) (by first | exact dq1 hd rfl | exact dq0 hd rfl | exact dq2 hd rfl | exact dq3 hd rfl | omega) rfl (Nat.le_of_ble_eq_true rfl) ?_
  refine g_iload_n 1 (gd rfl) rfl rfl ?_
  refine g_istore_n 2 (gd rfl) rfl (Nat.le_of_ble_eq_true rfl) ?_
  refine g_iconst 0 3 (gd rfl) rfl rfl ?_
  refine g_istore 5 (gd rfl) rfl (Nat.le_of_ble_eq_true rfl) ?_
  refine g_iconst 0 6 (gd rfl) rfl rfl ?_
  refine g_istore 8 (gd rfl) rfl (Nat.le_of_ble_eq_true rfl) ?_
  exact gg_w (by first | exact Nat.le_of_ble_eq_true rfl | omega) (gg_f (gf_cons rfl (gf_cons rfl (gf_cons rfl (gf_cons rfl (gf_cons rfl (gf_cons rfl gf_nil)))))) (ct8 34 s x2 (Int32.ofInt 0) (Int32.ofInt 0) hI fr_rf (in_w 0 33 (in_c 0 rfl) rfl) (m_in 34 (in_w 0 33 (in_c 0 rfl) rfl) rfl)))

def fm_64_102_2 : FM := ([], [105, 106, 107], [], [])
/-- GraphHouse$Engine.doRound -/
theorem k_64_102_2 {Z : AmZ} {A : Nat → Nat} {s : GS} {ex : va_W} {d : Nat} {X : AmX} {x2 : Int32} {u_2_4 : Int32} {u_2_0 : Int32} (hd : 6 ≤ d) (hI : Inv s) (h2 : In x2 0 200) (e_2_4 : u_2_4 = s.2.2.1 2 4) (e_2_0 : u_2_0 = s.2.2.1 2 0) (p_0 : (u_2_4).toInt = (u_2_0).toInt) : GC Z d 64 [.ref (A 102), .ref (A 2), .int x2] (WW Z A s ++ ex) 0 0 (fun v u => ∃ t : GS, Inv t ∧ Fr fm_64_102_2 s t ∧ ∃ z : Int32, v = some (.int z) ∧ u = WW Z A t ++ ex ∧ In z 0 1) X := by
  intro post xp hP hX
  obtain ⟨u_2_1, e_2_1⟩ : ∃ w, w = s.2.2.1 2 1 := ⟨_, rfl⟩
  have ro_2_1 := inv_F hI 0 32 rfl e_2_1
  obtain ⟨u_102_1, e_102_1⟩ : ∃ w, w = s.2.2.1 102 1 := ⟨_, rfl⟩
  have ro_102_1 := inv_F hI 0 120 rfl e_102_1
  obtain ⟨u_102_2, e_102_2⟩ : ∃ w, w = s.2.2.1 102 2 := ⟨_, rfl⟩
  have ro_102_2 := inv_F hI 0 120 rfl e_102_2
  have ro_2_4 := inv_F hI (-1) 4000 rfl e_2_4
  have ro_2_0 := inv_F hI 0 4000 rfl e_2_0
  have ct5 : ∀ (k5 : Nat) (sc5 : GS) (y5_3 : Int32) (y5_4 : Int32), Inv sc5 → Fr fm_64_102_2 s sc5 → (In y5_3 0 1) → (In y5_4 0 32) → 32 - (y5_4).toInt < (k5 : Int) → GG Z (d - 1) 64 post (gx xp) (1 + k5 * 900) 5 (fun j => xlook j [(0, .ref (A 102)), (1, .ref (A 2)), (2, .int x2), (3, .int y5_3), (4, .int y5_4)]) [] (WW Z A sc5 ++ ex) 0 0 := by
    intro k5
    induction k5 with
    | zero => intro sc5 y5_3 y5_4 hIc5 hFc5 j5_3 j5_4 mm5; exact m_no mm5 j5_4 rfl
    | succ k5 ih5 =>
      intro sc5 y5_3 y5_4 hIc5 hFc5 j5_3 j5_4 mm5
      refine gg_w (M := 1 + k5 * 900 + 900) gws ?_
      refine g_iload 7 (gd rfl) rfl rfl ?_
      refine g_aload_n 8 (gd rfl) rfl rfl ?_
      refine g_getI 11 (gd rfl) rfl rfl rfl (fun z8 e8 => ?_)
      have q8 : u_2_1 = z8 := (fr_F e_2_1 hFc5 rfl).trans e8.symm
      subst q8
      refine g_cmp_ge 14 89 (gd rfl) rfl rfl (fun c11 => ?_) (fun c11 => ?_)
      · skip
        refine g_iload_n 90 (gd rfl) rfl rfl ?_
        exact g_ireturn (gd rfl) rfl (nb01 (in_w 0 1 j5_3 rfl)) (hP _ _ ⟨sc5, hIc5, hFc5, y5_3, rfl, rfl, in_w 0 1 j5_3 rfl⟩)
      · skip
        have i11 := r_lt1 0 31 c11 j5_4 ro_2_1 rfl
        have i11a := r_lt2 1 32 c11 j5_4 ro_2_1 rfl
        refine g_aload_n 15 (gd rfl) rfl rfl ?_
        refine g_aload_n 16 (gd rfl) rfl rfl ?_
        refine g_iload 18 (gd rfl) rfl rfl ?_
        refine g_iload_n 19 (gd rfl) rfl rfl ?_
        have v19 : u_2_4 = sc5.2.2.1 2 4 := fr_F e_2_4 hFc5 rfl
        have v19a : u_2_0 = sc5.2.2.1 2 0 := fr_F e_2_0 hFc5 rfl
        have n19 : (u_2_4).toInt = (u_2_0).toInt := by (first | have a0 := oa8 h2 ro_2_0 ro_2_4 ro_102_2 ro_102_1 i11a i11 j5_3 | ((first | have a0 := in_u h2 | (have a0 := h2; unfold In at a0)); (first | have a1 := in_u ro_2_0 | (have a1 := ro_2_0; unfold In at a1)); (first | have a2 := in_u ro_2_4 | (have a2 := ro_2_4; unfold In at a2)); (first | have a3 := in_u ro_102_2 | (have a3 := ro_102_2; unfold In at a3)); (first | have a4 := in_u ro_102_1 | (have a4 := ro_102_1; unfold In at a4)); (first | have a5 := in_u i11a | (have a5 := i11a; unfold In at a5)); (first | have a6 := in_u i11 | (have a6 := i11; unfold In at a6)); (first | have a7 := in_u j5_3 | (have a7 := j5_3; unfold In at a7)))); omega
        refine g_callv (X := _) (As := [.ref (A 2), .int y5_4, .int x2]) (r := []) (b := A 102) (q := 102) 22 (gd rfl) rfl rfl rfl rfl rfl (ww_o rfl) (Nat.le_of_ble_eq_true rfl) (Nat.zero_le _) (Nat.zero_le _) (k_65_102_2 (by first | exact dq1 hd rfl | exact dq0 hd rfl | exact dq2 hd rfl | exact dq3 hd rfl | omega) hIc5 (in_w 0 31 i11 rfl) (in_w 0 200 h2 rfl) v19 v19a n19) (fun e u h => h) (fun v u h => ?_)
        obtain ⟨s19, hI19, hF19, rfl, rfl⟩ := h
        show GG _ _ _ _ _ _ _ _ [] _ _ _
        refine g_aload_n 23 (gd rfl) rfl rfl ?_
        refine g_getA (q2 := 107) 26 (gd rfl) rfl rfl rfl rfl ?_
        refine g_iload 28 (gd rfl) rfl rfl ?_
        refine g_iload_n 29 (gd rfl) rfl rfl ?_
        refine g_if_ne 32 44 (gd rfl) rfl rfl (fun c29 => ?_) (fun c29 => ?_)
        · skip
          have i29 := z_ne 1 200 c29 h2 rfl
          refine g_aload_n 45 (gd rfl) rfl rfl ?_
          refine g_aload_n 46 (gd rfl) rfl rfl ?_
          refine g_getI 49 (gd rfl) rfl rfl rfl (fun z46 e46 => ?_)
          have q46 : u_102_1 = z46 := (fr_F (fr_F e_102_1 hFc5 rfl) hF19 rfl).trans e46.symm
          subst q46
          refine g_aload_n 50 (gd rfl) rfl rfl ?_
          refine g_getI 53 (gd rfl) rfl rfl rfl (fun z50 e50 => ?_)
          have q50 : u_102_2 = z50 := (fr_F (fr_F e_102_2 hFc5 rfl) hF19 rfl).trans e50.symm
          subst q50
          have p53 : (ht (fun i => hc (s19.1 103 i)) (u_102_1).toNatClampNeg ((u_102_2).toNatClampNeg - (u_102_1).toNatClampNeg)).isSome = true := by exact kc_2 hI19 (show u_102_1 = s19.2.2.1 102 1 from fr_F (fr_F e_102_1 hFc5 rfl) hF19 rfl) (show u_102_2 = s19.2.2.1 102 2 from fr_F (fr_F e_102_2 hFc5 rfl) hF19 rfl)
          refine g_callv (X := _) (As := [.int u_102_1, .int u_102_2]) (r := [.int y5_4, .ref (A 107)]) (b := A 102) (q := 102) 56 (gd rfl) rfl rfl rfl rfl rfl (ww_o rfl) (Nat.le_of_ble_eq_true rfl) (Nat.zero_le _) (Nat.zero_le _) (k_66_102 (by first | exact dq1 hd rfl | exact dq0 hd rfl | exact dq2 hd rfl | exact dq3 hd rfl | omega) hI19 (in_w 0 120 ro_102_1 rfl) (in_w 0 120 ro_102_2 rfl) p53) (fun e u h => h) (fun v u h => ?_)
          obtain ⟨s53, hI53, hF53, z53, rfl, rfl⟩ := h
          show GG _ _ _ _ _ _ _ _ [.long z53, .int y5_4, .ref (A 107)] _ _ _
          refine g_lastore 57 (gd rfl) rfl (n := 32) rfl (in_ix i11 rfl) ?_
          have hI56 := inv_sL (q := 107) (j := y5_4.toNatClampNeg) (x := z53) hI53 rfl (l_rng z53)
          refine g_iload_n 58 (gd rfl) rfl rfl ?_
          refine g_aload_n 59 (gd rfl) rfl rfl ?_
          refine g_getA (q2 := 107) 62 (gd rfl) rfl rfl rfl rfl ?_
          refine g_iload 64 (gd rfl) rfl rfl ?_
          refine g_laload 65 (gd rfl) rfl (n := 32) rfl (in_ix i11 rfl) (fun z64 e64 => ?_)
          refine g_aload_n 66 (gd rfl) rfl rfl ?_
          refine g_getA (q2 := 108) 69 (gd rfl) rfl rfl rfl rfl ?_
          refine g_iload 71 (gd rfl) rfl rfl ?_
          refine g_laload 72 (gd rfl) rfl (n := 32) rfl (in_ix i11 rfl) (fun z71 e71 => ?_)
          refine g_lcmp 73 (gd rfl) rfl (fun z72 e72 => ?_)
          have i72 := lc_in e72
          refine g_if_eq 76 80 (gd rfl) rfl rfl (fun c73 => ?_) (fun c73 => ?_)
          · skip
            have i73 := z_eq 0 0 c73 i72 rfl
            have c73a := lc_eq e72 c73
            refine g_iconst 0 81 (gd rfl) rfl rfl ?_
            refine g_ior 82 (gd rfl) rfl (fun z81 e81 => ?_)
            have i81 := in_or 1 e81 (in_w 0 1 j5_3 rfl) (in_w 0 1 (in_c 0 rfl) rfl) rfl
            refine g_istore_n 83 (gd rfl) rfl (Nat.le_of_ble_eq_true rfl) ?_
            refine g_iinc 86 (gd rfl) rfl rfl (Nat.le_of_ble_eq_true rfl) (fun z83 e83 => ?_)
            have i83 := in_add 1 32 e83 i11 (in_c 1 rfl) rfl rfl
            refine g_goto 5 (gd rfl) rfl ?_
            exact gg_w (by first | exact Nat.le_add_right _ _ | exact gw2 | exact gw3 | exact gwe rfl | exact gwf rfl | exact gwg rfl | exact gwh rfl | omega) (gg_f (gf_cons rfl (gf_cons rfl (gf_cons rfl (gf_cons rfl (gf_cons rfl gf_nil))))) (ih5 (sL s53 107 y5_4.toNatClampNeg z53) z81 z83 hI56 (fr_sL rfl (fr_tr rfl (fr_tr rfl hFc5 hF19) hF53)) (in_w 0 1 i81 rfl) (in_w 0 32 i83 rfl) (m_up mm5 (t_add e83 i11 (in_c 1 rfl) rfl) (in_w 1 1 (in_c 1 rfl) rfl))))
          · skip
            have c73a := lc_ne e72 c73
            refine g_iconst 1 77 (gd rfl) rfl rfl ?_
            refine g_goto 81 (gd rfl) rfl ?_
            refine g_ior 82 (gd rfl) rfl (fun z81 e81 => ?_)
            have i81 := in_or 1 e81 (in_w 0 1 j5_3 rfl) (in_w 0 1 (in_c 1 rfl) rfl) rfl
            refine g_istore_n 83 (gd rfl) rfl (Nat.le_of_ble_eq_true rfl) ?_
            refine g_iinc 86 (gd rfl) rfl rfl (Nat.le_of_ble_eq_true rfl) (fun z83 e83 => ?_)
            have i83 := in_add 1 32 e83 i11 (in_c 1 rfl) rfl rfl
            refine g_goto 5 (gd rfl) rfl ?_
            exact gg_w (by first | exact Nat.le_add_right _ _ | exact gw2 | exact gw3 | exact gwe rfl | exact gwf rfl | exact gwg rfl | exact gwh rfl | omega) (gg_f (gf_cons rfl (gf_cons rfl (gf_cons rfl (gf_cons rfl (gf_cons rfl gf_nil))))) (ih5 (sL s53 107 y5_4.toNatClampNeg z53) z81 z83 hI56 (fr_sL rfl (fr_tr rfl (fr_tr rfl hFc5 hF19) hF53)) (in_w 0 1 i81 rfl) (in_w 0 32 i83 rfl) (m_up mm5 (t_add e83 i11 (in_c 1 rfl) rfl) (in_w 1 1 (in_c 1 rfl) rfl))))
        · skip
          have i29 := z_eq 0 0 c29 h2 rfl
          refine g_aload_n 33 (gd rfl) rfl rfl ?_
          refine g_iconst 0 34 (gd rfl) rfl rfl ?_
          refine g_aload_n 35 (gd rfl) rfl rfl ?_
          refine g_getI 38 (gd rfl) rfl rfl rfl (fun z35 e35 => ?_)
          have q35 : u_102_1 = z35 := (fr_F (fr_F e_102_1 hFc5 rfl) hF19 rfl).trans e35.symm
          subst q35
          have p38 : (ht (fun i => hc (s19.1 103 i)) ((Int32.ofInt 0)).toNatClampNeg ((u_102_1).toNatClampNeg - ((Int32.ofInt 0)).toNatClampNeg)).isSome = true := by exact kc_1 hI19 rfl (show u_102_1 = s19.2.2.1 102 1 from fr_F (fr_F e_102_1 hFc5 rfl) hF19 rfl)
          refine g_callv (X := _) (As := [.int (Int32.ofInt 0), .int u_102_1]) (r := [.int y5_4, .ref (A 107)]) (b := A 102) (q := 102) 41 (gd rfl) rfl rfl rfl rfl rfl (ww_o rfl) (Nat.le_of_ble_eq_true rfl) (Nat.zero_le _) (Nat.zero_le _) (k_66_102 (by first | exact dq1 hd rfl | exact dq0 hd rfl | exact dq2 hd rfl | exact dq3 hd rfl | omega) hI19 (in_w 0 120 (in_c 0 rfl) rfl) (in_w 0 120 ro_102_1 rfl) p38) (fun e u h => h) (fun v u h => ?_)
          obtain ⟨s38, hI38, hF38, z38, rfl, rfl⟩ := h
          show GG _ _ _ _ _ _ _ _ [.long z38, .int y5_4, .ref (A 107)] _ _ _
          refine g_goto 56 (gd rfl) rfl ?_
          refine g_lastore 57 (gd rfl) rfl (n := 32) rfl (in_ix i11 rfl) ?_
          have hI56 := inv_sL (q := 107) (j := y5_4.toNatClampNeg) (x := z38) hI38 rfl (l_rng z38)
          refine g_iload_n 58 (gd rfl) rfl rfl ?_
          refine g_aload_n 59 (gd rfl) rfl rfl ?_
          refine g_getA (q2 := 107) 62 (gd rfl) rfl rfl rfl rfl ?_
          refine g_iload 64 (gd rfl) rfl rfl ?_
          refine g_laload 65 (gd rfl) rfl (n := 32) rfl (in_ix i11 rfl) (fun z64 e64 => ?_)
          refine g_aload_n 66 (gd rfl) rfl rfl ?_
          refine g_getA (q2 := 108) 69 (gd rfl) rfl rfl rfl rfl ?_
          refine g_iload 71 (gd rfl) rfl rfl ?_
          refine g_laload 72 (gd rfl) rfl (n := 32) rfl (in_ix i11 rfl) (fun z71 e71 => ?_)
          refine g_lcmp 73 (gd rfl) rfl (fun z72 e72 => ?_)
          have i72 := lc_in e72
          refine g_if_eq 76 80 (gd rfl) rfl rfl (fun c73 => ?_) (fun c73 => ?_)
          · skip
            have i73 := z_eq 0 0 c73 i72 rfl
            have c73a := lc_eq e72 c73
            refine g_iconst 0 81 (gd rfl) rfl rfl ?_
            refine g_ior 82 (gd rfl) rfl (fun z81 e81 => ?_)
            have i81 := in_or 1 e81 (in_w 0 1 j5_3 rfl) (in_w 0 1 (in_c 0 rfl) rfl) rfl
            refine g_istore_n 83 (gd rfl) rfl (Nat.le_of_ble_eq_true rfl) ?_
            refine g_iinc 86 (gd rfl) rfl rfl (Nat.le_of_ble_eq_true rfl) (fun z83 e83 => ?_)
            have i83 := in_add 1 32 e83 i11 (in_c 1 rfl) rfl rfl
            refine g_goto 5 (gd rfl) rfl ?_
            exact gg_w (by first | exact Nat.le_add_right _ _ | exact gw2 | exact gw3 | exact gwe rfl | exact gwf rfl | exact gwg rfl | exact gwh rfl | omega) (gg_f (gf_cons rfl (gf_cons rfl (gf_cons rfl (gf_cons rfl (gf_cons rfl gf_nil))))) (ih5 (sL s38 107 y5_4.toNatClampNeg z38) z81 z83 hI56 (fr_sL rfl (fr_tr rfl (fr_tr rfl hFc5 hF19) hF38)) (in_w 0 1 i81 rfl) (in_w 0 32 i83 rfl) (m_up mm5 (t_add e83 i11 (in_c 1 rfl) rfl) (in_w 1 1 (in_c 1 rfl) rfl))))
          · skip
            have c73a := lc_ne e72 c73
            refine g_iconst 1 77 (gd rfl) rfl rfl ?_
            refine g_goto 81 (gd rfl) rfl ?_
            refine g_ior 82 (gd rfl) rfl (fun z81 e81 => ?_)
            have i81 := in_or 1 e81 (in_w 0 1 j5_3 rfl) (in_w 0 1 (in_c 1 rfl) rfl) rfl
            refine g_istore_n 83 (gd rfl) rfl (Nat.le_of_ble_eq_true rfl) ?_
            refine g_iinc 86 (gd rfl) rfl rfl (Nat.le_of_ble_eq_true rfl) (fun z83 e83 => ?_)
            have i83 := in_add 1 32 e83 i11 (in_c 1 rfl) rfl rfl
            refine g_goto 5 (gd rfl) rfl ?_
            exact gg_w (by first | exact Nat.le_add_right _ _ | exact gw2 | exact gw3 | exact gwe rfl | exact gwf rfl | exact gwg rfl | exact gwh rfl | omega) (gg_f (gf_cons rfl (gf_cons rfl (gf_cons rfl (gf_cons rfl (gf_cons rfl gf_nil))))) (ih5 (sL s38 107 y5_4.toNatClampNeg z38) z81 z83 hI56 (fr_sL rfl (fr_tr rfl (fr_tr rfl hFc5 hF19) hF38)) (in_w 0 1 i81 rfl) (in_w 0 32 i83 rfl) (m_up mm5 (t_add e83 i11 (in_c 1 rfl) rfl) (in_w 1 1 (in_c 1 rfl) rfl))))
  refine g_enter2 (k := 64) (N := 30601) (by first | exact dq1 hd rfl | exact dq0 hd rfl | exact dq2 hd rfl | exact dq3 hd rfl | omega) rfl (Nat.le_of_ble_eq_true rfl) ?_
  refine g_iconst 0 1 (gd rfl) rfl rfl ?_
  refine g_istore_n 2 (gd rfl) rfl (Nat.le_of_ble_eq_true rfl) ?_
  refine g_iconst 0 3 (gd rfl) rfl rfl ?_
  refine g_istore 5 (gd rfl) rfl (Nat.le_of_ble_eq_true rfl) ?_
  exact gg_w (by first | exact Nat.le_of_ble_eq_true rfl | omega) (gg_f (gf_cons rfl (gf_cons rfl (gf_cons rfl (gf_cons rfl (gf_cons rfl gf_nil))))) (ct5 33 s (Int32.ofInt 0) (Int32.ofInt 0) hI fr_rf (in_w 0 1 (in_c 0 rfl) rfl) (in_w 0 32 (in_c 0 rfl) rfl) (m_in 33 (in_w 0 32 (in_c 0 rfl) rfl) rfl)))

def fm_64_102_32 : FM := ([], [105, 106, 107], [], [])
/-- GraphHouse$Engine.doRound -/
theorem k_64_102_32 {Z : AmZ} {A : Nat → Nat} {s : GS} {ex : va_W} {d : Nat} {X : AmX} {x2 : Int32} {u_32_4 : Int32} {u_32_0 : Int32} (hd : 6 ≤ d) (hI : Inv s) (h2 : In x2 0 200) (e_32_4 : u_32_4 = s.2.2.1 32 4) (e_32_0 : u_32_0 = s.2.2.1 32 0) (p_0 : (u_32_4).toInt = (u_32_0).toInt) : GC Z d 64 [.ref (A 102), .ref (A 32), .int x2] (WW Z A s ++ ex) 0 0 (fun v u => ∃ t : GS, Inv t ∧ Fr fm_64_102_32 s t ∧ ∃ z : Int32, v = some (.int z) ∧ u = WW Z A t ++ ex ∧ In z 0 1) X := by
  intro post xp hP hX
  obtain ⟨u_32_1, e_32_1⟩ : ∃ w, w = s.2.2.1 32 1 := ⟨_, rfl⟩
  have ro_32_1 := inv_F hI 0 32 rfl e_32_1
  obtain ⟨u_102_1, e_102_1⟩ : ∃ w, w = s.2.2.1 102 1 := ⟨_, rfl⟩
  have ro_102_1 := inv_F hI 0 120 rfl e_102_1
  obtain ⟨u_102_2, e_102_2⟩ : ∃ w, w = s.2.2.1 102 2 := ⟨_, rfl⟩
  have ro_102_2 := inv_F hI 0 120 rfl e_102_2
  have ro_32_4 := inv_F hI (-1) 4000 rfl e_32_4
  have ro_32_0 := inv_F hI 0 4000 rfl e_32_0
  have ct5 : ∀ (k5 : Nat) (sc5 : GS) (y5_3 : Int32) (y5_4 : Int32), Inv sc5 → Fr fm_64_102_32 s sc5 → (In y5_3 0 1) → (In y5_4 0 32) → 32 - (y5_4).toInt < (k5 : Int) → GG Z (d - 1) 64 post (gx xp) (1 + k5 * 900) 5 (fun j => xlook j [(0, .ref (A 102)), (1, .ref (A 32)), (2, .int x2), (3, .int y5_3), (4, .int y5_4)]) [] (WW Z A sc5 ++ ex) 0 0 := by
    intro k5
    induction k5 with
    | zero => intro sc5 y5_3 y5_4 hIc5 hFc5 j5_3 j5_4 mm5; exact m_no mm5 j5_4 rfl
    | succ k5 ih5 =>
      intro sc5 y5_3 y5_4 hIc5 hFc5 j5_3 j5_4 mm5
      refine gg_w (M := 1 + k5 * 900 + 900) gws ?_
      refine g_iload 7 (gd rfl) rfl rfl ?_
      refine g_aload_n 8 (gd rfl) rfl rfl ?_
      refine g_getI 11 (gd rfl) rfl rfl rfl (fun z8 e8 => ?_)
      have q8 : u_32_1 = z8 := (fr_F e_32_1 hFc5 rfl).trans e8.symm
      subst q8
      refine g_cmp_ge 14 89 (gd rfl) rfl rfl (fun c11 => ?_) (fun c11 => ?_)
      · skip
        refine g_iload_n 90 (gd rfl) rfl rfl ?_
        exact g_ireturn (gd rfl) rfl (nb01 (in_w 0 1 j5_3 rfl)) (hP _ _ ⟨sc5, hIc5, hFc5, y5_3, rfl, rfl, in_w 0 1 j5_3 rfl⟩)
      · skip
        have i11 := r_lt1 0 31 c11 j5_4 ro_32_1 rfl
        have i11a := r_lt2 1 32 c11 j5_4 ro_32_1 rfl
        refine g_aload_n 15 (gd rfl) rfl rfl ?_
        refine g_aload_n 16 (gd rfl) rfl rfl ?_
        refine g_iload 18 (gd rfl) rfl rfl ?_
        refine g_iload_n 19 (gd rfl) rfl rfl ?_
        have v19 : u_32_4 = sc5.2.2.1 32 4 := fr_F e_32_4 hFc5 rfl
        have v19a : u_32_0 = sc5.2.2.1 32 0 := fr_F e_32_0 hFc5 rfl
        have n19 : (u_32_4).toInt = (u_32_0).toInt := by (first | have a0 := oa8 h2 ro_32_0 ro_32_4 ro_102_2 ro_102_1 i11a i11 j5_3 | ((first | have a0 := in_u h2 | (have a0 := h2; unfold In at a0)); (first | have a1 := in_u ro_32_0 | (have a1 := ro_32_0; unfold In at a1)); (first | have a2 := in_u ro_32_4 | (have a2 := ro_32_4; unfold In at a2)); (first | have a3 := in_u ro_102_2 | (have a3 := ro_102_2; unfold In at a3)); (first | have a4 := in_u ro_102_1 | (have a4 := ro_102_1; unfold In at a4)); (first | have a5 := in_u i11a | (have a5 := i11a; unfold In at a5)); (first | have a6 := in_u i11 | (have a6 := i11; unfold In at a6)); (first | have a7 := in_u j5_3 | (have a7 := j5_3; unfold In at a7)))); omega
        refine g_callv (X := _) (As := [.ref (A 32), .int y5_4, .int x2]) (r := []) (b := A 102) (q := 102) 22 (gd rfl) rfl rfl rfl rfl rfl (ww_o rfl) (Nat.le_of_ble_eq_true rfl) (Nat.zero_le _) (Nat.zero_le _) (k_65_102_32 (by first | exact dq1 hd rfl | exact dq0 hd rfl | exact dq2 hd rfl | exact dq3 hd rfl | omega) hIc5 (in_w 0 31 i11 rfl) (in_w 0 200 h2 rfl) v19 v19a n19) (fun e u h => h) (fun v u h => ?_)
        obtain ⟨s19, hI19, hF19, rfl, rfl⟩ := h
        show GG _ _ _ _ _ _ _ _ [] _ _ _
        refine g_aload_n 23 (gd rfl) rfl rfl ?_
        refine g_getA (q2 := 107) 26 (gd rfl) rfl rfl rfl rfl ?_
        refine g_iload 28 (gd rfl) rfl rfl ?_
        refine g_iload_n 29 (gd rfl) rfl rfl ?_
        refine g_if_ne 32 44 (gd rfl) rfl rfl (fun c29 => ?_) (fun c29 => ?_)
        · skip
          have i29 := z_ne 1 200 c29 h2 rfl
          refine g_aload_n 45 (gd rfl) rfl rfl ?_
          refine g_aload_n 46 (gd rfl) rfl rfl ?_
          refine g_getI 49 (gd rfl) rfl rfl rfl (fun z46 e46 => ?_)
          have q46 : u_102_1 = z46 := (fr_F (fr_F e_102_1 hFc5 rfl) hF19 rfl).trans e46.symm
          subst q46
          refine g_aload_n 50 (gd rfl) rfl rfl ?_
          refine g_getI 53 (gd rfl) rfl rfl rfl (fun z50 e50 => ?_)
          have q50 : u_102_2 = z50 := (fr_F (fr_F e_102_2 hFc5 rfl) hF19 rfl).trans e50.symm
          subst q50
          have p53 : (ht (fun i => hc (s19.1 103 i)) (u_102_1).toNatClampNeg ((u_102_2).toNatClampNeg - (u_102_1).toNatClampNeg)).isSome = true := by exact kc_2 hI19 (show u_102_1 = s19.2.2.1 102 1 from fr_F (fr_F e_102_1 hFc5 rfl) hF19 rfl) (show u_102_2 = s19.2.2.1 102 2 from fr_F (fr_F e_102_2 hFc5 rfl) hF19 rfl)
          refine g_callv (X := _) (As := [.int u_102_1, .int u_102_2]) (r := [.int y5_4, .ref (A 107)]) (b := A 102) (q := 102) 56 (gd rfl) rfl rfl rfl rfl rfl (ww_o rfl) (Nat.le_of_ble_eq_true rfl) (Nat.zero_le _) (Nat.zero_le _) (k_66_102 (by first | exact dq1 hd rfl | exact dq0 hd rfl | exact dq2 hd rfl | exact dq3 hd rfl | omega) hI19 (in_w 0 120 ro_102_1 rfl) (in_w 0 120 ro_102_2 rfl) p53) (fun e u h => h) (fun v u h => ?_)
          obtain ⟨s53, hI53, hF53, z53, rfl, rfl⟩ := h
          show GG _ _ _ _ _ _ _ _ [.long z53, .int y5_4, .ref (A 107)] _ _ _
          refine g_lastore 57 (gd rfl) rfl (n := 32) rfl (in_ix i11 rfl) ?_
          have hI56 := inv_sL (q := 107) (j := y5_4.toNatClampNeg) (x := z53) hI53 rfl (l_rng z53)
          refine g_iload_n 58 (gd rfl) rfl rfl ?_
          refine g_aload_n 59 (gd rfl) rfl rfl ?_
          refine g_getA (q2 := 107) 62 (gd rfl) rfl rfl rfl rfl ?_
          refine g_iload 64 (gd rfl) rfl rfl ?_
          refine g_laload 65 (gd rfl) rfl (n := 32) rfl (in_ix i11 rfl) (fun z64 e64 => ?_)
          refine g_aload_n 66 (gd rfl) rfl rfl ?_
          refine g_getA (q2 := 108) 69 (gd rfl) rfl rfl rfl rfl ?_
          refine g_iload 71 (gd rfl) rfl rfl ?_
          refine g_laload 72 (gd rfl) rfl (n := 32) rfl (in_ix i11 rfl) (fun z71 e71 => ?_)
          refine g_lcmp 73 (gd rfl) rfl (fun z72 e72 => ?_)
          have i72 := lc_in e72
          refine g_if_eq 76 80 (gd rfl) rfl rfl (fun c73 => ?_) (fun c73 => ?_)
          · skip
            have i73 := z_eq 0 0 c73 i72 rfl
            have c73a := lc_eq e72 c73
            refine g_iconst 0 81 (gd rfl) rfl rfl ?_
            refine g_ior 82 (gd rfl) rfl (fun z81 e81 => ?_)
            have i81 := in_or 1 e81 (in_w 0 1 j5_3 rfl) (in_w 0 1 (in_c 0 rfl) rfl) rfl
            refine g_istore_n 83 (gd rfl) rfl (Nat.le_of_ble_eq_true rfl) ?_
            refine g_iinc 86 (gd rfl) rfl rfl (Nat.le_of_ble_eq_true rfl) (fun z83 e83 => ?_)
            have i83 := in_add 1 32 e83 i11 (in_c 1 rfl) rfl rfl
            refine g_goto 5 (gd rfl) rfl ?_
            exact gg_w (by first | exact Nat.le_add_right _ _ | exact gw2 | exact gw3 | exact gwe rfl | exact gwf rfl | exact gwg rfl | exact gwh rfl | omega) (gg_f (gf_cons rfl (gf_cons rfl (gf_cons rfl (gf_cons rfl (gf_cons rfl gf_nil))))) (ih5 (sL s53 107 y5_4.toNatClampNeg z53) z81 z83 hI56 (fr_sL rfl (fr_tr rfl (fr_tr rfl hFc5 hF19) hF53)) (in_w 0 1 i81 rfl) (in_w 0 32 i83 rfl) (m_up mm5 (t_add e83 i11 (in_c 1 rfl) rfl) (in_w 1 1 (in_c 1 rfl) rfl))))
          · skip
            have c73a := lc_ne e72 c73
            refine g_iconst 1 77 (gd rfl) rfl rfl ?_
            refine g_goto 81 (gd rfl) rfl ?_
            refine g_ior 82 (gd rfl) rfl (fun z81 e81 => ?_)
            have i81 := in_or 1 e81 (in_w 0 1 j5_3 rfl) (in_w 0 1 (in_c 1 rfl) rfl) rfl
            refine g_istore_n 83 (gd rfl) rfl (Nat.le_of_ble_eq_true rfl) ?_
            refine g_iinc 86 (gd rfl) rfl rfl (Nat.le_of_ble_eq_true rfl) (fun z83 e83 => ?_)
            have i83 := in_add 1 32 e83 i11 (in_c 1 rfl) rfl rfl
            refine g_goto 5 (gd rfl) rfl ?_
            exact gg_w (by first | exact Nat.le_add_right _ _ | exact gw2 | exact gw3 | exact gwe rfl | exact gwf rfl | exact gwg rfl | exact gwh rfl | omega) (gg_f (gf_cons rfl (gf_cons rfl (gf_cons rfl (gf_cons rfl (gf_cons rfl gf_nil))))) (ih5 (sL s53 107 y5_4.toNatClampNeg z53) z81 z83 hI56 (fr_sL rfl (fr_tr rfl (fr_tr rfl hFc5 hF19) hF53)) (in_w 0 1 i81 rfl) (in_w 0 32 i83 rfl) (m_up mm5 (t_add e83 i11 (in_c 1 rfl) rfl) (in_w 1 1 (in_c 1 rfl) rfl))))
        · skip
          have i29 := z_eq 0 0 c29 h2 rfl
          refine g_aload_n 33 (gd rfl) rfl rfl ?_
          refine g_iconst 0 34 (gd rfl) rfl rfl ?_
          refine g_aload_n 35 (gd rfl) rfl rfl ?_
          refine g_getI 38 (gd rfl) rfl rfl rfl (fun z35 e35 => ?_)
          have q35 : u_102_1 = z35 := (fr_F (fr_F e_102_1 hFc5 rfl) hF19 rfl).trans e35.symm
          subst q35
          have p38 : (ht (fun i => hc (s19.1 103 i)) ((Int32.ofInt 0)).toNatClampNeg ((u_102_1).toNatClampNeg - ((Int32.ofInt 0)).toNatClampNeg)).isSome = true := by exact kc_1 hI19 rfl (show u_102_1 = s19.2.2.1 102 1 from fr_F (fr_F e_102_1 hFc5 rfl) hF19 rfl)
          refine g_callv (X := _) (As := [.int (Int32.ofInt 0), .int u_102_1]) (r := [.int y5_4, .ref (A 107)]) (b := A 102) (q := 102) 41 (gd rfl) rfl rfl rfl rfl rfl (ww_o rfl) (Nat.le_of_ble_eq_true rfl) (Nat.zero_le _) (Nat.zero_le _) (k_66_102 (by first | exact dq1 hd rfl | exact dq0 hd rfl | exact dq2 hd rfl | exact dq3 hd rfl | omega) hI19 (in_w 0 120 (in_c 0 rfl) rfl) (in_w 0 120 ro_102_1 rfl) p38) (fun e u h => h) (fun v u h => ?_)
          obtain ⟨s38, hI38, hF38, z38, rfl, rfl⟩ := h
          show GG _ _ _ _ _ _ _ _ [.long z38, .int y5_4, .ref (A 107)] _ _ _
          refine g_goto 56 (gd rfl) rfl ?_
          refine g_lastore 57 (gd rfl) rfl (n := 32) rfl (in_ix i11 rfl) ?_
          have hI56 := inv_sL (q := 107) (j := y5_4.toNatClampNeg) (x := z38) hI38 rfl (l_rng z38)
          refine g_iload_n 58 (gd rfl) rfl rfl ?_
          refine g_aload_n 59 (gd rfl) rfl rfl ?_
          refine g_getA (q2 := 107) 62 (gd rfl) rfl rfl rfl rfl ?_
          refine g_iload 64 (gd rfl) rfl rfl ?_
          refine g_laload 65 (gd rfl) rfl (n := 32) rfl (in_ix i11 rfl) (fun z64 e64 => ?_)
          refine g_aload_n 66 (gd rfl) rfl rfl ?_
          refine g_getA (q2 := 108) 69 (gd rfl) rfl rfl rfl rfl ?_
          refine g_iload 71 (gd rfl) rfl rfl ?_
          refine g_laload 72 (gd rfl) rfl (n := 32) rfl (in_ix i11 rfl) (fun z71 e71 => ?_)
          refine g_lcmp 73 (gd rfl) rfl (fun z72 e72 => ?_)
          have i72 := lc_in e72
          refine g_if_eq 76 80 (gd rfl) rfl rfl (fun c73 => ?_) (fun c73 => ?_)
          · skip
            have i73 := z_eq 0 0 c73 i72 rfl
            have c73a := lc_eq e72 c73
            refine g_iconst 0 81 (gd rfl) rfl rfl ?_
            refine g_ior 82 (gd rfl) rfl (fun z81 e81 => ?_)
            have i81 := in_or 1 e81 (in_w 0 1 j5_3 rfl) (in_w 0 1 (in_c 0 rfl) rfl) rfl
            refine g_istore_n 83 (gd rfl) rfl (Nat.le_of_ble_eq_true rfl) ?_
            refine g_iinc 86 (gd rfl) rfl rfl (Nat.le_of_ble_eq_true rfl) (fun z83 e83 => ?_)
            have i83 := in_add 1 32 e83 i11 (in_c 1 rfl) rfl rfl
            refine g_goto 5 (gd rfl) rfl ?_
            exact gg_w (by first | exact Nat.le_add_right _ _ | exact gw2 | exact gw3 | exact gwe rfl | exact gwf rfl | exact gwg rfl | exact gwh rfl | omega) (gg_f (gf_cons rfl (gf_cons rfl (gf_cons rfl (gf_cons rfl (gf_cons rfl gf_nil))))) (ih5 (sL s38 107 y5_4.toNatClampNeg z38) z81 z83 hI56 (fr_sL rfl (fr_tr rfl (fr_tr rfl hFc5 hF19) hF38)) (in_w 0 1 i81 rfl) (in_w 0 32 i83 rfl) (m_up mm5 (t_add e83 i11 (in_c 1 rfl) rfl) (in_w 1 1 (in_c 1 rfl) rfl))))
          · skip
            have c73a := lc_ne e72 c73
            refine g_iconst 1 77 (gd rfl) rfl rfl ?_
            refine g_goto 81 (gd rfl) rfl ?_
            refine g_ior 82 (gd rfl) rfl (fun z81 e81 => ?_)
            have i81 := in_or 1 e81 (in_w 0 1 j5_3 rfl) (in_w 0 1 (in_c 1 rfl) rfl) rfl
            refine g_istore_n 83 (gd rfl) rfl (Nat.le_of_ble_eq_true rfl) ?_
            refine g_iinc 86 (gd rfl) rfl rfl (Nat.le_of_ble_eq_true rfl) (fun z83 e83 => ?_)
            have i83 := in_add 1 32 e83 i11 (in_c 1 rfl) rfl rfl
            refine g_goto 5 (gd rfl) rfl ?_
            exact gg_w (by first | exact Nat.le_add_right _ _ | exact gw2 | exact gw3 | exact gwe rfl | exact gwf rfl | exact gwg rfl | exact gwh rfl | omega) (gg_f (gf_cons rfl (gf_cons rfl (gf_cons rfl (gf_cons rfl (gf_cons rfl gf_nil))))) (ih5 (sL s38 107 y5_4.toNatClampNeg z38) z81 z83 hI56 (fr_sL rfl (fr_tr rfl (fr_tr rfl hFc5 hF19) hF38)) (in_w 0 1 i81 rfl) (in_w 0 32 i83 rfl) (m_up mm5 (t_add e83 i11 (in_c 1 rfl) rfl) (in_w 1 1 (in_c 1 rfl) rfl))))
  refine g_enter2 (k := 64) (N := 30601) (by first | exact dq1 hd rfl | exact dq0 hd rfl | exact dq2 hd rfl | exact dq3 hd rfl | omega) rfl (Nat.le_of_ble_eq_true rfl) ?_
  refine g_iconst 0 1 (gd rfl) rfl rfl ?_
  refine g_istore_n 2 (gd rfl) rfl (Nat.le_of_ble_eq_true rfl) ?_
  refine g_iconst 0 3 (gd rfl) rfl rfl ?_
  refine g_istore 5 (gd rfl) rfl (Nat.le_of_ble_eq_true rfl) ?_
  exact gg_w (by first | exact Nat.le_of_ble_eq_true rfl | omega) (gg_f (gf_cons rfl (gf_cons rfl (gf_cons rfl (gf_cons rfl (gf_cons rfl gf_nil))))) (ct5 33 s (Int32.ofInt 0) (Int32.ofInt 0) hI fr_rf (in_w 0 1 (in_c 0 rfl) rfl) (in_w 0 32 (in_c 0 rfl) rfl) (m_in 33 (in_w 0 32 (in_c 0 rfl) rfl) rfl)))

def fm_70_102_2 : FM := ([], [], [(102, 10), (102, 11), (102, 12)], [])
/-- GraphHouse$Engine.post -/
theorem k_70_102_2 {Z : AmZ} {A : Nat → Nat} {s : GS} {ex : va_W} {d : Nat} {X : AmX} {x2 : Int32} {x3 : Int32} {x4 : Int32} {x5 : Int64} (hd : 5 ≤ d) (hI : Inv s) (h2 : In x2 0 200) (h3 : In x3 1 4) (h4 : In x4 0 90) : GC Z d 70 [.ref (A 102), .ref (A 2), .int x2, .int x3, .int x4, .long x5] (WW Z A s ++ ex) 0 0 (fun v u => ∃ t : GS, Inv t ∧ Fr fm_70_102_2 s t ∧ v = none ∧ u = WW Z A t ++ ex) X := by
  intro post xp hP hX
  have ct25 : ∀ (k25 : Nat) (sc25 : GS) (y25_7 : Int32) (y25_8 : Int32), Inv sc25 → Fr fm_70_102_2 s sc25 → (In y25_7 0 2016) → (In y25_8 0 400) → 400 - (y25_8).toInt < (k25 : Int) → GG Z (d - 1) 70 post (gx xp) (1 + k25 * 1932735285901) 25 (fun j => xlook j [(0, .ref (A 102)), (1, .ref (A 2)), (2, .int x2), (3, .int x3), (4, .int x4), (5, .long x5), (7, .int y25_7), (8, .int y25_8)]) [] (WW Z A sc25 ++ ex) 0 0 := by
    intro k25
    induction k25 with
    | zero => intro sc25 y25_7 y25_8 hIc25 hFc25 j25_7 j25_8 mm25; exact m_no mm25 j25_8 rfl
    | succ k25 ih25 =>
      intro sc25 y25_7 y25_8 hIc25 hFc25 j25_7 j25_8 mm25
      refine gg_w (M := 1 + k25 * 1932735285901 + 1932735285901) gws ?_
      have ct38 : ∀ (k38 : Nat) (sc38 : GS) (y38_9 : Int32) (y38_10 : Int32), Inv sc38 → Fr fm_70_102_2 s sc38 → (In x2 1 200) → (In y25_8 0 200) → (In y38_9 0 2100) → (In y38_10 0 2147483647) → 2147483647 - (y38_10).toInt < (k38 : Int) → GG Z (d - 1) 70 post (gx xp) (1 + k25 * 1932735285901 + 1 + k38 * 900) 38 (fun j => xlook j [(0, .ref (A 102)), (1, .ref (A 2)), (2, .int x2), (3, .int x3), (4, .int x4), (5, .long x5), (7, .int y25_7), (8, .int y25_8), (9, .int y38_9), (10, .int y38_10)]) [] (WW Z A sc38 ++ ex) 0 0 := by
        intro k38
        induction k38 with
        | zero => intro sc38 y38_9 y38_10 hIc38 hFc38 j38_2 j38_8 j38_9 j38_10 mm38; exact m_no mm38 j38_10 rfl
        | succ k38 ih38 =>
          intro sc38 y38_9 y38_10 hIc38 hFc38 j38_2 j38_8 j38_9 j38_10 mm38
          refine gg_w (M := 1 + k25 * 1932735285901 + 1 + k38 * 900 + 900) gws ?_
          refine g_iload 40 (gd rfl) rfl rfl ?_
          refine g_ldc 1000000 42 (gd rfl) rfl rfl ?_
          refine g_cmp_ge 45 78 (gd rfl) rfl rfl (fun c42 => ?_) (fun c42 => ?_)
          · skip
            have i42 := r_le2 1000000 2147483647 c42 (in_c 1000000 rfl) j38_10 rfl
            refine g_iinc 81 (gd rfl) rfl rfl (Nat.le_of_ble_eq_true rfl) (fun z78 e78 => ?_)
            have i78 := in_add 1 201 e78 j38_8 (in_c 1 rfl) rfl rfl
            refine g_goto 25 (gd rfl) rfl ?_
            exact gg_w (by first | exact Nat.le_add_right _ _ | exact gw2 | exact gw3 | exact gwe rfl | exact gwf rfl | exact gwg rfl | exact gwh rfl | omega) (gg_f (gf_cons rfl (gf_cons rfl (gf_cons rfl (gf_cons rfl (gf_cons rfl (gf_cons rfl (gf_cons rfl (gf_cons rfl gf_nil)))))))) (ih25 sc38 y25_7 z78 hIc38 hFc38 (in_w 0 2016 j25_7 rfl) (in_w 0 400 i78 rfl) (m_up mm25 (t_add e78 j38_8 (in_c 1 rfl) rfl) (in_w 1 1 (in_c 1 rfl) rfl))))
          · skip
            have i42 := r_lt1 0 999999 c42 j38_10 (in_c 1000000 rfl) rfl
            refine g_iload 47 (gd rfl) rfl rfl ?_
            refine g_if_le 50 78 (gd rfl) rfl rfl (fun c47 => ?_) (fun c47 => ?_)
            · skip
              have i47 := z_le 0 0 c47 j38_9 rfl
              refine g_iinc 81 (gd rfl) rfl rfl (Nat.le_of_ble_eq_true rfl) (fun z78 e78 => ?_)
              have i78 := in_add 1 201 e78 j38_8 (in_c 1 rfl) rfl rfl
              refine g_goto 25 (gd rfl) rfl ?_
              exact gg_w (by first | exact Nat.le_add_right _ _ | exact gw2 | exact gw3 | exact gwe rfl | exact gwf rfl | exact gwg rfl | exact gwh rfl | omega) (gg_f (gf_cons rfl (gf_cons rfl (gf_cons rfl (gf_cons rfl (gf_cons rfl (gf_cons rfl (gf_cons rfl (gf_cons rfl gf_nil)))))))) (ih25 sc38 y25_7 z78 hIc38 hFc38 (in_w 0 2016 j25_7 rfl) (in_w 0 400 i78 rfl) (m_up mm25 (t_add e78 j38_8 (in_c 1 rfl) rfl) (in_w 1 1 (in_c 1 rfl) rfl))))
            · skip
              have i47 := z_gt 1 2100 c47 j38_9 rfl
              refine g_aload_n 51 (gd rfl) rfl rfl ?_
              refine g_iload 53 (gd rfl) rfl rfl ?_
              refine g_iload 55 (gd rfl) rfl rfl ?_
              refine g_lload 57 (gd rfl) rfl rfl ?_
              refine g_callv (X := _) (As := [.int y38_9, .int x4, .long x5]) (r := []) (b := A 102) (q := 102) 60 (gd rfl) rfl rfl rfl rfl rfl (ww_o rfl) (Nat.le_of_ble_eq_true rfl) (Nat.zero_le _) (Nat.zero_le _) (k_72_102 (by first | exact dq1 hd rfl | exact dq0 hd rfl | exact dq2 hd rfl | exact dq3 hd rfl | omega) hIc38 (in_w 0 2100 i47 rfl) (in_w 0 90 h4 rfl)) (fun e u h => h) (fun v u h => ?_)
              obtain ⟨s57, hI57, hF57, z57, rfl, rfl, i57⟩ := h
              show GG _ _ _ _ _ _ _ _ [.int z57] _ _ _
              refine g_istore 62 (gd rfl) rfl (Nat.le_of_ble_eq_true rfl) ?_
              refine g_aload_n 63 (gd rfl) rfl rfl ?_
              refine g_dup 64 (gd rfl) rfl rfl ?_
              refine g_getI 67 (gd rfl) rfl rfl rfl (fun z64 e64 => ?_)
              refine g_iconst 1 68 (gd rfl) rfl rfl ?_
              refine g_iadd 69 (gd rfl) rfl (fun z68 e68 => ?_)
              refine g_putI 72 (gd rfl) rfl rfl rfl rfl ?_
              have hI69 := inv_sF (q := 102) (j := 12) hI57 rfl (in_w (-2147483648) 2147483647 (i_rng z68) rfl)
              refine g_iinc 75 (gd rfl) rfl rfl (Nat.le_of_ble_eq_true rfl) (fun z72 e72 => ?_)
              have i72 := in_add 1 1000000 e72 i42 (in_c 1 rfl) rfl rfl
              refine g_goto 38 (gd rfl) rfl ?_
              exact gg_w (by first | exact Nat.le_add_right _ _ | exact gw2 | exact gw3 | exact gwe rfl | exact gwf rfl | exact gwg rfl | exact gwh rfl | omega) (gg_f (gf_cons rfl (gf_cons rfl (gf_cons rfl (gf_cons rfl (gf_cons rfl (gf_cons rfl (gf_cons rfl (gf_cons rfl (gf_cons rfl (gf_cons rfl gf_nil)))))))))) (ih38 (sF s57 102 12 z68) z57 z72 hI69 (fr_sF rfl (fr_tr rfl hFc38 hF57)) (in_w 1 200 j38_2 rfl) (in_w 0 200 j38_8 rfl) (in_w 0 2100 i57 rfl) (in_w 0 2147483647 i72 rfl) (m_up mm38 (t_add e72 i42 (in_c 1 rfl) rfl) (in_w 1 1 (in_c 1 rfl) rfl))))
      refine g_iload 27 (gd rfl) rfl rfl ?_
      refine g_iload_n 28 (gd rfl) rfl rfl ?_
      refine g_cmp_ge 31 84 (gd rfl) rfl rfl (fun c28 => ?_) (fun c28 => ?_)
      · skip
        exact g_return (gd rfl) rfl (hP _ _ ⟨sc25, hIc25, hFc25, rfl, rfl⟩)
      · skip
        have i28 := r_lt1 0 199 c28 j25_8 h2 rfl
        have i28a := r_lt2 1 200 c28 j25_8 h2 rfl
        refine g_iload 33 (gd rfl) rfl rfl ?_
        refine g_istore 35 (gd rfl) rfl (Nat.le_of_ble_eq_true rfl) ?_
        refine g_iconst 0 36 (gd rfl) rfl rfl ?_
        refine g_istore 38 (gd rfl) rfl (Nat.le_of_ble_eq_true rfl) ?_
        exact gg_w (by first | exact Nat.le_add_right _ _ | exact gw2 | exact gw3 | exact gwe rfl | exact gwf rfl | exact gwg rfl | exact gwh rfl | omega) (gg_f (gf_cons rfl (gf_cons rfl (gf_cons rfl (gf_cons rfl (gf_cons rfl (gf_cons rfl (gf_cons rfl (gf_cons rfl (gf_cons rfl (gf_cons rfl gf_nil)))))))))) (ct38 2147483648 sc25 y25_7 (Int32.ofInt 0) hIc25 hFc25 (in_w 1 200 i28a rfl) (in_w 0 200 i28 rfl) (in_w 0 2100 j25_7 rfl) (in_w 0 2147483647 (in_c 0 rfl) rfl) (m_in 2147483648 (in_w 0 2147483647 (in_c 0 rfl) rfl) rfl)))
  refine g_enter2 (k := 70) (N := 775026849647202) (by first | exact dq1 hd rfl | exact dq0 hd rfl | exact dq2 hd rfl | exact dq3 hd rfl | omega) rfl (Nat.le_of_ble_eq_true rfl) ?_
  refine g_aload_n 1 (gd rfl) rfl rfl ?_
  refine g_iconst 0 2 (gd rfl) rfl rfl ?_
  refine g_putI 5 (gd rfl) rfl rfl rfl rfl ?_
  have hI2 := inv_sF (q := 102) (j := 10) hI rfl (in_w (-2147483648) 2147483647 (in_c 0 rfl) rfl)
  refine g_aload_n 6 (gd rfl) rfl rfl ?_
  refine g_iconst 0 7 (gd rfl) rfl rfl ?_
  refine g_putI 10 (gd rfl) rfl rfl rfl rfl ?_
  have hI7 := inv_sF (q := 102) (j := 11) hI2 rfl (in_w (-2147483648) 2147483647 (in_c 0 rfl) rfl)
  refine g_aload_n 11 (gd rfl) rfl rfl ?_
  refine g_iconst 0 12 (gd rfl) rfl rfl ?_
  refine g_putI 15 (gd rfl) rfl rfl rfl rfl ?_
  have hI12 := inv_sF (q := 102) (j := 12) hI7 rfl (in_w (-2147483648) 2147483647 (in_c 0 rfl) rfl)
  refine g_aload_n 16 (gd rfl) rfl rfl ?_
  refine g_iload_n 17 (gd rfl) rfl rfl ?_
  refine g_calls (As := [.ref (A 2), .int x3]) (r := []) 20 (gd rfl) rfl rfl rfl rfl rfl (Nat.le_of_ble_eq_true rfl) (Nat.zero_le _) (Nat.zero_le _) (k_71_2 (by first | exact dq1 hd rfl | exact dq0 hd rfl | exact dq2 hd rfl | exact dq3 hd rfl | omega) hI12 (in_w 1 4 h3 rfl)) (fun v u h => ?_)
  obtain ⟨z17, rfl, rfl, i17⟩ := h
  show GG _ _ _ _ _ _ _ _ [.int z17] _ _ _
  refine g_istore 22 (gd rfl) rfl (Nat.le_of_ble_eq_true rfl) ?_
  refine g_iconst 0 23 (gd rfl) rfl rfl ?_
  refine g_istore 25 (gd rfl) rfl (Nat.le_of_ble_eq_true rfl) ?_
  exact gg_w (by first | exact Nat.le_of_ble_eq_true rfl | omega) (gg_f (gf_cons rfl (gf_cons rfl (gf_cons rfl (gf_cons rfl (gf_cons rfl (gf_cons rfl (gf_cons rfl (gf_cons rfl gf_nil)))))))) (ct25 401 (sF (sF (sF s 102 10 (Int32.ofInt 0)) 102 11 (Int32.ofInt 0)) 102 12 (Int32.ofInt 0)) z17 (Int32.ofInt 0) hI12 (fr_sF rfl (fr_sF rfl (fr_sF rfl fr_rf))) (in_w 0 2016 i17 rfl) (in_w 0 400 (in_c 0 rfl) rfl) (m_in 401 (in_w 0 400 (in_c 0 rfl) rfl) rfl)))

def fm_70_102_32 : FM := ([], [], [(102, 10), (102, 11), (102, 12)], [])
/-- GraphHouse$Engine.post -/
theorem k_70_102_32 {Z : AmZ} {A : Nat → Nat} {s : GS} {ex : va_W} {d : Nat} {X : AmX} {x2 : Int32} {x3 : Int32} {x4 : Int32} {x5 : Int64} (hd : 5 ≤ d) (hI : Inv s) (h2 : In x2 0 200) (h3 : In x3 1 4) (h4 : In x4 0 90) : GC Z d 70 [.ref (A 102), .ref (A 32), .int x2, .int x3, .int x4, .long x5] (WW Z A s ++ ex) 0 0 (fun v u => ∃ t : GS, Inv t ∧ Fr fm_70_102_32 s t ∧ v = none ∧ u = WW Z A t ++ ex) X := by
  intro post xp hP hX
  have ct25 : ∀ (k25 : Nat) (sc25 : GS) (y25_7 : Int32) (y25_8 : Int32), Inv sc25 → Fr fm_70_102_32 s sc25 → (In y25_7 0 2016) → (In y25_8 0 400) → 400 - (y25_8).toInt < (k25 : Int) → GG Z (d - 1) 70 post (gx xp) (1 + k25 * 1932735285901) 25 (fun j => xlook j [(0, .ref (A 102)), (1, .ref (A 32)), (2, .int x2), (3, .int x3), (4, .int x4), (5, .long x5), (7, .int y25_7), (8, .int y25_8)]) [] (WW Z A sc25 ++ ex) 0 0 := by
    intro k25
    induction k25 with
    | zero => intro sc25 y25_7 y25_8 hIc25 hFc25 j25_7 j25_8 mm25; exact m_no mm25 j25_8 rfl
    | succ k25 ih25 =>
      intro sc25 y25_7 y25_8 hIc25 hFc25 j25_7 j25_8 mm25
      refine gg_w (M := 1 + k25 * 1932735285901 + 1932735285901) gws ?_
      have ct38 : ∀ (k38 : Nat) (sc38 : GS) (y38_9 : Int32) (y38_10 : Int32), Inv sc38 → Fr fm_70_102_32 s sc38 → (In x2 1 200) → (In y25_8 0 200) → (In y38_9 0 2100) → (In y38_10 0 2147483647) → 2147483647 - (y38_10).toInt < (k38 : Int) → GG Z (d - 1) 70 post (gx xp) (1 + k25 * 1932735285901 + 1 + k38 * 900) 38 (fun j => xlook j [(0, .ref (A 102)), (1, .ref (A 32)), (2, .int x2), (3, .int x3), (4, .int x4), (5, .long x5), (7, .int y25_7), (8, .int y25_8), (9, .int y38_9), (10, .int y38_10)]) [] (WW Z A sc38 ++ ex) 0 0 := by
        intro k38
        induction k38 with
        | zero => intro sc38 y38_9 y38_10 hIc38 hFc38 j38_2 j38_8 j38_9 j38_10 mm38; exact m_no mm38 j38_10 rfl
        | succ k38 ih38 =>
          intro sc38 y38_9 y38_10 hIc38 hFc38 j38_2 j38_8 j38_9 j38_10 mm38
          refine gg_w (M := 1 + k25 * 1932735285901 + 1 + k38 * 900 + 900) gws ?_
          refine g_iload 40 (gd rfl) rfl rfl ?_
          refine g_ldc 1000000 42 (gd rfl) rfl rfl ?_
          refine g_cmp_ge 45 78 (gd rfl) rfl rfl (fun c42 => ?_) (fun c42 => ?_)
          · skip
            have i42 := r_le2 1000000 2147483647 c42 (in_c 1000000 rfl) j38_10 rfl
            refine g_iinc 81 (gd rfl) rfl rfl (Nat.le_of_ble_eq_true rfl) (fun z78 e78 => ?_)
            have i78 := in_add 1 201 e78 j38_8 (in_c 1 rfl) rfl rfl
            refine g_goto 25 (gd rfl) rfl ?_
            exact gg_w (by first | exact Nat.le_add_right _ _ | exact gw2 | exact gw3 | exact gwe rfl | exact gwf rfl | exact gwg rfl | exact gwh rfl | omega) (gg_f (gf_cons rfl (gf_cons rfl (gf_cons rfl (gf_cons rfl (gf_cons rfl (gf_cons rfl (gf_cons rfl (gf_cons rfl gf_nil)))))))) (ih25 sc38 y25_7 z78 hIc38 hFc38 (in_w 0 2016 j25_7 rfl) (in_w 0 400 i78 rfl) (m_up mm25 (t_add e78 j38_8 (in_c 1 rfl) rfl) (in_w 1 1 (in_c 1 rfl) rfl))))
          · skip
            have i42 := r_lt1 0 999999 c42 j38_10 (in_c 1000000 rfl) rfl
            refine g_iload 47 (gd rfl) rfl rfl ?_
            refine g_if_le 50 78 (gd rfl) rfl rfl (fun c47 => ?_) (fun c47 => ?_)
            · skip
              have i47 := z_le 0 0 c47 j38_9 rfl
              refine g_iinc 81 (gd rfl) rfl rfl (Nat.le_of_ble_eq_true rfl) (fun z78 e78 => ?_)
              have i78 := in_add 1 201 e78 j38_8 (in_c 1 rfl) rfl rfl
              refine g_goto 25 (gd rfl) rfl ?_
              exact gg_w (by first | exact Nat.le_add_right _ _ | exact gw2 | exact gw3 | exact gwe rfl | exact gwf rfl | exact gwg rfl | exact gwh rfl | omega) (gg_f (gf_cons rfl (gf_cons rfl (gf_cons rfl (gf_cons rfl (gf_cons rfl (gf_cons rfl (gf_cons rfl (gf_cons rfl gf_nil)))))))) (ih25 sc38 y25_7 z78 hIc38 hFc38 (in_w 0 2016 j25_7 rfl) (in_w 0 400 i78 rfl) (m_up mm25 (t_add e78 j38_8 (in_c 1 rfl) rfl) (in_w 1 1 (in_c 1 rfl) rfl))))
            · skip
              have i47 := z_gt 1 2100 c47 j38_9 rfl
              refine g_aload_n 51 (gd rfl) rfl rfl ?_
              refine g_iload 53 (gd rfl) rfl rfl ?_
              refine g_iload 55 (gd rfl) rfl rfl ?_
              refine g_lload 57 (gd rfl) rfl rfl ?_
              refine g_callv (X := _) (As := [.int y38_9, .int x4, .long x5]) (r := []) (b := A 102) (q := 102) 60 (gd rfl) rfl rfl rfl rfl rfl (ww_o rfl) (Nat.le_of_ble_eq_true rfl) (Nat.zero_le _) (Nat.zero_le _) (k_72_102 (by first | exact dq1 hd rfl | exact dq0 hd rfl | exact dq2 hd rfl | exact dq3 hd rfl | omega) hIc38 (in_w 0 2100 i47 rfl) (in_w 0 90 h4 rfl)) (fun e u h => h) (fun v u h => ?_)
              obtain ⟨s57, hI57, hF57, z57, rfl, rfl, i57⟩ := h
              show GG _ _ _ _ _ _ _ _ [.int z57] _ _ _
              refine g_istore 62 (gd rfl) rfl (Nat.le_of_ble_eq_true rfl) ?_
              refine g_aload_n 63 (gd rfl) rfl rfl ?_
              refine g_dup 64 (gd rfl) rfl rfl ?_
              refine g_getI 67 (gd rfl) rfl rfl rfl (fun z64 e64 => ?_)
              refine g_iconst 1 68 (gd rfl) rfl rfl ?_
              refine g_iadd 69 (gd rfl) rfl (fun z68 e68 => ?_)
              refine g_putI 72 (gd rfl) rfl rfl rfl rfl ?_
              have hI69 := inv_sF (q := 102) (j := 12) hI57 rfl (in_w (-2147483648) 2147483647 (i_rng z68) rfl)
              refine g_iinc 75 (gd rfl) rfl rfl (Nat.le_of_ble_eq_true rfl) (fun z72 e72 => ?_)
              have i72 := in_add 1 1000000 e72 i42 (in_c 1 rfl) rfl rfl
              refine g_goto 38 (gd rfl) rfl ?_
              exact gg_w (by first | exact Nat.le_add_right _ _ | exact gw2 | exact gw3 | exact gwe rfl | exact gwf rfl | exact gwg rfl | exact gwh rfl | omega) (gg_f (gf_cons rfl (gf_cons rfl (gf_cons rfl (gf_cons rfl (gf_cons rfl (gf_cons rfl (gf_cons rfl (gf_cons rfl (gf_cons rfl (gf_cons rfl gf_nil)))))))))) (ih38 (sF s57 102 12 z68) z57 z72 hI69 (fr_sF rfl (fr_tr rfl hFc38 hF57)) (in_w 1 200 j38_2 rfl) (in_w 0 200 j38_8 rfl) (in_w 0 2100 i57 rfl) (in_w 0 2147483647 i72 rfl) (m_up mm38 (t_add e72 i42 (in_c 1 rfl) rfl) (in_w 1 1 (in_c 1 rfl) rfl))))
      refine g_iload 27 (gd rfl) rfl rfl ?_
      refine g_iload_n 28 (gd rfl) rfl rfl ?_
      refine g_cmp_ge 31 84 (gd rfl) rfl rfl (fun c28 => ?_) (fun c28 => ?_)
      · skip
        exact g_return (gd rfl) rfl (hP _ _ ⟨sc25, hIc25, hFc25, rfl, rfl⟩)
      · skip
        have i28 := r_lt1 0 199 c28 j25_8 h2 rfl
        have i28a := r_lt2 1 200 c28 j25_8 h2 rfl
        refine g_iload 33 (gd rfl) rfl rfl ?_
        refine g_istore 35 (gd rfl) rfl (Nat.le_of_ble_eq_true rfl) ?_
        refine g_iconst 0 36 (gd rfl) rfl rfl ?_
        refine g_istore 38 (gd rfl) rfl (Nat.le_of_ble_eq_true rfl) ?_
        exact gg_w (by first | exact Nat.le_add_right _ _ | exact gw2 | exact gw3 | exact gwe rfl | exact gwf rfl | exact gwg rfl | exact gwh rfl | omega) (gg_f (gf_cons rfl (gf_cons rfl (gf_cons rfl (gf_cons rfl (gf_cons rfl (gf_cons rfl (gf_cons rfl (gf_cons rfl (gf_cons rfl (gf_cons rfl gf_nil)))))))))) (ct38 2147483648 sc25 y25_7 (Int32.ofInt 0) hIc25 hFc25 (in_w 1 200 i28a rfl) (in_w 0 200 i28 rfl) (in_w 0 2100 j25_7 rfl) (in_w 0 2147483647 (in_c 0 rfl) rfl) (m_in 2147483648 (in_w 0 2147483647 (in_c 0 rfl) rfl) rfl)))
  refine g_enter2 (k := 70) (N := 775026849647202) (by first | exact dq1 hd rfl | exact dq0 hd rfl | exact dq2 hd rfl | exact dq3 hd rfl | omega) rfl (Nat.le_of_ble_eq_true rfl) ?_
  refine g_aload_n 1 (gd rfl) rfl rfl ?_
  refine g_iconst 0 2 (gd rfl) rfl rfl ?_
  refine g_putI 5 (gd rfl) rfl rfl rfl rfl ?_
  have hI2 := inv_sF (q := 102) (j := 10) hI rfl (in_w (-2147483648) 2147483647 (in_c 0 rfl) rfl)
  refine g_aload_n 6 (gd rfl) rfl rfl ?_
  refine g_iconst 0 7 (gd rfl) rfl rfl ?_
  refine g_putI 10 (gd rfl) rfl rfl rfl rfl ?_
  have hI7 := inv_sF (q := 102) (j := 11) hI2 rfl (in_w (-2147483648) 2147483647 (in_c 0 rfl) rfl)
  refine g_aload_n 11 (gd rfl) rfl rfl ?_
  refine g_iconst 0 12 (gd rfl) rfl rfl ?_
  refine g_putI 15 (gd rfl) rfl rfl rfl rfl ?_
  have hI12 := inv_sF (q := 102) (j := 12) hI7 rfl (in_w (-2147483648) 2147483647 (in_c 0 rfl) rfl)
  refine g_aload_n 16 (gd rfl) rfl rfl ?_
  refine g_iload_n 17 (gd rfl) rfl rfl ?_
  refine g_calls (As := [.ref (A 32), .int x3]) (r := []) 20 (gd rfl) rfl rfl rfl rfl rfl (Nat.le_of_ble_eq_true rfl) (Nat.zero_le _) (Nat.zero_le _) (k_71_32 (by first | exact dq1 hd rfl | exact dq0 hd rfl | exact dq2 hd rfl | exact dq3 hd rfl | omega) hI12 (in_w 1 4 h3 rfl)) (fun v u h => ?_)
  obtain ⟨z17, rfl, rfl, i17⟩ := h
  show GG _ _ _ _ _ _ _ _ [.int z17] _ _ _
  refine g_istore 22 (gd rfl) rfl (Nat.le_of_ble_eq_true rfl) ?_
  refine g_iconst 0 23 (gd rfl) rfl rfl ?_
  refine g_istore 25 (gd rfl) rfl (Nat.le_of_ble_eq_true rfl) ?_
  exact gg_w (by first | exact Nat.le_of_ble_eq_true rfl | omega) (gg_f (gf_cons rfl (gf_cons rfl (gf_cons rfl (gf_cons rfl (gf_cons rfl (gf_cons rfl (gf_cons rfl (gf_cons rfl gf_nil)))))))) (ct25 401 (sF (sF (sF s 102 10 (Int32.ofInt 0)) 102 11 (Int32.ofInt 0)) 102 12 (Int32.ofInt 0)) z17 (Int32.ofInt 0) hI12 (fr_sF rfl (fr_sF rfl (fr_sF rfl fr_rf))) (in_w 0 2016 i17 rfl) (in_w 0 400 (in_c 0 rfl) rfl) (m_in 401 (in_w 0 400 (in_c 0 rfl) rfl) rfl)))

def fm_75_65_2 : FM := ([66, 67, 68], [], [(65, 0), (65, 1), (65, 2), (65, 4)], [(65, 3)])
/-- GraphHouse$Flows.greatest -/
theorem k_75_65_2 {Z : AmZ} {A : Nat → Nat} {s : GS} {ex : va_W} {d : Nat} {X : AmX} {x2 : Int32} {x3 : Int32} (hd : 5 ≤ d) (hI : Inv s) (h2 : In x2 0 31) (h3 : In x3 0 31) : GC Z d 75 [.ref (A 65), .ref (A 2), .int x2, .int x3] (WW Z A s ++ ex) 0 0 (fun v u => ∃ t : GS, Inv t ∧ Fr fm_75_65_2 s t ∧ ∃ z : Int64, v = some (.long z) ∧ u = WW Z A t ++ ex) X := by
  intro post xp hP hX
  obtain ⟨u_2_0, e_2_0⟩ : ∃ w, w = s.2.2.1 2 0 := ⟨_, rfl⟩
  have ro_2_0 := inv_F hI 0 4000 rfl e_2_0
  have ct63 : ∀ (k63 : Nat) (sc63 : GS) (y63_4 : Int32), Inv sc63 → Fr fm_75_65_2 s sc63 → (In y63_4 0 2147483647) → 2147483647 - (y63_4).toInt < (k63 : Int) → GG Z (d - 1) 75 post (gx xp) (1 + k63 * 900) 63 (fun j => xlook j [(0, .ref (A 65)), (1, .ref (A 2)), (2, .int x2), (3, .int x3), (4, .int y63_4)]) [] (WW Z A sc63 ++ ex) 0 0 := by
    intro k63
    induction k63 with
    | zero => intro sc63 y63_4 hIc63 hFc63 j63_4 mm63; exact m_no mm63 j63_4 rfl
    | succ k63 ih63 =>
      intro sc63 y63_4 hIc63 hFc63 j63_4 mm63
      refine gg_w (M := 1 + k63 * 900 + 900) gws ?_
      refine g_iload 65 (gd rfl) rfl rfl ?_
      refine g_ldc 1000000 67 (gd rfl) rfl rfl ?_
      refine g_cmp_ge 70 101 (gd rfl) rfl rfl (fun c67 => ?_) (fun c67 => ?_)
      · skip
        have i67 := r_le2 1000000 2147483647 c67 (in_c 1000000 rfl) j63_4 rfl
        refine g_aload_n 102 (gd rfl) rfl rfl ?_
        refine g_getL 105 (gd rfl) rfl rfl rfl (fun z102 e102 => ?_)
        exact g_lreturn (gd rfl) rfl (hP _ _ ⟨sc63, hIc63, hFc63, z102, rfl, rfl⟩)
      · skip
        have i67 := r_lt1 0 999999 c67 j63_4 (in_c 1000000 rfl) rfl
        refine g_aload_n 71 (gd rfl) rfl rfl ?_
        refine g_iload_n 72 (gd rfl) rfl rfl ?_
        refine g_iload_n 73 (gd rfl) rfl rfl ?_
        refine g_callv (X := _) (As := [.int x2, .int x3]) (r := []) (b := A 65) (q := 65) 76 (gd rfl) rfl rfl rfl rfl rfl (ww_o rfl) (Nat.le_of_ble_eq_true rfl) (Nat.zero_le _) (Nat.zero_le _) (k_77_65 (by first | exact dq1 hd rfl | exact dq0 hd rfl | exact dq2 hd rfl | exact dq3 hd rfl | omega) hIc63 (in_w 0 31 h2 rfl) (in_w 0 31 h3 rfl)) (fun e u h => h) (fun v u h => ?_)
        obtain ⟨s73, hI73, hF73, z73, rfl, rfl, i73, p73, p73a⟩ := h
        show GG _ _ _ _ _ _ _ _ [.int z73] _ _ _
        refine g_if_eq 79 101 (gd rfl) rfl rfl (fun c76 => ?_) (fun c76 => ?_)
        · skip
          have i76 := z_eq 0 0 c76 i73 rfl
          refine g_aload_n 102 (gd rfl) rfl rfl ?_
          refine g_getL 105 (gd rfl) rfl rfl rfl (fun z102 e102 => ?_)
          exact g_lreturn (gd rfl) rfl (hP _ _ ⟨s73, hI73, (fr_tr rfl hFc63 hF73), z102, rfl, rfl⟩)
        · skip
          have i76 := z_ne 1 1 c76 i73 rfl
          refine g_aload_n 80 (gd rfl) rfl rfl ?_
          refine g_dup 81 (gd rfl) rfl rfl ?_
          refine g_getL 84 (gd rfl) rfl rfl rfl (fun z81 e81 => ?_)
          refine g_aload_n 85 (gd rfl) rfl rfl ?_
          refine g_iload_n 86 (gd rfl) rfl rfl ?_
          refine g_iload_n 87 (gd rfl) rfl rfl ?_
          have p87 : RV (s73.1 68) (s73.2.2.1 65 4) x2 := by exact p73
          have p87a : bt (s73.2.2.1 65 4) (x3).toNatClampNeg = true := by exact p73a c76
          refine g_callv (X := _) (As := [.int x2, .int x3]) (r := [.long z81, .ref (A 65)]) (b := A 65) (q := 65) 90 (gd rfl) rfl rfl rfl rfl rfl (ww_o rfl) (Nat.le_of_ble_eq_true rfl) (Nat.zero_le _) (Nat.zero_le _) (k_78_65 (by first | exact dq1 hd rfl | exact dq0 hd rfl | exact dq2 hd rfl | exact dq3 hd rfl | omega) hI73 (in_w 0 31 h2 rfl) (in_w 0 31 h3 rfl) rfl p87 p87a) (fun e u h => h) (fun v u h => ?_)
          obtain ⟨s87, hI87, hF87, z87, rfl, rfl, i87⟩ := h
          show GG _ _ _ _ _ _ _ _ [.int z87, .long z81, .ref (A 65)] _ _ _
          refine g_i2l 91 (gd rfl) rfl (fun z90 e90 => ?_)
          have i90 := l_i e90 i87
          refine g_ladd 92 (gd rfl) rfl (fun z91 e91 => ?_)
          refine g_putL 95 (gd rfl) rfl rfl rfl rfl ?_
          have hI92 := inv_sG (q := 65) (j := 3) (x := z91) hI87 rfl (l_rng z91)
          refine g_iinc 98 (gd rfl) rfl rfl (Nat.le_of_ble_eq_true rfl) (fun z95 e95 => ?_)
          have i95 := in_add 1 1000000 e95 i67 (in_c 1 rfl) rfl rfl
          refine g_goto 63 (gd rfl) rfl ?_
          exact gg_w (by first | exact Nat.le_add_right _ _ | exact gw2 | exact gw3 | exact gwe rfl | exact gwf rfl | exact gwg rfl | exact gwh rfl | omega) (gg_f (gf_cons rfl (gf_cons rfl (gf_cons rfl (gf_cons rfl (gf_cons rfl gf_nil))))) (ih63 (sG s87 65 3 z91) z95 hI92 (fr_sG rfl (fr_tr rfl (fr_tr rfl hFc63 hF73) hF87)) (in_w 0 2147483647 i95 rfl) (m_up mm63 (t_add e95 i67 (in_c 1 rfl) rfl) (in_w 1 1 (in_c 1 rfl) rfl))))
  refine g_enter2 (k := 75) (N := 1932735284101) (by first | exact dq1 hd rfl | exact dq0 hd rfl | exact dq2 hd rfl | exact dq3 hd rfl | omega) rfl (Nat.le_of_ble_eq_true rfl) ?_
  refine g_aload_n 1 (gd rfl) rfl rfl ?_
  refine g_getI 4 (gd rfl) rfl rfl rfl (fun z1 e1 => ?_)
  have i1 := inv_F hI (-1) 4000 rfl e1
  refine g_aload_n 5 (gd rfl) rfl rfl ?_
  refine g_getI 8 (gd rfl) rfl rfl rfl (fun z5 e5 => ?_)
  have q5 : u_2_0 = z5 := (e_2_0).trans e5.symm
  subst q5
  refine g_cmp_ne 11 32 (gd rfl) rfl rfl (fun c8 => ?_) (fun c8 => ?_)
  · skip
    refine g_aload_n 33 (gd rfl) rfl rfl ?_
    refine g_aload_n 34 (gd rfl) rfl rfl ?_
    refine g_getI 37 (gd rfl) rfl rfl rfl (fun z34 e34 => ?_)
    have q34 : u_2_0 = z34 := (e_2_0).trans e34.symm
    subst q34
    refine g_putI 40 (gd rfl) rfl rfl rfl rfl ?_
    have hI37 := inv_sF (q := 65) (j := 0) hI rfl (in_w (-1) 4000 ro_2_0 rfl)
    refine g_aload_n 41 (gd rfl) rfl rfl ?_
    refine g_iload_n 42 (gd rfl) rfl rfl ?_
    refine g_putI 45 (gd rfl) rfl rfl rfl rfl ?_
    have hI42 := inv_sF (q := 65) (j := 1) hI37 rfl (in_w 0 31 h2 rfl)
    refine g_aload_n 46 (gd rfl) rfl rfl ?_
    refine g_iload_n 47 (gd rfl) rfl rfl ?_
    refine g_putI 50 (gd rfl) rfl rfl rfl rfl ?_
    have hI47 := inv_sF (q := 65) (j := 2) hI42 rfl (in_w 0 31 h3 rfl)
    refine g_aload_n 51 (gd rfl) rfl rfl ?_
    refine g_lconst 0 52 (gd rfl) rfl rfl ?_
    refine g_putL 55 (gd rfl) rfl rfl rfl rfl ?_
    have hI52 := inv_sG (q := 65) (j := 3) (x := (Int64.ofInt 0)) hI47 rfl (l_rng (Int64.ofInt 0))
    refine g_aload_n 56 (gd rfl) rfl rfl ?_
    refine g_aload_n 57 (gd rfl) rfl rfl ?_
    refine g_callv (X := _) (As := [.ref (A 2)]) (r := []) (b := A 65) (q := 65) 60 (gd rfl) rfl rfl rfl rfl rfl (ww_o rfl) (Nat.le_of_ble_eq_true rfl) (Nat.zero_le _) (Nat.zero_le _) (k_76_65_2 (by first | exact dq1 hd rfl | exact dq0 hd rfl | exact dq2 hd rfl | exact dq3 hd rfl | omega) hI52 ) (fun e u h => h) (fun v u h => ?_)
    obtain ⟨s57, hI57, hF57, rfl, rfl⟩ := h
    show GG _ _ _ _ _ _ _ _ [] _ _ _
    refine g_iconst 0 61 (gd rfl) rfl rfl ?_
    refine g_istore 63 (gd rfl) rfl (Nat.le_of_ble_eq_true rfl) ?_
    exact gg_w (by first | exact Nat.le_of_ble_eq_true rfl | omega) (gg_f (gf_cons rfl (gf_cons rfl (gf_cons rfl (gf_cons rfl (gf_cons rfl gf_nil))))) (ct63 2147483648 s57 (Int32.ofInt 0) hI57 (fr_tr rfl (fr_sG rfl (fr_sF rfl (fr_sF rfl (fr_sF rfl fr_rf)))) hF57) (in_w 0 2147483647 (in_c 0 rfl) rfl) (m_in 2147483648 (in_w 0 2147483647 (in_c 0 rfl) rfl) rfl)))
  · skip
    have i8 := r_eq1 0 4000 c8 i1 ro_2_0 rfl
    refine g_aload_n 12 (gd rfl) rfl rfl ?_
    refine g_getI 15 (gd rfl) rfl rfl rfl (fun z12 e12 => ?_)
    have i12 := inv_F hI 0 31 rfl e12
    refine g_iload_n 16 (gd rfl) rfl rfl ?_
    refine g_cmp_ne 19 32 (gd rfl) rfl rfl (fun c16 => ?_) (fun c16 => ?_)
    · skip
      refine g_aload_n 33 (gd rfl) rfl rfl ?_
      refine g_aload_n 34 (gd rfl) rfl rfl ?_
      refine g_getI 37 (gd rfl) rfl rfl rfl (fun z34 e34 => ?_)
      have q34 : u_2_0 = z34 := (e_2_0).trans e34.symm
      subst q34
      refine g_putI 40 (gd rfl) rfl rfl rfl rfl ?_
      have hI37 := inv_sF (q := 65) (j := 0) hI rfl (in_w (-1) 4000 ro_2_0 rfl)
      refine g_aload_n 41 (gd rfl) rfl rfl ?_
      refine g_iload_n 42 (gd rfl) rfl rfl ?_
      refine g_putI 45 (gd rfl) rfl rfl rfl rfl ?_
      have hI42 := inv_sF (q := 65) (j := 1) hI37 rfl (in_w 0 31 h2 rfl)
      refine g_aload_n 46 (gd rfl) rfl rfl ?_
      refine g_iload_n 47 (gd rfl) rfl rfl ?_
      refine g_putI 50 (gd rfl) rfl rfl rfl rfl ?_
      have hI47 := inv_sF (q := 65) (j := 2) hI42 rfl (in_w 0 31 h3 rfl)
      refine g_aload_n 51 (gd rfl) rfl rfl ?_
      refine g_lconst 0 52 (gd rfl) rfl rfl ?_
      refine g_putL 55 (gd rfl) rfl rfl rfl rfl ?_
      have hI52 := inv_sG (q := 65) (j := 3) (x := (Int64.ofInt 0)) hI47 rfl (l_rng (Int64.ofInt 0))
      refine g_aload_n 56 (gd rfl) rfl rfl ?_
      refine g_aload_n 57 (gd rfl) rfl rfl ?_
      refine g_callv (X := _) (As := [.ref (A 2)]) (r := []) (b := A 65) (q := 65) 60 (gd rfl) rfl rfl rfl rfl rfl (ww_o rfl) (Nat.le_of_ble_eq_true rfl) (Nat.zero_le _) (Nat.zero_le _) (k_76_65_2 (by first | exact dq1 hd rfl | exact dq0 hd rfl | exact dq2 hd rfl | exact dq3 hd rfl | omega) hI52 ) (fun e u h => h) (fun v u h => ?_)
      obtain ⟨s57, hI57, hF57, rfl, rfl⟩ := h
      show GG _ _ _ _ _ _ _ _ [] _ _ _
      refine g_iconst 0 61 (gd rfl) rfl rfl ?_
      refine g_istore 63 (gd rfl) rfl (Nat.le_of_ble_eq_true rfl) ?_
      exact gg_w (by first | exact Nat.le_of_ble_eq_true rfl | omega) (gg_f (gf_cons rfl (gf_cons rfl (gf_cons rfl (gf_cons rfl (gf_cons rfl gf_nil))))) (ct63 2147483648 s57 (Int32.ofInt 0) hI57 (fr_tr rfl (fr_sG rfl (fr_sF rfl (fr_sF rfl (fr_sF rfl fr_rf)))) hF57) (in_w 0 2147483647 (in_c 0 rfl) rfl) (m_in 2147483648 (in_w 0 2147483647 (in_c 0 rfl) rfl) rfl)))
    · skip
      refine g_aload_n 20 (gd rfl) rfl rfl ?_
      refine g_getI 23 (gd rfl) rfl rfl rfl (fun z20 e20 => ?_)
      have i20 := inv_F hI 0 31 rfl e20
      refine g_iload_n 24 (gd rfl) rfl rfl ?_
      refine g_cmp_ne 27 32 (gd rfl) rfl rfl (fun c24 => ?_) (fun c24 => ?_)
      · skip
        refine g_aload_n 33 (gd rfl) rfl rfl ?_
        refine g_aload_n 34 (gd rfl) rfl rfl ?_
        refine g_getI 37 (gd rfl) rfl rfl rfl (fun z34 e34 => ?_)
        have q34 : u_2_0 = z34 := (e_2_0).trans e34.symm
        subst q34
        refine g_putI 40 (gd rfl) rfl rfl rfl rfl ?_
        have hI37 := inv_sF (q := 65) (j := 0) hI rfl (in_w (-1) 4000 ro_2_0 rfl)
        refine g_aload_n 41 (gd rfl) rfl rfl ?_
        refine g_iload_n 42 (gd rfl) rfl rfl ?_
        refine g_putI 45 (gd rfl) rfl rfl rfl rfl ?_
        have hI42 := inv_sF (q := 65) (j := 1) hI37 rfl (in_w 0 31 h2 rfl)
        refine g_aload_n 46 (gd rfl) rfl rfl ?_
        refine g_iload_n 47 (gd rfl) rfl rfl ?_
        refine g_putI 50 (gd rfl) rfl rfl rfl rfl ?_
        have hI47 := inv_sF (q := 65) (j := 2) hI42 rfl (in_w 0 31 h3 rfl)
        refine g_aload_n 51 (gd rfl) rfl rfl ?_
        refine g_lconst 0 52 (gd rfl) rfl rfl ?_
        refine g_putL 55 (gd rfl) rfl rfl rfl rfl ?_
        have hI52 := inv_sG (q := 65) (j := 3) (x := (Int64.ofInt 0)) hI47 rfl (l_rng (Int64.ofInt 0))
        refine g_aload_n 56 (gd rfl) rfl rfl ?_
        refine g_aload_n 57 (gd rfl) rfl rfl ?_
        refine g_callv (X := _) (As := [.ref (A 2)]) (r := []) (b := A 65) (q := 65) 60 (gd rfl) rfl rfl rfl rfl rfl (ww_o rfl) (Nat.le_of_ble_eq_true rfl) (Nat.zero_le _) (Nat.zero_le _) (k_76_65_2 (by first | exact dq1 hd rfl | exact dq0 hd rfl | exact dq2 hd rfl | exact dq3 hd rfl | omega) hI52 ) (fun e u h => h) (fun v u h => ?_)
        obtain ⟨s57, hI57, hF57, rfl, rfl⟩ := h
        show GG _ _ _ _ _ _ _ _ [] _ _ _
        refine g_iconst 0 61 (gd rfl) rfl rfl ?_
        refine g_istore 63 (gd rfl) rfl (Nat.le_of_ble_eq_true rfl) ?_
        exact gg_w (by first | exact Nat.le_of_ble_eq_true rfl | omega) (gg_f (gf_cons rfl (gf_cons rfl (gf_cons rfl (gf_cons rfl (gf_cons rfl gf_nil))))) (ct63 2147483648 s57 (Int32.ofInt 0) hI57 (fr_tr rfl (fr_sG rfl (fr_sF rfl (fr_sF rfl (fr_sF rfl fr_rf)))) hF57) (in_w 0 2147483647 (in_c 0 rfl) rfl) (m_in 2147483648 (in_w 0 2147483647 (in_c 0 rfl) rfl) rfl)))
      · skip
        refine g_aload_n 28 (gd rfl) rfl rfl ?_
        refine g_getL 31 (gd rfl) rfl rfl rfl (fun z28 e28 => ?_)
        exact g_lreturn (gd rfl) rfl (hP _ _ ⟨s, hI, fr_rf, z28, rfl, rfl⟩)

def fm_75_65_32 : FM := ([66, 67, 68], [], [(65, 0), (65, 1), (65, 2), (65, 4)], [(65, 3)])
/-- GraphHouse$Flows.greatest -/
theorem k_75_65_32 {Z : AmZ} {A : Nat → Nat} {s : GS} {ex : va_W} {d : Nat} {X : AmX} {x2 : Int32} {x3 : Int32} (hd : 5 ≤ d) (hI : Inv s) (h2 : In x2 0 31) (h3 : In x3 0 31) : GC Z d 75 [.ref (A 65), .ref (A 32), .int x2, .int x3] (WW Z A s ++ ex) 0 0 (fun v u => ∃ t : GS, Inv t ∧ Fr fm_75_65_32 s t ∧ ∃ z : Int64, v = some (.long z) ∧ u = WW Z A t ++ ex) X := by
  intro post xp hP hX
  obtain ⟨u_32_0, e_32_0⟩ : ∃ w, w = s.2.2.1 32 0 := ⟨_, rfl⟩
  have ro_32_0 := inv_F hI 0 4000 rfl e_32_0
  have ct63 : ∀ (k63 : Nat) (sc63 : GS) (y63_4 : Int32), Inv sc63 → Fr fm_75_65_32 s sc63 → (In y63_4 0 2147483647) → 2147483647 - (y63_4).toInt < (k63 : Int) → GG Z (d - 1) 75 post (gx xp) (1 + k63 * 900) 63 (fun j => xlook j [(0, .ref (A 65)), (1, .ref (A 32)), (2, .int x2), (3, .int x3), (4, .int y63_4)]) [] (WW Z A sc63 ++ ex) 0 0 := by
    intro k63
    induction k63 with
    | zero => intro sc63 y63_4 hIc63 hFc63 j63_4 mm63; exact m_no mm63 j63_4 rfl
    | succ k63 ih63 =>
      intro sc63 y63_4 hIc63 hFc63 j63_4 mm63
      refine gg_w (M := 1 + k63 * 900 + 900) gws ?_
      refine g_iload 65 (gd rfl) rfl rfl ?_
      refine g_ldc 1000000 67 (gd rfl) rfl rfl ?_
      refine g_cmp_ge 70 101 (gd rfl) rfl rfl (fun c67 => ?_) (fun c67 => ?_)
      · skip
        have i67 := r_le2 1000000 2147483647 c67 (in_c 1000000 rfl) j63_4 rfl
        refine g_aload_n 102 (gd rfl) rfl rfl ?_
        refine g_getL 105 (gd rfl) rfl rfl rfl (fun z102 e102 => ?_)
        exact g_lreturn (gd rfl) rfl (hP _ _ ⟨sc63, hIc63, hFc63, z102, rfl, rfl⟩)
      · skip
        have i67 := r_lt1 0 999999 c67 j63_4 (in_c 1000000 rfl) rfl
        refine g_aload_n 71 (gd rfl) rfl rfl ?_
        refine g_iload_n 72 (gd rfl) rfl rfl ?_
        refine g_iload_n 73 (gd rfl) rfl rfl ?_
        refine g_callv (X := _) (As := [.int x2, .int x3]) (r := []) (b := A 65) (q := 65) 76 (gd rfl) rfl rfl rfl rfl rfl (ww_o rfl) (Nat.le_of_ble_eq_true rfl) (Nat.zero_le _) (Nat.zero_le _) (k_77_65 (by first | exact dq1 hd rfl | exact dq0 hd rfl | exact dq2 hd rfl | exact dq3 hd rfl | omega) hIc63 (in_w 0 31 h2 rfl) (in_w 0 31 h3 rfl)) (fun e u h => h) (fun v u h => ?_)
        obtain ⟨s73, hI73, hF73, z73, rfl, rfl, i73, p73, p73a⟩ := h
        show GG _ _ _ _ _ _ _ _ [.int z73] _ _ _
        refine g_if_eq 79 101 (gd rfl) rfl rfl (fun c76 => ?_) (fun c76 => ?_)
        · skip
          have i76 := z_eq 0 0 c76 i73 rfl
          refine g_aload_n 102 (gd rfl) rfl rfl ?_
          refine g_getL 105 (gd rfl) rfl rfl rfl (fun z102 e102 => ?_)
          exact g_lreturn (gd rfl) rfl (hP _ _ ⟨s73, hI73, (fr_tr rfl hFc63 hF73), z102, rfl, rfl⟩)
        · skip
          have i76 := z_ne 1 1 c76 i73 rfl
          refine g_aload_n 80 (gd rfl) rfl rfl ?_
          refine g_dup 81 (gd rfl) rfl rfl ?_
          refine g_getL 84 (gd rfl) rfl rfl rfl (fun z81 e81 => ?_)
          refine g_aload_n 85 (gd rfl) rfl rfl ?_
          refine g_iload_n 86 (gd rfl) rfl rfl ?_
          refine g_iload_n 87 (gd rfl) rfl rfl ?_
          have p87 : RV (s73.1 68) (s73.2.2.1 65 4) x2 := by exact p73
          have p87a : bt (s73.2.2.1 65 4) (x3).toNatClampNeg = true := by exact p73a c76
          refine g_callv (X := _) (As := [.int x2, .int x3]) (r := [.long z81, .ref (A 65)]) (b := A 65) (q := 65) 90 (gd rfl) rfl rfl rfl rfl rfl (ww_o rfl) (Nat.le_of_ble_eq_true rfl) (Nat.zero_le _) (Nat.zero_le _) (k_78_65 (by first | exact dq1 hd rfl | exact dq0 hd rfl | exact dq2 hd rfl | exact dq3 hd rfl | omega) hI73 (in_w 0 31 h2 rfl) (in_w 0 31 h3 rfl) rfl p87 p87a) (fun e u h => h) (fun v u h => ?_)
          obtain ⟨s87, hI87, hF87, z87, rfl, rfl, i87⟩ := h
          show GG _ _ _ _ _ _ _ _ [.int z87, .long z81, .ref (A 65)] _ _ _
          refine g_i2l 91 (gd rfl) rfl (fun z90 e90 => ?_)
          have i90 := l_i e90 i87
          refine g_ladd 92 (gd rfl) rfl (fun z91 e91 => ?_)
          refine g_putL 95 (gd rfl) rfl rfl rfl rfl ?_
          have hI92 := inv_sG (q := 65) (j := 3) (x := z91) hI87 rfl (l_rng z91)
          refine g_iinc 98 (gd rfl) rfl rfl (Nat.le_of_ble_eq_true rfl) (fun z95 e95 => ?_)
          have i95 := in_add 1 1000000 e95 i67 (in_c 1 rfl) rfl rfl
          refine g_goto 63 (gd rfl) rfl ?_
          exact gg_w (by first | exact Nat.le_add_right _ _ | exact gw2 | exact gw3 | exact gwe rfl | exact gwf rfl | exact gwg rfl | exact gwh rfl | omega) (gg_f (gf_cons rfl (gf_cons rfl (gf_cons rfl (gf_cons rfl (gf_cons rfl gf_nil))))) (ih63 (sG s87 65 3 z91) z95 hI92 (fr_sG rfl (fr_tr rfl (fr_tr rfl hFc63 hF73) hF87)) (in_w 0 2147483647 i95 rfl) (m_up mm63 (t_add e95 i67 (in_c 1 rfl) rfl) (in_w 1 1 (in_c 1 rfl) rfl))))
  refine g_enter2 (k := 75) (N := 1932735284101) (by first | exact dq1 hd rfl | exact dq0 hd rfl | exact dq2 hd rfl | exact dq3 hd rfl | omega) rfl (Nat.le_of_ble_eq_true rfl) ?_
  refine g_aload_n 1 (gd rfl) rfl rfl ?_
  refine g_getI 4 (gd rfl) rfl rfl rfl (fun z1 e1 => ?_)
  have i1 := inv_F hI (-1) 4000 rfl e1
  refine g_aload_n 5 (gd rfl) rfl rfl ?_
  refine g_getI 8 (gd rfl) rfl rfl rfl (fun z5 e5 => ?_)
  have q5 : u_32_0 = z5 := (e_32_0).trans e5.symm
  subst q5
  refine g_cmp_ne 11 32 (gd rfl) rfl rfl (fun c8 => ?_) (fun c8 => ?_)
  · skip
    refine g_aload_n 33 (gd rfl) rfl rfl ?_
    refine g_aload_n 34 (gd rfl) rfl rfl ?_
    refine g_getI 37 (gd rfl) rfl rfl rfl (fun z34 e34 => ?_)
    have q34 : u_32_0 = z34 := (e_32_0).trans e34.symm
    subst q34
    refine g_putI 40 (gd rfl) rfl rfl rfl rfl ?_
    have hI37 := inv_sF (q := 65) (j := 0) hI rfl (in_w (-1) 4000 ro_32_0 rfl)
    refine g_aload_n 41 (gd rfl) rfl rfl ?_
    refine g_iload_n 42 (gd rfl) rfl rfl ?_
    refine g_putI 45 (gd rfl) rfl rfl rfl rfl ?_
    have hI42 := inv_sF (q := 65) (j := 1) hI37 rfl (in_w 0 31 h2 rfl)
    refine g_aload_n 46 (gd rfl) rfl rfl ?_
    refine g_iload_n 47 (gd rfl) rfl rfl ?_
    refine g_putI 50 (gd rfl) rfl rfl rfl rfl ?_
    have hI47 := inv_sF (q := 65) (j := 2) hI42 rfl (in_w 0 31 h3 rfl)
    refine g_aload_n 51 (gd rfl) rfl rfl ?_
    refine g_lconst 0 52 (gd rfl) rfl rfl ?_
    refine g_putL 55 (gd rfl) rfl rfl rfl rfl ?_
    have hI52 := inv_sG (q := 65) (j := 3) (x := (Int64.ofInt 0)) hI47 rfl (l_rng (Int64.ofInt 0))
    refine g_aload_n 56 (gd rfl) rfl rfl ?_
    refine g_aload_n 57 (gd rfl) rfl rfl ?_
    refine g_callv (X := _) (As := [.ref (A 32)]) (r := []) (b := A 65) (q := 65) 60 (gd rfl) rfl rfl rfl rfl rfl (ww_o rfl) (Nat.le_of_ble_eq_true rfl) (Nat.zero_le _) (Nat.zero_le _) (k_76_65_32 (by first | exact dq1 hd rfl | exact dq0 hd rfl | exact dq2 hd rfl | exact dq3 hd rfl | omega) hI52 ) (fun e u h => h) (fun v u h => ?_)
    obtain ⟨s57, hI57, hF57, rfl, rfl⟩ := h
    show GG _ _ _ _ _ _ _ _ [] _ _ _
    refine g_iconst 0 61 (gd rfl) rfl rfl ?_
    refine g_istore 63 (gd rfl) rfl (Nat.le_of_ble_eq_true rfl) ?_
    exact gg_w (by first | exact Nat.le_of_ble_eq_true rfl | omega) (gg_f (gf_cons rfl (gf_cons rfl (gf_cons rfl (gf_cons rfl (gf_cons rfl gf_nil))))) (ct63 2147483648 s57 (Int32.ofInt 0) hI57 (fr_tr rfl (fr_sG rfl (fr_sF rfl (fr_sF rfl (fr_sF rfl fr_rf)))) hF57) (in_w 0 2147483647 (in_c 0 rfl) rfl) (m_in 2147483648 (in_w 0 2147483647 (in_c 0 rfl) rfl) rfl)))
  · skip
    have i8 := r_eq1 0 4000 c8 i1 ro_32_0 rfl
    refine g_aload_n 12 (gd rfl) rfl rfl ?_
    refine g_getI 15 (gd rfl) rfl rfl rfl (fun z12 e12 => ?_)
    have i12 := inv_F hI 0 31 rfl e12
    refine g_iload_n 16 (gd rfl) rfl rfl ?_
    refine g_cmp_ne 19 32 (gd rfl) rfl rfl (fun c16 => ?_) (fun c16 => ?_)
    · skip
      refine g_aload_n 33 (gd rfl) rfl rfl ?_
      refine g_aload_n 34 (gd rfl) rfl rfl ?_
      refine g_getI 37 (gd rfl) rfl rfl rfl (fun z34 e34 => ?_)
      have q34 : u_32_0 = z34 := (e_32_0).trans e34.symm
      subst q34
      refine g_putI 40 (gd rfl) rfl rfl rfl rfl ?_
      have hI37 := inv_sF (q := 65) (j := 0) hI rfl (in_w (-1) 4000 ro_32_0 rfl)
      refine g_aload_n 41 (gd rfl) rfl rfl ?_
      refine g_iload_n 42 (gd rfl) rfl rfl ?_
      refine g_putI 45 (gd rfl) rfl rfl rfl rfl ?_
      have hI42 := inv_sF (q := 65) (j := 1) hI37 rfl (in_w 0 31 h2 rfl)
      refine g_aload_n 46 (gd rfl) rfl rfl ?_
      refine g_iload_n 47 (gd rfl) rfl rfl ?_
      refine g_putI 50 (gd rfl) rfl rfl rfl rfl ?_
      have hI47 := inv_sF (q := 65) (j := 2) hI42 rfl (in_w 0 31 h3 rfl)
      refine g_aload_n 51 (gd rfl) rfl rfl ?_
      refine g_lconst 0 52 (gd rfl) rfl rfl ?_
      refine g_putL 55 (gd rfl) rfl rfl rfl rfl ?_
      have hI52 := inv_sG (q := 65) (j := 3) (x := (Int64.ofInt 0)) hI47 rfl (l_rng (Int64.ofInt 0))
      refine g_aload_n 56 (gd rfl) rfl rfl ?_
      refine g_aload_n 57 (gd rfl) rfl rfl ?_
      refine g_callv (X := _) (As := [.ref (A 32)]) (r := []) (b := A 65) (q := 65) 60 (gd rfl) rfl rfl rfl rfl rfl (ww_o rfl) (Nat.le_of_ble_eq_true rfl) (Nat.zero_le _) (Nat.zero_le _) (k_76_65_32 (by first | exact dq1 hd rfl | exact dq0 hd rfl | exact dq2 hd rfl | exact dq3 hd rfl | omega) hI52 ) (fun e u h => h) (fun v u h => ?_)
      obtain ⟨s57, hI57, hF57, rfl, rfl⟩ := h
      show GG _ _ _ _ _ _ _ _ [] _ _ _
      refine g_iconst 0 61 (gd rfl) rfl rfl ?_
      refine g_istore 63 (gd rfl) rfl (Nat.le_of_ble_eq_true rfl) ?_
      exact gg_w (by first | exact Nat.le_of_ble_eq_true rfl | omega) (gg_f (gf_cons rfl (gf_cons rfl (gf_cons rfl (gf_cons rfl (gf_cons rfl gf_nil))))) (ct63 2147483648 s57 (Int32.ofInt 0) hI57 (fr_tr rfl (fr_sG rfl (fr_sF rfl (fr_sF rfl (fr_sF rfl fr_rf)))) hF57) (in_w 0 2147483647 (in_c 0 rfl) rfl) (m_in 2147483648 (in_w 0 2147483647 (in_c 0 rfl) rfl) rfl)))
    · skip
      refine g_aload_n 20 (gd rfl) rfl rfl ?_
      refine g_getI 23 (gd rfl) rfl rfl rfl (fun z20 e20 => ?_)
      have i20 := inv_F hI 0 31 rfl e20
      refine g_iload_n 24 (gd rfl) rfl rfl ?_
      refine g_cmp_ne 27 32 (gd rfl) rfl rfl (fun c24 => ?_) (fun c24 => ?_)
      · skip
        refine g_aload_n 33 (gd rfl) rfl rfl ?_
        refine g_aload_n 34 (gd rfl) rfl rfl ?_
        refine g_getI 37 (gd rfl) rfl rfl rfl (fun z34 e34 => ?_)
        have q34 : u_32_0 = z34 := (e_32_0).trans e34.symm
        subst q34
        refine g_putI 40 (gd rfl) rfl rfl rfl rfl ?_
        have hI37 := inv_sF (q := 65) (j := 0) hI rfl (in_w (-1) 4000 ro_32_0 rfl)
        refine g_aload_n 41 (gd rfl) rfl rfl ?_
        refine g_iload_n 42 (gd rfl) rfl rfl ?_
        refine g_putI 45 (gd rfl) rfl rfl rfl rfl ?_
        have hI42 := inv_sF (q := 65) (j := 1) hI37 rfl (in_w 0 31 h2 rfl)
        refine g_aload_n 46 (gd rfl) rfl rfl ?_
        refine g_iload_n 47 (gd rfl) rfl rfl ?_
        refine g_putI 50 (gd rfl) rfl rfl rfl rfl ?_
        have hI47 := inv_sF (q := 65) (j := 2) hI42 rfl (in_w 0 31 h3 rfl)
        refine g_aload_n 51 (gd rfl) rfl rfl ?_
        refine g_lconst 0 52 (gd rfl) rfl rfl ?_
        refine g_putL 55 (gd rfl) rfl rfl rfl rfl ?_
        have hI52 := inv_sG (q := 65) (j := 3) (x := (Int64.ofInt 0)) hI47 rfl (l_rng (Int64.ofInt 0))
        refine g_aload_n 56 (gd rfl) rfl rfl ?_
        refine g_aload_n 57 (gd rfl) rfl rfl ?_
        refine g_callv (X := _) (As := [.ref (A 32)]) (r := []) (b := A 65) (q := 65) 60 (gd rfl) rfl rfl rfl rfl rfl (ww_o rfl) (Nat.le_of_ble_eq_true rfl) (Nat.zero_le _) (Nat.zero_le _) (k_76_65_32 (by first | exact dq1 hd rfl | exact dq0 hd rfl | exact dq2 hd rfl | exact dq3 hd rfl | omega) hI52 ) (fun e u h => h) (fun v u h => ?_)
        obtain ⟨s57, hI57, hF57, rfl, rfl⟩ := h
        show GG _ _ _ _ _ _ _ _ [] _ _ _
        refine g_iconst 0 61 (gd rfl) rfl rfl ?_
        refine g_istore 63 (gd rfl) rfl (Nat.le_of_ble_eq_true rfl) ?_
        exact gg_w (by first | exact Nat.le_of_ble_eq_true rfl | omega) (gg_f (gf_cons rfl (gf_cons rfl (gf_cons rfl (gf_cons rfl (gf_cons rfl gf_nil))))) (ct63 2147483648 s57 (Int32.ofInt 0) hI57 (fr_tr rfl (fr_sG rfl (fr_sF rfl (fr_sF rfl (fr_sF rfl fr_rf)))) hF57) (in_w 0 2147483647 (in_c 0 rfl) rfl) (m_in 2147483648 (in_w 0 2147483647 (in_c 0 rfl) rfl) rfl)))
      · skip
        refine g_aload_n 28 (gd rfl) rfl rfl ?_
        refine g_getL 31 (gd rfl) rfl rfl rfl (fun z28 e28 => ?_)
        exact g_lreturn (gd rfl) rfl (hP _ _ ⟨s, hI, fr_rf, z28, rfl, rfl⟩)

def fm_80_65_2 : FM := ([69, 70, 71, 72, 73, 74], [], [(65, 8)], [])
/-- GraphHouse$Flows.layArcs -/
theorem k_80_65_2 {Z : AmZ} {A : Nat → Nat} {s : GS} {ex : va_W} {d : Nat} {X : AmX}  (hd : 3 ≤ d) (hI : Inv s)  : GC Z d 80 [.ref (A 65), .ref (A 2)] (WW Z A s ++ ex) 0 0 (fun v u => ∃ t : GS, Inv t ∧ Fr fm_80_65_2 s t ∧ ∃ z : Int64, v = some (.long z) ∧ u = WW Z A t ++ ex) X := by
  intro post xp hP hX
  obtain ⟨u_2_3, e_2_3⟩ : ∃ w, w = s.2.2.1 2 3 := ⟨_, rfl⟩
  have ro_2_3 := inv_F hI 0 160 rfl e_2_3
  have ct18 : ∀ (k18 : Nat) (sc18 : GS) (y18_2 : Int64) (y18_4 : Int32), Inv sc18 → Fr fm_80_65_2 s sc18 → (In y18_4 0 160) → 160 - (y18_4).toInt < (k18 : Int) → GG Z (d - 1) 80 post (gx xp) (1 + k18 * 900) 18 (fun j => xlook j [(0, .ref (A 65)), (1, .ref (A 2)), (2, .long y18_2), (4, .int y18_4)]) [] (WW Z A sc18 ++ ex) 0 0 := by
    intro k18
    induction k18 with
    | zero => intro sc18 y18_2 y18_4 hIc18 hFc18 j18_4 mm18; exact m_no mm18 j18_4 rfl
    | succ k18 ih18 =>
      intro sc18 y18_2 y18_4 hIc18 hFc18 j18_4 mm18
      refine gg_w (M := 1 + k18 * 900 + 900) gws ?_
      refine g_iload 20 (gd rfl) rfl rfl ?_
      refine g_aload_n 21 (gd rfl) rfl rfl ?_
      refine g_getI 24 (gd rfl) rfl rfl rfl (fun z21 e21 => ?_)
      have q21 : u_2_3 = z21 := (fr_F e_2_3 hFc18 rfl).trans e21.symm
      subst q21
      refine g_cmp_ge 27 118 (gd rfl) rfl rfl (fun c24 => ?_) (fun c24 => ?_)
      · skip
        refine g_lload_n 119 (gd rfl) rfl rfl ?_
        exact g_lreturn (gd rfl) rfl (hP _ _ ⟨sc18, hIc18, hFc18, y18_2, rfl, rfl⟩)
      · skip
        have i24 := r_lt1 0 159 c24 j18_4 ro_2_3 rfl
        have i24a := r_lt2 1 160 c24 j18_4 ro_2_3 rfl
        refine g_aload_n 28 (gd rfl) rfl rfl ?_
        refine g_iload 30 (gd rfl) rfl rfl ?_
        refine g_callv (X := _) (As := [.int y18_4]) (r := []) (b := A 2) (q := 2) 33 (gd rfl) rfl rfl rfl rfl rfl (ww_o rfl) (Nat.le_of_ble_eq_true rfl) (mc := 0) (ms := 0) (Nat.zero_le _) (Nat.zero_le _) (P := fun v u => _) ?_ (fun e u h => h) (fun v u h => h)
        intro po30 xx30 hp30 hx30
        refine g_enter2 (k := 97) (N := 300) (by first | exact dq1 hd rfl | exact dq0 hd rfl | exact dq2 hd rfl | exact dq3 hd rfl | omega) rfl (Nat.le_of_ble_eq_true rfl) ?_
        refine g_aload_n 1 (gd rfl) rfl rfl ?_
        refine g_getA (q2 := 4) 4 (gd rfl) rfl rfl rfl rfl ?_
        refine g_iload_n 5 (gd rfl) rfl rfl ?_
        refine g_iaload 6 (gd rfl) rfl (n := 160) rfl (in_ix i24 rfl) (fun z30x5 e30x5 => ?_)
        have i30x5 := inv_I hIc18 (n := 160) (t := 0) (-1) 31 rfl (in_ix i24 rfl) rfl e30x5
        refine g_iconst (-1) 7 (gd rfl) rfl rfl ?_
        refine g_cmp_eq 10 29 (gd rfl) rfl rfl (fun c30x7 => ?_) (fun c30x7 => ?_)
        · skip
          have i30x7 := r_eq1 (-1) (-1) c30x7 i30x5 (in_c (-1) rfl) rfl
          refine g_iconst 0 30 (gd rfl) rfl rfl ?_
          refine g_ireturn (gd rfl) rfl (nb01 (in_w 0 1 (in_c 0 rfl) rfl)) (hp30 _ _ ?_)
          show GG _ _ _ _ _ _ _ _ [.int (Int32.ofInt 0)] _ _ _
          refine g_if_eq 36 71 (gd rfl) rfl rfl (fun c33 => ?_) (fun c33 => ?_)
          · skip
            refine g_aload_n 72 (gd rfl) rfl rfl ?_
            refine g_getA (q2 := 4) 75 (gd rfl) rfl rfl rfl rfl ?_
            refine g_iload 77 (gd rfl) rfl rfl ?_
            refine g_iaload 78 (gd rfl) rfl (n := 160) rfl (in_ix i24 rfl) (fun z77 e77 => ?_)
            have q77 : z30x5 = z77 := (e30x5).trans e77.symm
            subst q77
            refine g_iconst (-1) 79 (gd rfl) rfl rfl ?_
            refine g_cmp_eq 82 112 (gd rfl) rfl rfl (fun c79 => ?_) (fun c79 => ?_)
            · skip
              refine g_iinc 115 (gd rfl) rfl rfl (Nat.le_of_ble_eq_true rfl) (fun z112 e112 => ?_)
              have i112 := in_add 1 160 e112 i24 (in_c 1 rfl) rfl rfl
              refine g_goto 18 (gd rfl) rfl ?_
              exact gg_w (by first | exact Nat.le_add_right _ _ | exact gw2 | exact gw3 | exact gwe rfl | exact gwf rfl | exact gwg rfl | exact gwh rfl | omega) (gg_f (gf_cons rfl (gf_cons rfl (gf_cons rfl (gf_cons rfl gf_nil)))) (ih18 sc18 y18_2 z112 hIc18 hFc18 (in_w 0 160 i112 rfl) (m_up mm18 (t_add e112 i24 (in_c 1 rfl) rfl) (in_w 1 1 (in_c 1 rfl) rfl))))
            · skip
              exact n_ne c79 i30x7 (in_c (-1) rfl) rfl
          · skip
            exact zn_ne c33 (in_c 0 rfl) rfl
        · skip
          have i30x7 := r_ne1 0 31 c30x7 i30x5 (in_c (-1) rfl) rfl
          refine g_aload_n 11 (gd rfl) rfl rfl ?_
          refine g_getA (q2 := 4) 14 (gd rfl) rfl rfl rfl rfl ?_
          refine g_iload_n 15 (gd rfl) rfl rfl ?_
          refine g_iaload 16 (gd rfl) rfl (n := 160) rfl (in_ix i24 rfl) (fun z30x15 e30x15 => ?_)
          have q30x15 : z30x5 = z30x15 := (e30x5).trans e30x15.symm
          subst q30x15
          refine g_aload_n 17 (gd rfl) rfl rfl ?_
          refine g_getA (q2 := 5) 20 (gd rfl) rfl rfl rfl rfl ?_
          refine g_iload_n 21 (gd rfl) rfl rfl ?_
          refine g_iaload 22 (gd rfl) rfl (n := 160) rfl (in_ix i24 rfl) (fun z30x21 e30x21 => ?_)
          have i30x21 := inv_I hIc18 (n := 160) (t := 0) 0 31 rfl (in_ix i24 rfl) rfl e30x21
          refine g_cmp_eq 25 29 (gd rfl) rfl rfl (fun c30x22 => ?_) (fun c30x22 => ?_)
          · skip
            refine g_iconst 0 30 (gd rfl) rfl rfl ?_
            refine g_ireturn (gd rfl) rfl (nb01 (in_w 0 1 (in_c 0 rfl) rfl)) (hp30 _ _ ?_)
            show GG _ _ _ _ _ _ _ _ [.int (Int32.ofInt 0)] _ _ _
            refine g_if_eq 36 71 (gd rfl) rfl rfl (fun c33 => ?_) (fun c33 => ?_)
            · skip
              refine g_aload_n 72 (gd rfl) rfl rfl ?_
              refine g_getA (q2 := 4) 75 (gd rfl) rfl rfl rfl rfl ?_
              refine g_iload 77 (gd rfl) rfl rfl ?_
              refine g_iaload 78 (gd rfl) rfl (n := 160) rfl (in_ix i24 rfl) (fun z77 e77 => ?_)
              have q77 : z30x5 = z77 := (e30x5).trans e77.symm
              subst q77
              refine g_iconst (-1) 79 (gd rfl) rfl rfl ?_
              refine g_cmp_eq 82 112 (gd rfl) rfl rfl (fun c79 => ?_) (fun c79 => ?_)
              · skip
                exact absurd c79 c30x7
              · skip
                refine g_aload_n 83 (gd rfl) rfl rfl ?_
                refine g_getA (q2 := 6) 86 (gd rfl) rfl rfl rfl rfl ?_
                refine g_iload 88 (gd rfl) rfl rfl ?_
                refine g_iaload 89 (gd rfl) rfl (n := 160) rfl (in_ix i24 rfl) (fun z88 e88 => ?_)
                have i88 := inv_I hIc18 (n := 160) (t := 0) (-1000000) 1000000 rfl (in_ix i24 rfl) rfl e88
                refine g_if_ge 92 112 (gd rfl) rfl rfl (fun c89 => ?_) (fun c89 => ?_)
                · skip
                  have i89 := z_ge 0 1000000 c89 i88 rfl
                  refine g_iinc 115 (gd rfl) rfl rfl (Nat.le_of_ble_eq_true rfl) (fun z112 e112 => ?_)
                  have i112 := in_add 1 160 e112 i24 (in_c 1 rfl) rfl rfl
                  refine g_goto 18 (gd rfl) rfl ?_
                  exact gg_w (by first | exact Nat.le_add_right _ _ | exact gw2 | exact gw3 | exact gwe rfl | exact gwf rfl | exact gwg rfl | exact gwh rfl | omega) (gg_f (gf_cons rfl (gf_cons rfl (gf_cons rfl (gf_cons rfl gf_nil)))) (ih18 sc18 y18_2 z112 hIc18 hFc18 (in_w 0 160 i112 rfl) (m_up mm18 (t_add e112 i24 (in_c 1 rfl) rfl) (in_w 1 1 (in_c 1 rfl) rfl))))
                · skip
                  have i89 := z_lt (-1000000) (-1) c89 i88 rfl
                  refine g_lload_n 93 (gd rfl) rfl rfl ?_
                  refine g_aload_n 94 (gd rfl) rfl rfl ?_
                  refine g_getA (q2 := 6) 97 (gd rfl) rfl rfl rfl rfl ?_
                  refine g_iload 99 (gd rfl) rfl rfl ?_
                  refine g_iaload 100 (gd rfl) rfl (n := 160) rfl (in_ix i24 rfl) (fun z99 e99 => ?_)
                  have q99 : z88 = z99 := (e88).trans e99.symm
                  subst q99
                  refine g_i2l 101 (gd rfl) rfl (fun z100 e100 => ?_)
                  have i100 := l_i e100 i89
                  refine g_aload_n 102 (gd rfl) rfl rfl ?_
                  refine g_getA (q2 := 7) 105 (gd rfl) rfl rfl rfl rfl ?_
                  refine g_iload 107 (gd rfl) rfl rfl ?_
                  refine g_iaload 108 (gd rfl) rfl (n := 160) rfl (in_ix i24 rfl) (fun z107 e107 => ?_)
                  have i107 := inv_I hIc18 (n := 160) (t := 0) 0 1000000 rfl (in_ix i24 rfl) rfl e107
                  refine g_i2l 109 (gd rfl) rfl (fun z108 e108 => ?_)
                  have i108 := l_i e108 i107
                  refine g_lmul 110 (gd rfl) rfl (fun z109 e109 => ?_)
                  refine g_ladd 111 (gd rfl) rfl (fun z110 e110 => ?_)
                  refine g_lstore_n 112 (gd rfl) rfl (Nat.le_of_ble_eq_true rfl) ?_
                  refine g_iinc 115 (gd rfl) rfl rfl (Nat.le_of_ble_eq_true rfl) (fun z112 e112 => ?_)
                  have i112 := in_add 1 160 e112 i24 (in_c 1 rfl) rfl rfl
                  refine g_goto 18 (gd rfl) rfl ?_
                  exact gg_w (by first | exact Nat.le_add_right _ _ | exact gw2 | exact gw3 | exact gwe rfl | exact gwf rfl | exact gwg rfl | exact gwh rfl | omega) (gg_f (gf_cons rfl (gf_cons rfl (gf_cons rfl (gf_cons rfl gf_nil)))) (ih18 sc18 z110 z112 hIc18 hFc18 (in_w 0 160 i112 rfl) (m_up mm18 (t_add e112 i24 (in_c 1 rfl) rfl) (in_w 1 1 (in_c 1 rfl) rfl))))
            · skip
              exact zn_ne c33 (in_c 0 rfl) rfl
          · skip
            refine g_iconst 1 26 (gd rfl) rfl rfl ?_
            refine g_goto 30 (gd rfl) rfl ?_
            refine g_ireturn (gd rfl) rfl (nb01 (in_w 0 1 (in_c 1 rfl) rfl)) (hp30 _ _ ?_)
            show GG _ _ _ _ _ _ _ _ [.int (Int32.ofInt 1)] _ _ _
            refine g_if_eq 36 71 (gd rfl) rfl rfl (fun c33 => ?_) (fun c33 => ?_)
            · skip
              exact zn_eq c33 (in_c 1 rfl) rfl
            · skip
              refine g_aload_n 37 (gd rfl) rfl rfl ?_
              refine g_aload_n 38 (gd rfl) rfl rfl ?_
              refine g_getA (q2 := 4) 41 (gd rfl) rfl rfl rfl rfl ?_
              refine g_iload 43 (gd rfl) rfl rfl ?_
              refine g_iaload 44 (gd rfl) rfl (n := 160) rfl (in_ix i24 rfl) (fun z43 e43 => ?_)
              have q43 : z30x5 = z43 := (e30x5).trans e43.symm
              subst q43
              refine g_aload_n 45 (gd rfl) rfl rfl ?_
              refine g_getA (q2 := 5) 48 (gd rfl) rfl rfl rfl rfl ?_
              refine g_iload 50 (gd rfl) rfl rfl ?_
              refine g_iaload 51 (gd rfl) rfl (n := 160) rfl (in_ix i24 rfl) (fun z50 e50 => ?_)
              have q50 : z30x21 = z50 := (e30x21).trans e50.symm
              subst q50
              refine g_aload_n 52 (gd rfl) rfl rfl ?_
              refine g_getA (q2 := 6) 55 (gd rfl) rfl rfl rfl rfl ?_
              refine g_iload 57 (gd rfl) rfl rfl ?_
              refine g_iaload 58 (gd rfl) rfl (n := 160) rfl (in_ix i24 rfl) (fun z57 e57 => ?_)
              have i57 := inv_I hIc18 (n := 160) (t := 0) (-1000000) 1000000 rfl (in_ix i24 rfl) rfl e57
              refine g_aload_n 59 (gd rfl) rfl rfl ?_
              refine g_getA (q2 := 7) 62 (gd rfl) rfl rfl rfl rfl ?_
              refine g_iload 64 (gd rfl) rfl rfl ?_
              refine g_iaload 65 (gd rfl) rfl (n := 160) rfl (in_ix i24 rfl) (fun z64 e64 => ?_)
              have i64 := inv_I hIc18 (n := 160) (t := 0) 0 1000000 rfl (in_ix i24 rfl) rfl e64
              refine g_callv (X := _) (As := [.int z30x5, .int z30x21, .int z57, .int z64]) (r := []) (b := A 65) (q := 65) 68 (gd rfl) rfl rfl rfl rfl rfl (ww_o rfl) (Nat.le_of_ble_eq_true rfl) (Nat.zero_le _) (Nat.zero_le _) (k_84_65 (by first | exact dq1 hd rfl | exact dq0 hd rfl | exact dq2 hd rfl | exact dq3 hd rfl | omega) hIc18 (in_w 0 31 i30x7 rfl) (in_w 0 31 i30x21 rfl) (in_w (-1000000) 1000000 i57 rfl) (in_w 0 1000000 i64 rfl)) (fun e u h => h) (fun v u h => ?_)
              obtain ⟨s65, hI65, hF65, rfl, rfl⟩ := h
              show GG _ _ _ _ _ _ _ _ [] _ _ _
              refine g_goto 112 (gd rfl) rfl ?_
              refine g_iinc 115 (gd rfl) rfl rfl (Nat.le_of_ble_eq_true rfl) (fun z112 e112 => ?_)
              have i112 := in_add 1 160 e112 i24 (in_c 1 rfl) rfl rfl
              refine g_goto 18 (gd rfl) rfl ?_
              exact gg_w (by first | exact Nat.le_add_right _ _ | exact gw2 | exact gw3 | exact gwe rfl | exact gwf rfl | exact gwg rfl | exact gwh rfl | omega) (gg_f (gf_cons rfl (gf_cons rfl (gf_cons rfl (gf_cons rfl gf_nil)))) (ih18 s65 y18_2 z112 hI65 (fr_tr rfl hFc18 hF65) (in_w 0 160 i112 rfl) (m_up mm18 (t_add e112 i24 (in_c 1 rfl) rfl) (in_w 1 1 (in_c 1 rfl) rfl))))
  refine g_enter2 (k := 80) (N := 145801) (by first | exact dq1 hd rfl | exact dq0 hd rfl | exact dq2 hd rfl | exact dq3 hd rfl | omega) rfl (Nat.le_of_ble_eq_true rfl) ?_
  refine g_aload_n 1 (gd rfl) rfl rfl ?_
  refine g_getA (q2 := 74) 4 (gd rfl) rfl rfl rfl rfl ?_
  refine g_iconst 0 5 (gd rfl) rfl rfl ?_
  refine g_calls (As := [.ref (A 74), .int (Int32.ofInt 0)]) (r := []) 8 (gd rfl) rfl rfl rfl rfl rfl (Nat.le_of_ble_eq_true rfl) (Nat.zero_le _) (Nat.zero_le _) (k_fillI 74 (by first | exact dq1 hd rfl | exact dq0 hd rfl | exact dq2 hd rfl | exact dq3 hd rfl | omega) hI (in_c 0 rfl) (n := 32) rfl rfl rfl rfl) (fun v u h => ?_)
  obtain ⟨s5, hI5, hF5, rfl, rfl, fl5⟩ := h
  show GG _ _ _ _ _ _ _ _ [] _ _ _
  refine g_aload_n 9 (gd rfl) rfl rfl ?_
  refine g_iconst 0 10 (gd rfl) rfl rfl ?_
  refine g_putI 13 (gd rfl) rfl rfl rfl rfl ?_
  have hI10 := inv_sF (q := 65) (j := 8) hI5 rfl (in_w 0 160 (in_c 0 rfl) rfl)
  refine g_lconst 0 14 (gd rfl) rfl rfl ?_
  refine g_lstore_n 15 (gd rfl) rfl (Nat.le_of_ble_eq_true rfl) ?_
  refine g_iconst 0 16 (gd rfl) rfl rfl ?_
  refine g_istore 18 (gd rfl) rfl (Nat.le_of_ble_eq_true rfl) ?_
  exact gg_w (by first | exact Nat.le_of_ble_eq_true rfl | omega) (gg_f (gf_cons rfl (gf_cons rfl (gf_cons rfl (gf_cons rfl gf_nil)))) (ct18 161 (sF s5 65 8 (Int32.ofInt 0)) (Int64.ofInt 0) (Int32.ofInt 0) hI10 (fr_sF rfl (fr_tr rfl fr_rf hF5)) (in_w 0 160 (in_c 0 rfl) rfl) (m_in 161 (in_w 0 160 (in_c 0 rfl) rfl) rfl)))

def fm_80_65_32 : FM := ([69, 70, 71, 72, 73, 74], [], [(65, 8)], [])
/-- GraphHouse$Flows.layArcs -/
theorem k_80_65_32 {Z : AmZ} {A : Nat → Nat} {s : GS} {ex : va_W} {d : Nat} {X : AmX}  (hd : 3 ≤ d) (hI : Inv s)  : GC Z d 80 [.ref (A 65), .ref (A 32)] (WW Z A s ++ ex) 0 0 (fun v u => ∃ t : GS, Inv t ∧ Fr fm_80_65_32 s t ∧ ∃ z : Int64, v = some (.long z) ∧ u = WW Z A t ++ ex) X := by
  intro post xp hP hX
  obtain ⟨u_32_3, e_32_3⟩ : ∃ w, w = s.2.2.1 32 3 := ⟨_, rfl⟩
  have ro_32_3 := inv_F hI 0 160 rfl e_32_3
  have ct18 : ∀ (k18 : Nat) (sc18 : GS) (y18_2 : Int64) (y18_4 : Int32), Inv sc18 → Fr fm_80_65_32 s sc18 → (In y18_4 0 160) → 160 - (y18_4).toInt < (k18 : Int) → GG Z (d - 1) 80 post (gx xp) (1 + k18 * 900) 18 (fun j => xlook j [(0, .ref (A 65)), (1, .ref (A 32)), (2, .long y18_2), (4, .int y18_4)]) [] (WW Z A sc18 ++ ex) 0 0 := by
    intro k18
    induction k18 with
    | zero => intro sc18 y18_2 y18_4 hIc18 hFc18 j18_4 mm18; exact m_no mm18 j18_4 rfl
    | succ k18 ih18 =>
      intro sc18 y18_2 y18_4 hIc18 hFc18 j18_4 mm18
      refine gg_w (M := 1 + k18 * 900 + 900) gws ?_
      refine g_iload 20 (gd rfl) rfl rfl ?_
      refine g_aload_n 21 (gd rfl) rfl rfl ?_
      refine g_getI 24 (gd rfl) rfl rfl rfl (fun z21 e21 => ?_)
      have q21 : u_32_3 = z21 := (fr_F e_32_3 hFc18 rfl).trans e21.symm
      subst q21
      refine g_cmp_ge 27 118 (gd rfl) rfl rfl (fun c24 => ?_) (fun c24 => ?_)
      · skip
        refine g_lload_n 119 (gd rfl) rfl rfl ?_
        exact g_lreturn (gd rfl) rfl (hP _ _ ⟨sc18, hIc18, hFc18, y18_2, rfl, rfl⟩)
      · skip
        have i24 := r_lt1 0 159 c24 j18_4 ro_32_3 rfl
        have i24a := r_lt2 1 160 c24 j18_4 ro_32_3 rfl
        refine g_aload_n 28 (gd rfl) rfl rfl ?_
        refine g_iload 30 (gd rfl) rfl rfl ?_
        refine g_callv (X := _) (As := [.int y18_4]) (r := []) (b := A 32) (q := 32) 33 (gd rfl) rfl rfl rfl rfl rfl (ww_o rfl) (Nat.le_of_ble_eq_true rfl) (mc := 0) (ms := 0) (Nat.zero_le _) (Nat.zero_le _) (P := fun v u => _) ?_ (fun e u h => h) (fun v u h => h)
        intro po30 xx30 hp30 hx30
        refine g_enter2 (k := 97) (N := 300) (by first | exact dq1 hd rfl | exact dq0 hd rfl | exact dq2 hd rfl | exact dq3 hd rfl | omega) rfl (Nat.le_of_ble_eq_true rfl) ?_
        refine g_aload_n 1 (gd rfl) rfl rfl ?_
        refine g_getA (q2 := 34) 4 (gd rfl) rfl rfl rfl rfl ?_
        refine g_iload_n 5 (gd rfl) rfl rfl ?_
        refine g_iaload 6 (gd rfl) rfl (n := 160) rfl (in_ix i24 rfl) (fun z30x5 e30x5 => ?_)
        have i30x5 := inv_I hIc18 (n := 160) (t := 0) (-1) 31 rfl (in_ix i24 rfl) rfl e30x5
        refine g_iconst (-1) 7 (gd rfl) rfl rfl ?_
        refine g_cmp_eq 10 29 (gd rfl) rfl rfl (fun c30x7 => ?_) (fun c30x7 => ?_)
        · skip
          have i30x7 := r_eq1 (-1) (-1) c30x7 i30x5 (in_c (-1) rfl) rfl
          refine g_iconst 0 30 (gd rfl) rfl rfl ?_
          refine g_ireturn (gd rfl) rfl (nb01 (in_w 0 1 (in_c 0 rfl) rfl)) (hp30 _ _ ?_)
          show GG _ _ _ _ _ _ _ _ [.int (Int32.ofInt 0)] _ _ _
          refine g_if_eq 36 71 (gd rfl) rfl rfl (fun c33 => ?_) (fun c33 => ?_)
          · skip
            refine g_aload_n 72 (gd rfl) rfl rfl ?_
            refine g_getA (q2 := 34) 75 (gd rfl) rfl rfl rfl rfl ?_
            refine g_iload 77 (gd rfl) rfl rfl ?_
            refine g_iaload 78 (gd rfl) rfl (n := 160) rfl (in_ix i24 rfl) (fun z77 e77 => ?_)
            have q77 : z30x5 = z77 := (e30x5).trans e77.symm
            subst q77
            refine g_iconst (-1) 79 (gd rfl) rfl rfl ?_
            refine g_cmp_eq 82 112 (gd rfl) rfl rfl (fun c79 => ?_) (fun c79 => ?_)
            · skip
              refine g_iinc 115 (gd rfl) rfl rfl (Nat.le_of_ble_eq_true rfl) (fun z112 e112 => ?_)
              have i112 := in_add 1 160 e112 i24 (in_c 1 rfl) rfl rfl
              refine g_goto 18 (gd rfl) rfl ?_
              exact gg_w (by first | exact Nat.le_add_right _ _ | exact gw2 | exact gw3 | exact gwe rfl | exact gwf rfl | exact gwg rfl | exact gwh rfl | omega) (gg_f (gf_cons rfl (gf_cons rfl (gf_cons rfl (gf_cons rfl gf_nil)))) (ih18 sc18 y18_2 z112 hIc18 hFc18 (in_w 0 160 i112 rfl) (m_up mm18 (t_add e112 i24 (in_c 1 rfl) rfl) (in_w 1 1 (in_c 1 rfl) rfl))))
            · skip
              exact n_ne c79 i30x7 (in_c (-1) rfl) rfl
          · skip
            exact zn_ne c33 (in_c 0 rfl) rfl
        · skip
          have i30x7 := r_ne1 0 31 c30x7 i30x5 (in_c (-1) rfl) rfl
          refine g_aload_n 11 (gd rfl) rfl rfl ?_
          refine g_getA (q2 := 34) 14 (gd rfl) rfl rfl rfl rfl ?_
          refine g_iload_n 15 (gd rfl) rfl rfl ?_
          refine g_iaload 16 (gd rfl) rfl (n := 160) rfl (in_ix i24 rfl) (fun z30x15 e30x15 => ?_)
          have q30x15 : z30x5 = z30x15 := (e30x5).trans e30x15.symm
          subst q30x15
          refine g_aload_n 17 (gd rfl) rfl rfl ?_
          refine g_getA (q2 := 35) 20 (gd rfl) rfl rfl rfl rfl ?_
          refine g_iload_n 21 (gd rfl) rfl rfl ?_
          refine g_iaload 22 (gd rfl) rfl (n := 160) rfl (in_ix i24 rfl) (fun z30x21 e30x21 => ?_)
          have i30x21 := inv_I hIc18 (n := 160) (t := 0) 0 31 rfl (in_ix i24 rfl) rfl e30x21
          refine g_cmp_eq 25 29 (gd rfl) rfl rfl (fun c30x22 => ?_) (fun c30x22 => ?_)
          · skip
            refine g_iconst 0 30 (gd rfl) rfl rfl ?_
            refine g_ireturn (gd rfl) rfl (nb01 (in_w 0 1 (in_c 0 rfl) rfl)) (hp30 _ _ ?_)
            show GG _ _ _ _ _ _ _ _ [.int (Int32.ofInt 0)] _ _ _
            refine g_if_eq 36 71 (gd rfl) rfl rfl (fun c33 => ?_) (fun c33 => ?_)
            · skip
              refine g_aload_n 72 (gd rfl) rfl rfl ?_
              refine g_getA (q2 := 34) 75 (gd rfl) rfl rfl rfl rfl ?_
              refine g_iload 77 (gd rfl) rfl rfl ?_
              refine g_iaload 78 (gd rfl) rfl (n := 160) rfl (in_ix i24 rfl) (fun z77 e77 => ?_)
              have q77 : z30x5 = z77 := (e30x5).trans e77.symm
              subst q77
              refine g_iconst (-1) 79 (gd rfl) rfl rfl ?_
              refine g_cmp_eq 82 112 (gd rfl) rfl rfl (fun c79 => ?_) (fun c79 => ?_)
              · skip
                exact absurd c79 c30x7
              · skip
                refine g_aload_n 83 (gd rfl) rfl rfl ?_
                refine g_getA (q2 := 36) 86 (gd rfl) rfl rfl rfl rfl ?_
                refine g_iload 88 (gd rfl) rfl rfl ?_
                refine g_iaload 89 (gd rfl) rfl (n := 160) rfl (in_ix i24 rfl) (fun z88 e88 => ?_)
                have i88 := inv_I hIc18 (n := 160) (t := 0) (-1000000) 1000000 rfl (in_ix i24 rfl) rfl e88
                refine g_if_ge 92 112 (gd rfl) rfl rfl (fun c89 => ?_) (fun c89 => ?_)
                · skip
                  have i89 := z_ge 0 1000000 c89 i88 rfl
                  refine g_iinc 115 (gd rfl) rfl rfl (Nat.le_of_ble_eq_true rfl) (fun z112 e112 => ?_)
                  have i112 := in_add 1 160 e112 i24 (in_c 1 rfl) rfl rfl
                  refine g_goto 18 (gd rfl) rfl ?_
                  exact gg_w (by first | exact Nat.le_add_right _ _ | exact gw2 | exact gw3 | exact gwe rfl | exact gwf rfl | exact gwg rfl | exact gwh rfl | omega) (gg_f (gf_cons rfl (gf_cons rfl (gf_cons rfl (gf_cons rfl gf_nil)))) (ih18 sc18 y18_2 z112 hIc18 hFc18 (in_w 0 160 i112 rfl) (m_up mm18 (t_add e112 i24 (in_c 1 rfl) rfl) (in_w 1 1 (in_c 1 rfl) rfl))))
                · skip
                  have i89 := z_lt (-1000000) (-1) c89 i88 rfl
                  refine g_lload_n 93 (gd rfl) rfl rfl ?_
                  refine g_aload_n 94 (gd rfl) rfl rfl ?_
                  refine g_getA (q2 := 36) 97 (gd rfl) rfl rfl rfl rfl ?_
                  refine g_iload 99 (gd rfl) rfl rfl ?_
                  refine g_iaload 100 (gd rfl) rfl (n := 160) rfl (in_ix i24 rfl) (fun z99 e99 => ?_)
                  have q99 : z88 = z99 := (e88).trans e99.symm
                  subst q99
                  refine g_i2l 101 (gd rfl) rfl (fun z100 e100 => ?_)
                  have i100 := l_i e100 i89
                  refine g_aload_n 102 (gd rfl) rfl rfl ?_
                  refine g_getA (q2 := 37) 105 (gd rfl) rfl rfl rfl rfl ?_
                  refine g_iload 107 (gd rfl) rfl rfl ?_
                  refine g_iaload 108 (gd rfl) rfl (n := 160) rfl (in_ix i24 rfl) (fun z107 e107 => ?_)
                  have i107 := inv_I hIc18 (n := 160) (t := 0) 0 1000000 rfl (in_ix i24 rfl) rfl e107
                  refine g_i2l 109 (gd rfl) rfl (fun z108 e108 => ?_)
                  have i108 := l_i e108 i107
                  refine g_lmul 110 (gd rfl) rfl (fun z109 e109 => ?_)
                  refine g_ladd 111 (gd rfl) rfl (fun z110 e110 => ?_)
                  refine g_lstore_n 112 (gd rfl) rfl (Nat.le_of_ble_eq_true rfl) ?_
                  refine g_iinc 115 (gd rfl) rfl rfl (Nat.le_of_ble_eq_true rfl) (fun z112 e112 => ?_)
                  have i112 := in_add 1 160 e112 i24 (in_c 1 rfl) rfl rfl
                  refine g_goto 18 (gd rfl) rfl ?_
                  exact gg_w (by first | exact Nat.le_add_right _ _ | exact gw2 | exact gw3 | exact gwe rfl | exact gwf rfl | exact gwg rfl | exact gwh rfl | omega) (gg_f (gf_cons rfl (gf_cons rfl (gf_cons rfl (gf_cons rfl gf_nil)))) (ih18 sc18 z110 z112 hIc18 hFc18 (in_w 0 160 i112 rfl) (m_up mm18 (t_add e112 i24 (in_c 1 rfl) rfl) (in_w 1 1 (in_c 1 rfl) rfl))))
            · skip
              exact zn_ne c33 (in_c 0 rfl) rfl
          · skip
            refine g_iconst 1 26 (gd rfl) rfl rfl ?_
            refine g_goto 30 (gd rfl) rfl ?_
            refine g_ireturn (gd rfl) rfl (nb01 (in_w 0 1 (in_c 1 rfl) rfl)) (hp30 _ _ ?_)
            show GG _ _ _ _ _ _ _ _ [.int (Int32.ofInt 1)] _ _ _
            refine g_if_eq 36 71 (gd rfl) rfl rfl (fun c33 => ?_) (fun c33 => ?_)
            · skip
              exact zn_eq c33 (in_c 1 rfl) rfl
            · skip
              refine g_aload_n 37 (gd rfl) rfl rfl ?_
              refine g_aload_n 38 (gd rfl) rfl rfl ?_
              refine g_getA (q2 := 34) 41 (gd rfl) rfl rfl rfl rfl ?_
              refine g_iload 43 (gd rfl) rfl rfl ?_
              refine g_iaload 44 (gd rfl) rfl (n := 160) rfl (in_ix i24 rfl) (fun z43 e43 => ?_)
              have q43 : z30x5 = z43 := (e30x5).trans e43.symm
              subst q43
              refine g_aload_n 45 (gd rfl) rfl rfl ?_
              refine g_getA (q2 := 35) 48 (gd rfl) rfl rfl rfl rfl ?_
              refine g_iload 50 (gd rfl) rfl rfl ?_
              refine g_iaload 51 (gd rfl) rfl (n := 160) rfl (in_ix i24 rfl) (fun z50 e50 => ?_)
              have q50 : z30x21 = z50 := (e30x21).trans e50.symm
              subst q50
              refine g_aload_n 52 (gd rfl) rfl rfl ?_
              refine g_getA (q2 := 36) 55 (gd rfl) rfl rfl rfl rfl ?_
              refine g_iload 57 (gd rfl) rfl rfl ?_
              refine g_iaload 58 (gd rfl) rfl (n := 160) rfl (in_ix i24 rfl) (fun z57 e57 => ?_)
              have i57 := inv_I hIc18 (n := 160) (t := 0) (-1000000) 1000000 rfl (in_ix i24 rfl) rfl e57
              refine g_aload_n 59 (gd rfl) rfl rfl ?_
              refine g_getA (q2 := 37) 62 (gd rfl) rfl rfl rfl rfl ?_
              refine g_iload 64 (gd rfl) rfl rfl ?_
              refine g_iaload 65 (gd rfl) rfl (n := 160) rfl (in_ix i24 rfl) (fun z64 e64 => ?_)
              have i64 := inv_I hIc18 (n := 160) (t := 0) 0 1000000 rfl (in_ix i24 rfl) rfl e64
              refine g_callv (X := _) (As := [.int z30x5, .int z30x21, .int z57, .int z64]) (r := []) (b := A 65) (q := 65) 68 (gd rfl) rfl rfl rfl rfl rfl (ww_o rfl) (Nat.le_of_ble_eq_true rfl) (Nat.zero_le _) (Nat.zero_le _) (k_84_65 (by first | exact dq1 hd rfl | exact dq0 hd rfl | exact dq2 hd rfl | exact dq3 hd rfl | omega) hIc18 (in_w 0 31 i30x7 rfl) (in_w 0 31 i30x21 rfl) (in_w (-1000000) 1000000 i57 rfl) (in_w 0 1000000 i64 rfl)) (fun e u h => h) (fun v u h => ?_)
              obtain ⟨s65, hI65, hF65, rfl, rfl⟩ := h
              show GG _ _ _ _ _ _ _ _ [] _ _ _
              refine g_goto 112 (gd rfl) rfl ?_
              refine g_iinc 115 (gd rfl) rfl rfl (Nat.le_of_ble_eq_true rfl) (fun z112 e112 => ?_)
              have i112 := in_add 1 160 e112 i24 (in_c 1 rfl) rfl rfl
              refine g_goto 18 (gd rfl) rfl ?_
              exact gg_w (by first | exact Nat.le_add_right _ _ | exact gw2 | exact gw3 | exact gwe rfl | exact gwf rfl | exact gwg rfl | exact gwh rfl | omega) (gg_f (gf_cons rfl (gf_cons rfl (gf_cons rfl (gf_cons rfl gf_nil)))) (ih18 s65 y18_2 z112 hI65 (fr_tr rfl hFc18 hF65) (in_w 0 160 i112 rfl) (m_up mm18 (t_add e112 i24 (in_c 1 rfl) rfl) (in_w 1 1 (in_c 1 rfl) rfl))))
  refine g_enter2 (k := 80) (N := 145801) (by first | exact dq1 hd rfl | exact dq0 hd rfl | exact dq2 hd rfl | exact dq3 hd rfl | omega) rfl (Nat.le_of_ble_eq_true rfl) ?_
  refine g_aload_n 1 (gd rfl) rfl rfl ?_
  refine g_getA (q2 := 74) 4 (gd rfl) rfl rfl rfl rfl ?_
  refine g_iconst 0 5 (gd rfl) rfl rfl ?_
  refine g_calls (As := [.ref (A 74), .int (Int32.ofInt 0)]) (r := []) 8 (gd rfl) rfl rfl rfl rfl rfl (Nat.le_of_ble_eq_true rfl) (Nat.zero_le _) (Nat.zero_le _) (k_fillI 74 (by first | exact dq1 hd rfl | exact dq0 hd rfl | exact dq2 hd rfl | exact dq3 hd rfl | omega) hI (in_c 0 rfl) (n := 32) rfl rfl rfl rfl) (fun v u h => ?_)
  obtain ⟨s5, hI5, hF5, rfl, rfl, fl5⟩ := h
  show GG _ _ _ _ _ _ _ _ [] _ _ _
  refine g_aload_n 9 (gd rfl) rfl rfl ?_
  refine g_iconst 0 10 (gd rfl) rfl rfl ?_
  refine g_putI 13 (gd rfl) rfl rfl rfl rfl ?_
  have hI10 := inv_sF (q := 65) (j := 8) hI5 rfl (in_w 0 160 (in_c 0 rfl) rfl)
  refine g_lconst 0 14 (gd rfl) rfl rfl ?_
  refine g_lstore_n 15 (gd rfl) rfl (Nat.le_of_ble_eq_true rfl) ?_
  refine g_iconst 0 16 (gd rfl) rfl rfl ?_
  refine g_istore 18 (gd rfl) rfl (Nat.le_of_ble_eq_true rfl) ?_
  exact gg_w (by first | exact Nat.le_of_ble_eq_true rfl | omega) (gg_f (gf_cons rfl (gf_cons rfl (gf_cons rfl (gf_cons rfl gf_nil)))) (ct18 161 (sF s5 65 8 (Int32.ofInt 0)) (Int64.ofInt 0) (Int32.ofInt 0) hI10 (fr_sF rfl (fr_tr rfl fr_rf hF5)) (in_w 0 160 (in_c 0 rfl) rfl) (m_in 161 (in_w 0 160 (in_c 0 rfl) rfl) rfl)))

def fm_86_65 : FM := ([68], [75], [], [])
/-- GraphHouse$Flows.relaxAll -/
theorem k_86_65 {Z : AmZ} {A : Nat → Nat} {s : GS} {ex : va_W} {d : Nat} {X : AmX} {x1 : Int32} {x2 : Int32} (hd : 2 ≤ d) (hI : Inv s) (h1 : In x1 0 32) (h2 : In x2 1 1048576) : GC Z d 86 [.ref (A 65), .int x1, .int x2] (WW Z A s ++ ex) 0 0 (fun v u => ∃ t : GS, Inv t ∧ Fr fm_86_65 s t ∧ v = none ∧ u = WW Z A t ++ ex) X := by
  intro post xp hP hX
  obtain ⟨u_65_8, e_65_8⟩ : ∃ w, w = s.2.2.1 65 8 := ⟨_, rfl⟩
  have ro_65_8 := inv_F hI 0 160 rfl e_65_8
  have ct5 : ∀ (k5 : Nat) (sc5 : GS) (y5_3 : Int32) (y5_4 : Int32), Inv sc5 → Fr fm_86_65 s sc5 → (In y5_3 0 1) → (In y5_4 0 33) → 33 - (y5_4).toInt < (k5 : Int) → GG Z (d - 1) 86 post (gx xp) (1 + k5 * 147601) 5 (fun j => xlook j [(0, .ref (A 65)), (1, .int x1), (2, .int x2), (3, .int y5_3), (4, .int y5_4)]) [] (WW Z A sc5 ++ ex) 0 0 := by
    intro k5
    induction k5 with
    | zero => intro sc5 y5_3 y5_4 hIc5 hFc5 j5_3 j5_4 mm5; exact m_no mm5 j5_4 rfl
    | succ k5 ih5 =>
      intro sc5 y5_3 y5_4 hIc5 hFc5 j5_3 j5_4 mm5
      refine gg_w (M := 1 + k5 * 147601 + 147601) gws ?_
      have ct20 : ∀ (k20 : Nat) (sc20 : GS) (y20_3 : Int32) (y20_5 : Int32), Inv sc20 → Fr fm_86_65 s sc20 → (In y20_3 0 1) → (In y5_4 0 32) → (In y20_5 0 160) → 160 - (y20_5).toInt < (k20 : Int) → GG Z (d - 1) 86 post (gx xp) (1 + k5 * 147601 + 1 + k20 * 900) 20 (fun j => xlook j [(0, .ref (A 65)), (1, .int x1), (2, .int x2), (3, .int y20_3), (4, .int y5_4), (5, .int y20_5)]) [] (WW Z A sc20 ++ ex) 0 0 := by
        intro k20
        induction k20 with
        | zero => intro sc20 y20_3 y20_5 hIc20 hFc20 j20_3 j20_4 j20_5 mm20; exact m_no mm20 j20_5 rfl
        | succ k20 ih20 =>
          intro sc20 y20_3 y20_5 hIc20 hFc20 j20_3 j20_4 j20_5 mm20
          refine gg_w (M := 1 + k5 * 147601 + 1 + k20 * 900 + 900) gws ?_
          refine g_iload 22 (gd rfl) rfl rfl ?_
          refine g_aload_n 23 (gd rfl) rfl rfl ?_
          refine g_getI 26 (gd rfl) rfl rfl rfl (fun z23 e23 => ?_)
          have q23 : u_65_8 = z23 := (fr_F e_65_8 hFc20 rfl).trans e23.symm
          subst q23
          refine g_cmp_ge 29 45 (gd rfl) rfl rfl (fun c26 => ?_) (fun c26 => ?_)
          · skip
            refine g_iinc 48 (gd rfl) rfl rfl (Nat.le_of_ble_eq_true rfl) (fun z45 e45 => ?_)
            have i45 := in_add 1 33 e45 j20_4 (in_c 1 rfl) rfl rfl
            refine g_goto 5 (gd rfl) rfl ?_
            exact gg_w (by first | exact Nat.le_add_right _ _ | exact gw2 | exact gw3 | exact gwe rfl | exact gwf rfl | exact gwg rfl | exact gwh rfl | omega) (gg_f (gf_cons rfl (gf_cons rfl (gf_cons rfl (gf_cons rfl (gf_cons rfl gf_nil))))) (ih5 sc20 y20_3 z45 hIc20 hFc20 (in_w 0 1 j20_3 rfl) (in_w 0 33 i45 rfl) (m_up mm5 (t_add e45 j20_4 (in_c 1 rfl) rfl) (in_w 1 1 (in_c 1 rfl) rfl))))
          · skip
            have i26 := r_lt1 0 159 c26 j20_5 ro_65_8 rfl
            have i26a := r_lt2 1 160 c26 j20_5 ro_65_8 rfl
            refine g_iload_n 30 (gd rfl) rfl rfl ?_
            refine g_aload_n 31 (gd rfl) rfl rfl ?_
            refine g_iload 33 (gd rfl) rfl rfl ?_
            refine g_iload_n 34 (gd rfl) rfl rfl ?_
            refine g_callv (X := _) (As := [.int y20_5, .int x2]) (r := [.int y20_3]) (b := A 65) (q := 65) 37 (gd rfl) rfl rfl rfl rfl rfl (ww_o rfl) (Nat.le_of_ble_eq_true rfl) (Nat.zero_le _) (Nat.zero_le _) (k_87_65 (by first | exact dq1 hd rfl | exact dq0 hd rfl | exact dq2 hd rfl | exact dq3 hd rfl | omega) hIc20 (in_w 0 159 i26 rfl) (in_w 1 1048576 h2 rfl)) (fun e u h => h) (fun v u h => ?_)
            obtain ⟨s34, hI34, hF34, z34, rfl, rfl, i34⟩ := h
            show GG _ _ _ _ _ _ _ _ [.int z34, .int y20_3] _ _ _
            refine g_ior 38 (gd rfl) rfl (fun z37 e37 => ?_)
            have i37 := in_or 1 e37 (in_w 0 1 j20_3 rfl) (in_w 0 1 i34 rfl) rfl
            refine g_istore_n 39 (gd rfl) rfl (Nat.le_of_ble_eq_true rfl) ?_
            refine g_iinc 42 (gd rfl) rfl rfl (Nat.le_of_ble_eq_true rfl) (fun z39 e39 => ?_)
            have i39 := in_add 1 160 e39 i26 (in_c 1 rfl) rfl rfl
            refine g_goto 20 (gd rfl) rfl ?_
            exact gg_w (by first | exact Nat.le_add_right _ _ | exact gw2 | exact gw3 | exact gwe rfl | exact gwf rfl | exact gwg rfl | exact gwh rfl | omega) (gg_f (gf_cons rfl (gf_cons rfl (gf_cons rfl (gf_cons rfl (gf_cons rfl (gf_cons rfl gf_nil)))))) (ih20 s34 z37 z39 hI34 (fr_tr rfl hFc20 hF34) (in_w 0 1 i37 rfl) (in_w 0 32 j20_4 rfl) (in_w 0 160 i39 rfl) (m_up mm20 (t_add e39 i26 (in_c 1 rfl) rfl) (in_w 1 1 (in_c 1 rfl) rfl))))
      refine g_iload 7 (gd rfl) rfl rfl ?_
      refine g_iload_n 8 (gd rfl) rfl rfl ?_
      refine g_cmp_gt 11 51 (gd rfl) rfl rfl (fun c8 => ?_) (fun c8 => ?_)
      · skip
        have i8 := r_lt2 1 33 c8 h1 j5_4 rfl
        exact g_return (gd rfl) rfl (hP _ _ ⟨sc5, hIc5, hFc5, rfl, rfl⟩)
      · skip
        have i8 := r_le1 0 32 c8 j5_4 h1 rfl
        refine g_iload_n 12 (gd rfl) rfl rfl ?_
        refine g_if_eq 15 51 (gd rfl) rfl rfl (fun c12 => ?_) (fun c12 => ?_)
        · skip
          have i12 := z_eq 0 0 c12 j5_3 rfl
          exact g_return (gd rfl) rfl (hP _ _ ⟨sc5, hIc5, hFc5, rfl, rfl⟩)
        · skip
          have i12 := z_ne 1 1 c12 j5_3 rfl
          refine g_iconst 0 16 (gd rfl) rfl rfl ?_
          refine g_istore_n 17 (gd rfl) rfl (Nat.le_of_ble_eq_true rfl) ?_
          refine g_iconst 0 18 (gd rfl) rfl rfl ?_
          refine g_istore 20 (gd rfl) rfl (Nat.le_of_ble_eq_true rfl) ?_
          exact gg_w (by first | exact Nat.le_add_right _ _ | exact gw2 | exact gw3 | exact gwe rfl | exact gwf rfl | exact gwg rfl | exact gwh rfl | omega) (gg_f (gf_cons rfl (gf_cons rfl (gf_cons rfl (gf_cons rfl (gf_cons rfl (gf_cons rfl gf_nil)))))) (ct20 161 sc5 (Int32.ofInt 0) (Int32.ofInt 0) hIc5 hFc5 (in_w 0 1 (in_c 0 rfl) rfl) (in_w 0 32 i8 rfl) (in_w 0 160 (in_c 0 rfl) rfl) (m_in 161 (in_w 0 160 (in_c 0 rfl) rfl) rfl)))
  refine g_enter2 (k := 86) (N := 5019335) (by first | exact dq1 hd rfl | exact dq0 hd rfl | exact dq2 hd rfl | exact dq3 hd rfl | omega) rfl (Nat.le_of_ble_eq_true rfl) ?_
  refine g_iconst 1 1 (gd rfl) rfl rfl ?_
  refine g_istore_n 2 (gd rfl) rfl (Nat.le_of_ble_eq_true rfl) ?_
  refine g_iconst 0 3 (gd rfl) rfl rfl ?_
  refine g_istore 5 (gd rfl) rfl (Nat.le_of_ble_eq_true rfl) ?_
  exact gg_w (by first | exact Nat.le_of_ble_eq_true rfl | omega) (gg_f (gf_cons rfl (gf_cons rfl (gf_cons rfl (gf_cons rfl (gf_cons rfl gf_nil))))) (ct5 34 s (Int32.ofInt 1) (Int32.ofInt 0) hI fr_rf (in_w 0 1 (in_c 1 rfl) rfl) (in_w 0 33 (in_c 0 rfl) rfl) (m_in 34 (in_w 0 33 (in_c 0 rfl) rfl) rfl)))

def fm_109_86_2 : FM := ([9, 10, 11, 12, 13, 14, 15], [87, 88], [(2, 4), (86, 0), (86, 1)], [])
/-- GraphHouse$Groups.unitsOf -/
theorem k_109_86_2 {Z : AmZ} {A : Nat → Nat} {s : GS} {ex : va_W} {d : Nat} {X : AmX} {x2 : Int32} {x3 : Int32} (hd : 4 ≤ d) (hI : Inv s) (h2 : In x2 0 31) (h3 : In x3 0 40) : GC Z d 109 [.ref (A 86), .ref (A 2), .int x2, .int x3] (WW Z A s ++ ex) 0 0 (fun v u => ∃ xa ya : Nat, ∃ t : GS, Inv t ∧ Fr fm_109_86_2 s t ∧ ∃ z : Int64, v = some (.long z) ∧ u = WW Z (a2 A xa ya) t ++ ex) X := by
  intro post xp hP hX
  obtain ⟨u_2_0, e_2_0⟩ : ∃ w, w = s.2.2.1 2 0 := ⟨_, rfl⟩
  have ro_2_0 := inv_F hI 0 4000 rfl e_2_0
  have ct46 : ∀ (k46 : Nat) (sc46 : GS) (xc46 : Nat) (yc46 : Nat) (w46_86_1 : Int32) (w46_2_4 : Int32) (w46_2_0 : Int32), Inv sc46 → Fr fm_109_86_2 s sc46 → (w46_86_1 = sc46.2.2.1 86 1) → (w46_2_4 = sc46.2.2.1 2 4) → (w46_2_0 = sc46.2.2.1 2 0) → ((w46_2_4).toInt = (w46_2_0).toInt) → 41 - (w46_86_1).toInt < (k46 : Int) → GG Z (d - 1) 109 post (gx xp) (1 + k46 * 900) 46 (fun j => xlook j [(0, .ref (A 86)), (1, .ref (A 2)), (2, .int x2), (3, .int x3)]) [] (WW Z (a2 A xc46 yc46) sc46 ++ ex) 0 0 := by
    intro k46
    induction k46 with
    | zero => intro sc46 xc46 yc46 w46_86_1 w46_2_4 w46_2_0 hIc46 hFc46 v46_86_1 v46_2_4 v46_2_0 n46_0 mm46; exfalso; (first | have a0 := oa5 h3 h2 ((inv_F hIc46 0 4000 rfl v46_2_0)) ((inv_F hIc46 (-1) 4000 rfl v46_2_4)) ((inv_F hIc46 0 40 rfl v46_86_1)) | ((first | have a0 := in_u h3 | (have a0 := h3; unfold In at a0)); (first | have a1 := in_u h2 | (have a1 := h2; unfold In at a1)); (first | have a2 := in_u ((inv_F hIc46 0 4000 rfl v46_2_0)) | (have a2 := (inv_F hIc46 0 4000 rfl v46_2_0); unfold In at a2)); (first | have a3 := in_u ((inv_F hIc46 (-1) 4000 rfl v46_2_4)) | (have a3 := (inv_F hIc46 (-1) 4000 rfl v46_2_4); unfold In at a3)); (first | have a4 := in_u ((inv_F hIc46 0 40 rfl v46_86_1)) | (have a4 := (inv_F hIc46 0 40 rfl v46_86_1); unfold In at a4)))); omega
    | succ k46 ih46 =>
      intro sc46 xc46 yc46 w46_86_1 w46_2_4 w46_2_0 hIc46 hFc46 v46_86_1 v46_2_4 v46_2_0 n46_0 mm46
      refine gg_w (M := 1 + k46 * 900 + 900) gws ?_
      refine g_aload_n 47 (gd rfl) rfl rfl ?_
      refine g_getI (A := (a2 A xc46 yc46)) (q := 86) 50 (gd rfl) rfl rfl rfl (fun z47 e47 => ?_)
      have q47 : w46_86_1 = z47 := (v46_86_1).trans e47.symm
      subst q47
      refine g_iload_n 51 (gd rfl) rfl rfl ?_
      refine g_cmp_ge 54 72 (gd rfl) rfl rfl (fun c51 => ?_) (fun c51 => ?_)
      · skip
        refine g_aload_n 73 (gd rfl) rfl rfl ?_
        refine g_getA (A := (a2 A xc46 yc46)) (q := 86) (q2 := 87) 76 (gd rfl) rfl rfl rfl rfl ?_
        refine g_iload_n 77 (gd rfl) rfl rfl ?_
        refine g_laload (A := (a2 A xc46 yc46)) (q := 87) 78 (gd rfl) rfl (n := 32) rfl (in_ix h2 rfl) (fun z77 e77 => ?_)
        exact g_lreturn (gd rfl) rfl (hP _ _ ⟨xc46, yc46, sc46, hIc46, hFc46, z77, rfl, rfl⟩)
      · skip
        have i51 := r_lt1 0 39 c51 (inv_F hIc46 0 40 rfl v46_86_1) h3 rfl
        have i51a := r_lt2 1 40 c51 (inv_F hIc46 0 40 rfl v46_86_1) h3 rfl
        refine g_aload_n 55 (gd rfl) rfl rfl ?_
        refine g_aload_n 56 (gd rfl) rfl rfl ?_
        have n56 : (w46_2_4).toInt = (w46_2_0).toInt := by first | exact n46_0 | ((first | have a0 := oa5 i51a h2 ((inv_F hIc46 0 4000 rfl v46_2_0)) ((inv_F hIc46 (-1) 4000 rfl v46_2_4)) i51 | ((first | have a0 := in_u i51a | (have a0 := i51a; unfold In at a0)); (first | have a1 := in_u h2 | (have a1 := h2; unfold In at a1)); (first | have a2 := in_u ((inv_F hIc46 0 4000 rfl v46_2_0)) | (have a2 := (inv_F hIc46 0 4000 rfl v46_2_0); unfold In at a2)); (first | have a3 := in_u ((inv_F hIc46 (-1) 4000 rfl v46_2_4)) | (have a3 := (inv_F hIc46 (-1) 4000 rfl v46_2_4); unfold In at a3)); (first | have a4 := in_u i51 | (have a4 := i51; unfold In at a4)))); omega)
        refine g_callv (X := _) (As := [.ref (A 2)]) (r := []) (b := A 86) (q := 86) 59 (gd rfl) rfl rfl rfl rfl rfl (ww_o rfl) (Nat.le_of_ble_eq_true rfl) (Nat.zero_le _) (Nat.zero_le _) (k_110_86_2 (A := (a2 A xc46 yc46)) (by omega) hIc46 v46_2_4 v46_2_0 n56) (fun e u h => h) (fun v u h => ?_)
        obtain ⟨xa56, ya56, s56, hI56, hF56, rfl, rfl⟩ := h
        rw [a2_a2]
        show GG _ _ _ _ _ _ _ _ [] _ _ _
        refine g_aload_n 60 (gd rfl) rfl rfl ?_
        refine g_dup 61 (gd rfl) rfl rfl ?_
        refine g_getI (A := (a2 A xa56 ya56)) (q := 86) 64 (gd rfl) rfl rfl rfl (fun z61 e61 => ?_)
        have q61 : w46_86_1 = z61 := (fr_F (v46_86_1) hF56 rfl).trans e61.symm
        subst q61
        refine g_iconst 1 65 (gd rfl) rfl rfl ?_
        refine g_iadd 66 (gd rfl) rfl (fun z65 e65 => ?_)
        have i65 := in_add 1 40 e65 i51 (in_c 1 rfl) rfl rfl
        refine g_putI (A := (a2 A xa56 ya56)) (q := 86) 69 (gd rfl) rfl rfl rfl rfl ?_
        have hI66 := inv_sF (q := 86) (j := 1) hI56 rfl (in_w 0 40 i65 rfl)
        refine g_goto 46 (gd rfl) rfl ?_
        have v46 : z65 = (sF s56 86 1 z65).2.2.1 86 1 := sF_get
        have v46a : w46_2_4 = (sF s56 86 1 z65).2.2.1 2 4 := sF_ne rfl (fr_F (v46_2_4) hF56 rfl)
        have v46b : w46_2_0 = (sF s56 86 1 z65).2.2.1 2 0 := sF_ne rfl (fr_F (v46_2_0) hF56 rfl)
        have n46 : (w46_2_4).toInt = (w46_2_0).toInt := by first | exact n46_0 | ((first | have a0 := oa6 i51a h2 ((inv_F hIc46 0 4000 rfl v46_2_0)) ((inv_F hIc46 (-1) 4000 rfl v46_2_4)) i51 i65 | ((first | have a0 := in_u i51a | (have a0 := i51a; unfold In at a0)); (first | have a1 := in_u h2 | (have a1 := h2; unfold In at a1)); (first | have a2 := in_u ((inv_F hIc46 0 4000 rfl v46_2_0)) | (have a2 := (inv_F hIc46 0 4000 rfl v46_2_0); unfold In at a2)); (first | have a3 := in_u ((inv_F hIc46 (-1) 4000 rfl v46_2_4)) | (have a3 := (inv_F hIc46 (-1) 4000 rfl v46_2_4); unfold In at a3)); (first | have a4 := in_u i51 | (have a4 := i51; unfold In at a4)); (first | have a5 := in_u i65 | (have a5 := i65; unfold In at a5)))); have a6 := t_add e65 i51 (in_c 1 rfl) rfl; (first | have a7 := in_u ((in_c 1 rfl)) | (have a7 := (in_c 1 rfl); unfold In at a7)); omega)
        have m46 : 41 - (z65).toInt < ((k46 : Nat) : Int) := by (first | have a0 := oa6 i51a h2 ((inv_F hIc46 0 4000 rfl v46_2_0)) ((inv_F hIc46 (-1) 4000 rfl v46_2_4)) i51 i65 | ((first | have a0 := in_u i51a | (have a0 := i51a; unfold In at a0)); (first | have a1 := in_u h2 | (have a1 := h2; unfold In at a1)); (first | have a2 := in_u ((inv_F hIc46 0 4000 rfl v46_2_0)) | (have a2 := (inv_F hIc46 0 4000 rfl v46_2_0); unfold In at a2)); (first | have a3 := in_u ((inv_F hIc46 (-1) 4000 rfl v46_2_4)) | (have a3 := (inv_F hIc46 (-1) 4000 rfl v46_2_4); unfold In at a3)); (first | have a4 := in_u i51 | (have a4 := i51; unfold In at a4)); (first | have a5 := in_u i65 | (have a5 := i65; unfold In at a5)))); have a6 := t_add e65 i51 (in_c 1 rfl) rfl; (first | have a7 := in_u ((in_c 1 rfl)) | (have a7 := (in_c 1 rfl); unfold In at a7)); omega
        exact gg_w (by first | exact Nat.le_add_right _ _ | exact gw2 | exact gw3 | exact gwe rfl | exact gwf rfl | exact gwg rfl | exact gwh rfl | omega) (gg_f (gf_cons rfl (gf_cons rfl (gf_cons rfl (gf_cons rfl gf_nil)))) (ih46  (sF s56 86 1 z65) xa56 ya56 z65 w46_2_4 w46_2_0 hI66 (fr_sF rfl (fr_tr rfl hFc46 hF56)) v46 v46a v46b n46 m46))
  refine g_enter2 (k := 109) (N := 38701) (by first | exact dq1 hd rfl | exact dq0 hd rfl | exact dq2 hd rfl | exact dq3 hd rfl | omega) rfl (Nat.le_of_ble_eq_true rfl) ?_
  refine g_aload_n 1 (gd rfl) rfl rfl ?_
  refine g_getI 4 (gd rfl) rfl rfl rfl (fun z1 e1 => ?_)
  have i1 := inv_F hI (-1) 4000 rfl e1
  refine g_aload_n 5 (gd rfl) rfl rfl ?_
  refine g_getI 8 (gd rfl) rfl rfl rfl (fun z5 e5 => ?_)
  have q5 : u_2_0 = z5 := (e_2_0).trans e5.symm
  subst q5
  refine g_cmp_ne 11 19 (gd rfl) rfl rfl (fun c8 => ?_) (fun c8 => ?_)
  · skip
    refine g_aload_n 20 (gd rfl) rfl rfl ?_
    refine g_aload_n 21 (gd rfl) rfl rfl ?_
    refine g_getI 24 (gd rfl) rfl rfl rfl (fun z21 e21 => ?_)
    have q21 : u_2_0 = z21 := (e_2_0).trans e21.symm
    subst q21
    refine g_putI 27 (gd rfl) rfl rfl rfl rfl ?_
    have hI24 := inv_sF (q := 86) (j := 0) hI rfl (in_w (-1) 4000 ro_2_0 rfl)
    refine g_aload_n 28 (gd rfl) rfl rfl ?_
    refine g_iconst 0 29 (gd rfl) rfl rfl ?_
    refine g_putI 32 (gd rfl) rfl rfl rfl rfl ?_
    have hI29 := inv_sF (q := 86) (j := 1) hI24 rfl (in_w 0 40 (in_c 0 rfl) rfl)
    refine g_aload_n 33 (gd rfl) rfl rfl ?_
    refine g_getA (q2 := 87) 36 (gd rfl) rfl rfl rfl rfl ?_
    refine g_ldc2_w 1000000000000 39 (gd rfl) rfl rfl ?_
    refine g_calls (As := [.ref (A 87), .long (Int64.ofInt 1000000000000)]) (r := []) 42 (gd rfl) rfl rfl rfl rfl rfl (Nat.le_of_ble_eq_true rfl) (Nat.zero_le _) (Nat.zero_le _) (k_fillL 87 (by first | exact dq1 hd rfl | exact dq0 hd rfl | exact dq2 hd rfl | exact dq3 hd rfl | omega) hI29 (n := 32) rfl rfl rfl (l_rng (Int64.ofInt 1000000000000))) (fun v u h => ?_)
    obtain ⟨s39, hI39, hF39, rfl, rfl, fl39⟩ := h
    show GG _ _ _ _ _ _ _ _ [] _ _ _
    refine g_aload_n 43 (gd rfl) rfl rfl ?_
    refine g_callv (X := _) (As := []) (r := []) (b := A 2) (q := 2) 46 (gd rfl) rfl rfl rfl rfl rfl (ww_o rfl) (Nat.le_of_ble_eq_true rfl) (Nat.zero_le _) (Nat.zero_le _) (k_106_2 (by first | exact dq1 hd rfl | exact dq0 hd rfl | exact dq2 hd rfl | exact dq3 hd rfl | omega) hI39 ) (fun e u h => h) (fun v u h => ?_)
    obtain ⟨s43, hI43, hF43, n43, rfl, rfl⟩ := h
    obtain ⟨z43a, e43⟩ : ∃ w, w = s43.2.2.1 2 4 := ⟨_, rfl⟩
    have i43a := inv_F hI43 (-1) 4000 rfl e43
    rw [← (show z43a = s43.2.2.1 2 4 from e43)] at n43
    rw [← (show u_2_0 = s43.2.2.1 2 0 from fr_F (fr_F (s := (sF (sF s 86 0 u_2_0) 86 1 (Int32.ofInt 0))) (sF_ne rfl (sF_ne rfl (e_2_0))) hF39 rfl) hF43 rfl)] at n43
    show GG _ _ _ _ _ _ _ _ [] _ _ _
    rw [show WW Z A s43 ++ ex = WW Z (a2 A (A 87) (A 88)) s43 ++ ex from by rw [a2_id]]
    have v46 : (Int32.ofInt 0) = s43.2.2.1 86 1 := fr_F (fr_F (s := (sF (sF s 86 0 u_2_0) 86 1 (Int32.ofInt 0))) (sF_get) hF39 rfl) hF43 rfl
    have v46a : u_2_0 = s43.2.2.1 2 0 := fr_F (fr_F (s := (sF (sF s 86 0 u_2_0) 86 1 (Int32.ofInt 0))) (sF_ne rfl (sF_ne rfl (e_2_0))) hF39 rfl) hF43 rfl
    have n46 : (z43a).toInt = (u_2_0).toInt := by (first | have a0 := oa5 ro_2_0 h3 h2 i43a ((in_c 0 rfl)) | ((first | have a0 := in_u ro_2_0 | (have a0 := ro_2_0; unfold In at a0)); (first | have a1 := in_u h3 | (have a1 := h3; unfold In at a1)); (first | have a2 := in_u h2 | (have a2 := h2; unfold In at a2)); (first | have a3 := in_u i43a | (have a3 := i43a; unfold In at a3)); (first | have a4 := in_u ((in_c 0 rfl)) | (have a4 := (in_c 0 rfl); unfold In at a4)))); omega
    have m46 : 41 - ((Int32.ofInt 0)).toInt < ((42 : Nat) : Int) := by (first | have a0 := oa5 ro_2_0 h3 h2 i43a ((in_c 0 rfl)) | ((first | have a0 := in_u ro_2_0 | (have a0 := ro_2_0; unfold In at a0)); (first | have a1 := in_u h3 | (have a1 := h3; unfold In at a1)); (first | have a2 := in_u h2 | (have a2 := h2; unfold In at a2)); (first | have a3 := in_u i43a | (have a3 := i43a; unfold In at a3)); (first | have a4 := in_u ((in_c 0 rfl)) | (have a4 := (in_c 0 rfl); unfold In at a4)))); omega
    exact gg_w (by first | exact Nat.le_of_ble_eq_true rfl | omega) (gg_f (gf_cons rfl (gf_cons rfl (gf_cons rfl (gf_cons rfl gf_nil)))) (ct46 42 s43 (A 87) (A 88) (Int32.ofInt 0) z43a u_2_0 hI43 (fr_tr rfl (fr_tr rfl (fr_sF rfl (fr_sF rfl fr_rf)) hF39) hF43) v46 e43 v46a n46 m46))
  · skip
    have i8 := r_eq1 0 4000 c8 i1 ro_2_0 rfl
    refine g_iload_n 12 (gd rfl) rfl rfl ?_
    refine g_aload_n 13 (gd rfl) rfl rfl ?_
    refine g_getI 16 (gd rfl) rfl rfl rfl (fun z13 e13 => ?_)
    have i13 := inv_F hI 0 40 rfl e13
    refine g_cmp_ge 19 42 (gd rfl) rfl rfl (fun c16 => ?_) (fun c16 => ?_)
    · skip
      refine g_aload_n 43 (gd rfl) rfl rfl ?_
      refine g_callv (X := _) (As := []) (r := []) (b := A 2) (q := 2) 46 (gd rfl) rfl rfl rfl rfl rfl (ww_o rfl) (Nat.le_of_ble_eq_true rfl) (Nat.zero_le _) (Nat.zero_le _) (k_106_2 (by first | exact dq1 hd rfl | exact dq0 hd rfl | exact dq2 hd rfl | exact dq3 hd rfl | omega) hI ) (fun e u h => h) (fun v u h => ?_)
      obtain ⟨s43, hI43, hF43, n43, rfl, rfl⟩ := h
      obtain ⟨z43a, e43⟩ : ∃ w, w = s43.2.2.1 2 4 := ⟨_, rfl⟩
      have i43a := inv_F hI43 (-1) 4000 rfl e43
      rw [← (show z43a = s43.2.2.1 2 4 from e43)] at n43
      rw [← (show u_2_0 = s43.2.2.1 2 0 from fr_F (e_2_0) hF43 rfl)] at n43
      show GG _ _ _ _ _ _ _ _ [] _ _ _
      rw [show WW Z A s43 ++ ex = WW Z (a2 A (A 87) (A 88)) s43 ++ ex from by rw [a2_id]]
      have v46 : z13 = s43.2.2.1 86 1 := fr_F (e13) hF43 rfl
      have v46a : u_2_0 = s43.2.2.1 2 0 := fr_F (e_2_0) hF43 rfl
      have n46 : (z43a).toInt = (u_2_0).toInt := by (first | have a0 := oa6 ro_2_0 h3 h2 i43a i13 i8 | ((first | have a0 := in_u ro_2_0 | (have a0 := ro_2_0; unfold In at a0)); (first | have a1 := in_u h3 | (have a1 := h3; unfold In at a1)); (first | have a2 := in_u h2 | (have a2 := h2; unfold In at a2)); (first | have a3 := in_u i43a | (have a3 := i43a; unfold In at a3)); (first | have a4 := in_u i13 | (have a4 := i13; unfold In at a4)); (first | have a5 := in_u i8 | (have a5 := i8; unfold In at a5)))); omega
      have m46 : 41 - (z13).toInt < ((42 : Nat) : Int) := by (first | have a0 := oa6 ro_2_0 h3 h2 i43a i13 i8 | ((first | have a0 := in_u ro_2_0 | (have a0 := ro_2_0; unfold In at a0)); (first | have a1 := in_u h3 | (have a1 := h3; unfold In at a1)); (first | have a2 := in_u h2 | (have a2 := h2; unfold In at a2)); (first | have a3 := in_u i43a | (have a3 := i43a; unfold In at a3)); (first | have a4 := in_u i13 | (have a4 := i13; unfold In at a4)); (first | have a5 := in_u i8 | (have a5 := i8; unfold In at a5)))); omega
      exact gg_w (by first | exact Nat.le_of_ble_eq_true rfl | omega) (gg_f (gf_cons rfl (gf_cons rfl (gf_cons rfl (gf_cons rfl gf_nil)))) (ct46 42 s43 (A 87) (A 88) z13 z43a u_2_0 hI43 (fr_tr rfl fr_rf hF43) v46 e43 v46a n46 m46))
    · skip
      have i16 := r_lt1 0 39 c16 h3 i13 rfl
      have i16a := r_lt2 1 40 c16 h3 i13 rfl
      refine g_aload_n 20 (gd rfl) rfl rfl ?_
      refine g_aload_n 21 (gd rfl) rfl rfl ?_
      refine g_getI 24 (gd rfl) rfl rfl rfl (fun z21 e21 => ?_)
      have q21 : u_2_0 = z21 := (e_2_0).trans e21.symm
      subst q21
      refine g_putI 27 (gd rfl) rfl rfl rfl rfl ?_
      have hI24 := inv_sF (q := 86) (j := 0) hI rfl (in_w (-1) 4000 ro_2_0 rfl)
      refine g_aload_n 28 (gd rfl) rfl rfl ?_
      refine g_iconst 0 29 (gd rfl) rfl rfl ?_
      refine g_putI 32 (gd rfl) rfl rfl rfl rfl ?_
      have hI29 := inv_sF (q := 86) (j := 1) hI24 rfl (in_w 0 40 (in_c 0 rfl) rfl)
      refine g_aload_n 33 (gd rfl) rfl rfl ?_
      refine g_getA (q2 := 87) 36 (gd rfl) rfl rfl rfl rfl ?_
      refine g_ldc2_w 1000000000000 39 (gd rfl) rfl rfl ?_
      refine g_calls (As := [.ref (A 87), .long (Int64.ofInt 1000000000000)]) (r := []) 42 (gd rfl) rfl rfl rfl rfl rfl (Nat.le_of_ble_eq_true rfl) (Nat.zero_le _) (Nat.zero_le _) (k_fillL 87 (by first | exact dq1 hd rfl | exact dq0 hd rfl | exact dq2 hd rfl | exact dq3 hd rfl | omega) hI29 (n := 32) rfl rfl rfl (l_rng (Int64.ofInt 1000000000000))) (fun v u h => ?_)
      obtain ⟨s39, hI39, hF39, rfl, rfl, fl39⟩ := h
      show GG _ _ _ _ _ _ _ _ [] _ _ _
      refine g_aload_n 43 (gd rfl) rfl rfl ?_
      refine g_callv (X := _) (As := []) (r := []) (b := A 2) (q := 2) 46 (gd rfl) rfl rfl rfl rfl rfl (ww_o rfl) (Nat.le_of_ble_eq_true rfl) (Nat.zero_le _) (Nat.zero_le _) (k_106_2 (by first | exact dq1 hd rfl | exact dq0 hd rfl | exact dq2 hd rfl | exact dq3 hd rfl | omega) hI39 ) (fun e u h => h) (fun v u h => ?_)
      obtain ⟨s43, hI43, hF43, n43, rfl, rfl⟩ := h
      obtain ⟨z43a, e43⟩ : ∃ w, w = s43.2.2.1 2 4 := ⟨_, rfl⟩
      have i43a := inv_F hI43 (-1) 4000 rfl e43
      rw [← (show z43a = s43.2.2.1 2 4 from e43)] at n43
      rw [← (show u_2_0 = s43.2.2.1 2 0 from fr_F (fr_F (s := (sF (sF s 86 0 u_2_0) 86 1 (Int32.ofInt 0))) (sF_ne rfl (sF_ne rfl (e_2_0))) hF39 rfl) hF43 rfl)] at n43
      show GG _ _ _ _ _ _ _ _ [] _ _ _
      rw [show WW Z A s43 ++ ex = WW Z (a2 A (A 87) (A 88)) s43 ++ ex from by rw [a2_id]]
      have v46 : (Int32.ofInt 0) = s43.2.2.1 86 1 := fr_F (fr_F (s := (sF (sF s 86 0 u_2_0) 86 1 (Int32.ofInt 0))) (sF_get) hF39 rfl) hF43 rfl
      have v46a : u_2_0 = s43.2.2.1 2 0 := fr_F (fr_F (s := (sF (sF s 86 0 u_2_0) 86 1 (Int32.ofInt 0))) (sF_ne rfl (sF_ne rfl (e_2_0))) hF39 rfl) hF43 rfl
      have n46 : (z43a).toInt = (u_2_0).toInt := by (first | have a0 := oa5 ro_2_0 i16 h2 i43a ((in_c 0 rfl)) | ((first | have a0 := in_u ro_2_0 | (have a0 := ro_2_0; unfold In at a0)); (first | have a1 := in_u i16 | (have a1 := i16; unfold In at a1)); (first | have a2 := in_u h2 | (have a2 := h2; unfold In at a2)); (first | have a3 := in_u i43a | (have a3 := i43a; unfold In at a3)); (first | have a4 := in_u ((in_c 0 rfl)) | (have a4 := (in_c 0 rfl); unfold In at a4)))); omega
      have m46 : 41 - ((Int32.ofInt 0)).toInt < ((42 : Nat) : Int) := by (first | have a0 := oa5 ro_2_0 i16 h2 i43a ((in_c 0 rfl)) | ((first | have a0 := in_u ro_2_0 | (have a0 := ro_2_0; unfold In at a0)); (first | have a1 := in_u i16 | (have a1 := i16; unfold In at a1)); (first | have a2 := in_u h2 | (have a2 := h2; unfold In at a2)); (first | have a3 := in_u i43a | (have a3 := i43a; unfold In at a3)); (first | have a4 := in_u ((in_c 0 rfl)) | (have a4 := (in_c 0 rfl); unfold In at a4)))); omega
      exact gg_w (by first | exact Nat.le_of_ble_eq_true rfl | omega) (gg_f (gf_cons rfl (gf_cons rfl (gf_cons rfl (gf_cons rfl gf_nil)))) (ct46 42 s43 (A 87) (A 88) (Int32.ofInt 0) z43a u_2_0 hI43 (fr_tr rfl (fr_tr rfl (fr_sF rfl (fr_sF rfl fr_rf)) hF39) hF43) v46 e43 v46a n46 m46))

def fm_109_86_32 : FM := ([39, 40, 41, 42, 43, 44, 45], [87, 88], [(32, 4), (86, 0), (86, 1)], [])
/-- GraphHouse$Groups.unitsOf -/
theorem k_109_86_32 {Z : AmZ} {A : Nat → Nat} {s : GS} {ex : va_W} {d : Nat} {X : AmX} {x2 : Int32} {x3 : Int32} (hd : 4 ≤ d) (hI : Inv s) (h2 : In x2 0 31) (h3 : In x3 0 40) : GC Z d 109 [.ref (A 86), .ref (A 32), .int x2, .int x3] (WW Z A s ++ ex) 0 0 (fun v u => ∃ xa ya : Nat, ∃ t : GS, Inv t ∧ Fr fm_109_86_32 s t ∧ ∃ z : Int64, v = some (.long z) ∧ u = WW Z (a2 A xa ya) t ++ ex) X := by
  intro post xp hP hX
  obtain ⟨u_32_0, e_32_0⟩ : ∃ w, w = s.2.2.1 32 0 := ⟨_, rfl⟩
  have ro_32_0 := inv_F hI 0 4000 rfl e_32_0
  have ct46 : ∀ (k46 : Nat) (sc46 : GS) (xc46 : Nat) (yc46 : Nat) (w46_86_1 : Int32) (w46_32_4 : Int32) (w46_32_0 : Int32), Inv sc46 → Fr fm_109_86_32 s sc46 → (w46_86_1 = sc46.2.2.1 86 1) → (w46_32_4 = sc46.2.2.1 32 4) → (w46_32_0 = sc46.2.2.1 32 0) → ((w46_32_4).toInt = (w46_32_0).toInt) → 41 - (w46_86_1).toInt < (k46 : Int) → GG Z (d - 1) 109 post (gx xp) (1 + k46 * 900) 46 (fun j => xlook j [(0, .ref (A 86)), (1, .ref (A 32)), (2, .int x2), (3, .int x3)]) [] (WW Z (a2 A xc46 yc46) sc46 ++ ex) 0 0 := by
    intro k46
    induction k46 with
    | zero => intro sc46 xc46 yc46 w46_86_1 w46_32_4 w46_32_0 hIc46 hFc46 v46_86_1 v46_32_4 v46_32_0 n46_0 mm46; exfalso; (first | have a0 := oa5 h3 h2 ((inv_F hIc46 0 4000 rfl v46_32_0)) ((inv_F hIc46 (-1) 4000 rfl v46_32_4)) ((inv_F hIc46 0 40 rfl v46_86_1)) | ((first | have a0 := in_u h3 | (have a0 := h3; unfold In at a0)); (first | have a1 := in_u h2 | (have a1 := h2; unfold In at a1)); (first | have a2 := in_u ((inv_F hIc46 0 4000 rfl v46_32_0)) | (have a2 := (inv_F hIc46 0 4000 rfl v46_32_0); unfold In at a2)); (first | have a3 := in_u ((inv_F hIc46 (-1) 4000 rfl v46_32_4)) | (have a3 := (inv_F hIc46 (-1) 4000 rfl v46_32_4); unfold In at a3)); (first | have a4 := in_u ((inv_F hIc46 0 40 rfl v46_86_1)) | (have a4 := (inv_F hIc46 0 40 rfl v46_86_1); unfold In at a4)))); omega
    | succ k46 ih46 =>
      intro sc46 xc46 yc46 w46_86_1 w46_32_4 w46_32_0 hIc46 hFc46 v46_86_1 v46_32_4 v46_32_0 n46_0 mm46
      refine gg_w (M := 1 + k46 * 900 + 900) gws ?_
      refine g_aload_n 47 (gd rfl) rfl rfl ?_
      refine g_getI (A := (a2 A xc46 yc46)) (q := 86) 50 (gd rfl) rfl rfl rfl (fun z47 e47 => ?_)
      have q47 : w46_86_1 = z47 := (v46_86_1).trans e47.symm
      subst q47
      refine g_iload_n 51 (gd rfl) rfl rfl ?_
      refine g_cmp_ge 54 72 (gd rfl) rfl rfl (fun c51 => ?_) (fun c51 => ?_)
      · skip
        refine g_aload_n 73 (gd rfl) rfl rfl ?_
        refine g_getA (A := (a2 A xc46 yc46)) (q := 86) (q2 := 87) 76 (gd rfl) rfl rfl rfl rfl ?_
        refine g_iload_n 77 (gd rfl) rfl rfl ?_
        refine g_laload (A := (a2 A xc46 yc46)) (q := 87) 78 (gd rfl) rfl (n := 32) rfl (in_ix h2 rfl) (fun z77 e77 => ?_)
        exact g_lreturn (gd rfl) rfl (hP _ _ ⟨xc46, yc46, sc46, hIc46, hFc46, z77, rfl, rfl⟩)
      · skip
        have i51 := r_lt1 0 39 c51 (inv_F hIc46 0 40 rfl v46_86_1) h3 rfl
        have i51a := r_lt2 1 40 c51 (inv_F hIc46 0 40 rfl v46_86_1) h3 rfl
        refine g_aload_n 55 (gd rfl) rfl rfl ?_
        refine g_aload_n 56 (gd rfl) rfl rfl ?_
        have n56 : (w46_32_4).toInt = (w46_32_0).toInt := by first | exact n46_0 | ((first | have a0 := oa5 i51a h2 ((inv_F hIc46 0 4000 rfl v46_32_0)) ((inv_F hIc46 (-1) 4000 rfl v46_32_4)) i51 | ((first | have a0 := in_u i51a | (have a0 := i51a; unfold In at a0)); (first | have a1 := in_u h2 | (have a1 := h2; unfold In at a1)); (first | have a2 := in_u ((inv_F hIc46 0 4000 rfl v46_32_0)) | (have a2 := (inv_F hIc46 0 4000 rfl v46_32_0); unfold In at a2)); (first | have a3 := in_u ((inv_F hIc46 (-1) 4000 rfl v46_32_4)) | (have a3 := (inv_F hIc46 (-1) 4000 rfl v46_32_4); unfold In at a3)); (first | have a4 := in_u i51 | (have a4 := i51; unfold In at a4)))); omega)
        refine g_callv (X := _) (As := [.ref (A 32)]) (r := []) (b := A 86) (q := 86) 59 (gd rfl) rfl rfl rfl rfl rfl (ww_o rfl) (Nat.le_of_ble_eq_true rfl) (Nat.zero_le _) (Nat.zero_le _) (k_110_86_32 (A := (a2 A xc46 yc46)) (by omega) hIc46 v46_32_4 v46_32_0 n56) (fun e u h => h) (fun v u h => ?_)
        obtain ⟨xa56, ya56, s56, hI56, hF56, rfl, rfl⟩ := h
        rw [a2_a2]
        show GG _ _ _ _ _ _ _ _ [] _ _ _
        refine g_aload_n 60 (gd rfl) rfl rfl ?_
        refine g_dup 61 (gd rfl) rfl rfl ?_
        refine g_getI (A := (a2 A xa56 ya56)) (q := 86) 64 (gd rfl) rfl rfl rfl (fun z61 e61 => ?_)
        have q61 : w46_86_1 = z61 := (fr_F (v46_86_1) hF56 rfl).trans e61.symm
        subst q61
        refine g_iconst 1 65 (gd rfl) rfl rfl ?_
        refine g_iadd 66 (gd rfl) rfl (fun z65 e65 => ?_)
        have i65 := in_add 1 40 e65 i51 (in_c 1 rfl) rfl rfl
        refine g_putI (A := (a2 A xa56 ya56)) (q := 86) 69 (gd rfl) rfl rfl rfl rfl ?_
        have hI66 := inv_sF (q := 86) (j := 1) hI56 rfl (in_w 0 40 i65 rfl)
        refine g_goto 46 (gd rfl) rfl ?_
        have v46 : z65 = (sF s56 86 1 z65).2.2.1 86 1 := sF_get
        have v46a : w46_32_4 = (sF s56 86 1 z65).2.2.1 32 4 := sF_ne rfl (fr_F (v46_32_4) hF56 rfl)
        have v46b : w46_32_0 = (sF s56 86 1 z65).2.2.1 32 0 := sF_ne rfl (fr_F (v46_32_0) hF56 rfl)
        have n46 : (w46_32_4).toInt = (w46_32_0).toInt := by first | exact n46_0 | ((first | have a0 := oa6 i51a h2 ((inv_F hIc46 0 4000 rfl v46_32_0)) ((inv_F hIc46 (-1) 4000 rfl v46_32_4)) i51 i65 | ((first | have a0 := in_u i51a | (have a0 := i51a; unfold In at a0)); (first | have a1 := in_u h2 | (have a1 := h2; unfold In at a1)); (first | have a2 := in_u ((inv_F hIc46 0 4000 rfl v46_32_0)) | (have a2 := (inv_F hIc46 0 4000 rfl v46_32_0); unfold In at a2)); (first | have a3 := in_u ((inv_F hIc46 (-1) 4000 rfl v46_32_4)) | (have a3 := (inv_F hIc46 (-1) 4000 rfl v46_32_4); unfold In at a3)); (first | have a4 := in_u i51 | (have a4 := i51; unfold In at a4)); (first | have a5 := in_u i65 | (have a5 := i65; unfold In at a5)))); have a6 := t_add e65 i51 (in_c 1 rfl) rfl; (first | have a7 := in_u ((in_c 1 rfl)) | (have a7 := (in_c 1 rfl); unfold In at a7)); omega)
        have m46 : 41 - (z65).toInt < ((k46 : Nat) : Int) := by (first | have a0 := oa6 i51a h2 ((inv_F hIc46 0 4000 rfl v46_32_0)) ((inv_F hIc46 (-1) 4000 rfl v46_32_4)) i51 i65 | ((first | have a0 := in_u i51a | (have a0 := i51a; unfold In at a0)); (first | have a1 := in_u h2 | (have a1 := h2; unfold In at a1)); (first | have a2 := in_u ((inv_F hIc46 0 4000 rfl v46_32_0)) | (have a2 := (inv_F hIc46 0 4000 rfl v46_32_0); unfold In at a2)); (first | have a3 := in_u ((inv_F hIc46 (-1) 4000 rfl v46_32_4)) | (have a3 := (inv_F hIc46 (-1) 4000 rfl v46_32_4); unfold In at a3)); (first | have a4 := in_u i51 | (have a4 := i51; unfold In at a4)); (first | have a5 := in_u i65 | (have a5 := i65; unfold In at a5)))); have a6 := t_add e65 i51 (in_c 1 rfl) rfl; (first | have a7 := in_u ((in_c 1 rfl)) | (have a7 := (in_c 1 rfl); unfold In at a7)); omega
        exact gg_w (by first | exact Nat.le_add_right _ _ | exact gw2 | exact gw3 | exact gwe rfl | exact gwf rfl | exact gwg rfl | exact gwh rfl | omega) (gg_f (gf_cons rfl (gf_cons rfl (gf_cons rfl (gf_cons rfl gf_nil)))) (ih46  (sF s56 86 1 z65) xa56 ya56 z65 w46_32_4 w46_32_0 hI66 (fr_sF rfl (fr_tr rfl hFc46 hF56)) v46 v46a v46b n46 m46))
  refine g_enter2 (k := 109) (N := 38701) (by first | exact dq1 hd rfl | exact dq0 hd rfl | exact dq2 hd rfl | exact dq3 hd rfl | omega) rfl (Nat.le_of_ble_eq_true rfl) ?_
  refine g_aload_n 1 (gd rfl) rfl rfl ?_
  refine g_getI 4 (gd rfl) rfl rfl rfl (fun z1 e1 => ?_)
  have i1 := inv_F hI (-1) 4000 rfl e1
  refine g_aload_n 5 (gd rfl) rfl rfl ?_
  refine g_getI 8 (gd rfl) rfl rfl rfl (fun z5 e5 => ?_)
  have q5 : u_32_0 = z5 := (e_32_0).trans e5.symm
  subst q5
  refine g_cmp_ne 11 19 (gd rfl) rfl rfl (fun c8 => ?_) (fun c8 => ?_)
  · skip
    refine g_aload_n 20 (gd rfl) rfl rfl ?_
    refine g_aload_n 21 (gd rfl) rfl rfl ?_
    refine g_getI 24 (gd rfl) rfl rfl rfl (fun z21 e21 => ?_)
    have q21 : u_32_0 = z21 := (e_32_0).trans e21.symm
    subst q21
    refine g_putI 27 (gd rfl) rfl rfl rfl rfl ?_
    have hI24 := inv_sF (q := 86) (j := 0) hI rfl (in_w (-1) 4000 ro_32_0 rfl)
    refine g_aload_n 28 (gd rfl) rfl rfl ?_
    refine g_iconst 0 29 (gd rfl) rfl rfl ?_
    refine g_putI 32 (gd rfl) rfl rfl rfl rfl ?_
    have hI29 := inv_sF (q := 86) (j := 1) hI24 rfl (in_w 0 40 (in_c 0 rfl) rfl)
    refine g_aload_n 33 (gd rfl) rfl rfl ?_
    refine g_getA (q2 := 87) 36 (gd rfl) rfl rfl rfl rfl ?_
    refine g_ldc2_w 1000000000000 39 (gd rfl) rfl rfl ?_
    refine g_calls (As := [.ref (A 87), .long (Int64.ofInt 1000000000000)]) (r := []) 42 (gd rfl) rfl rfl rfl rfl rfl (Nat.le_of_ble_eq_true rfl) (Nat.zero_le _) (Nat.zero_le _) (k_fillL 87 (by first | exact dq1 hd rfl | exact dq0 hd rfl | exact dq2 hd rfl | exact dq3 hd rfl | omega) hI29 (n := 32) rfl rfl rfl (l_rng (Int64.ofInt 1000000000000))) (fun v u h => ?_)
    obtain ⟨s39, hI39, hF39, rfl, rfl, fl39⟩ := h
    show GG _ _ _ _ _ _ _ _ [] _ _ _
    refine g_aload_n 43 (gd rfl) rfl rfl ?_
    refine g_callv (X := _) (As := []) (r := []) (b := A 32) (q := 32) 46 (gd rfl) rfl rfl rfl rfl rfl (ww_o rfl) (Nat.le_of_ble_eq_true rfl) (Nat.zero_le _) (Nat.zero_le _) (k_106_32 (by first | exact dq1 hd rfl | exact dq0 hd rfl | exact dq2 hd rfl | exact dq3 hd rfl | omega) hI39 ) (fun e u h => h) (fun v u h => ?_)
    obtain ⟨s43, hI43, hF43, n43, rfl, rfl⟩ := h
    obtain ⟨z43a, e43⟩ : ∃ w, w = s43.2.2.1 32 4 := ⟨_, rfl⟩
    have i43a := inv_F hI43 (-1) 4000 rfl e43
    rw [← (show z43a = s43.2.2.1 32 4 from e43)] at n43
    rw [← (show u_32_0 = s43.2.2.1 32 0 from fr_F (fr_F (s := (sF (sF s 86 0 u_32_0) 86 1 (Int32.ofInt 0))) (sF_ne rfl (sF_ne rfl (e_32_0))) hF39 rfl) hF43 rfl)] at n43
    show GG _ _ _ _ _ _ _ _ [] _ _ _
    rw [show WW Z A s43 ++ ex = WW Z (a2 A (A 87) (A 88)) s43 ++ ex from by rw [a2_id]]
    have v46 : (Int32.ofInt 0) = s43.2.2.1 86 1 := fr_F (fr_F (s := (sF (sF s 86 0 u_32_0) 86 1 (Int32.ofInt 0))) (sF_get) hF39 rfl) hF43 rfl
    have v46a : u_32_0 = s43.2.2.1 32 0 := fr_F (fr_F (s := (sF (sF s 86 0 u_32_0) 86 1 (Int32.ofInt 0))) (sF_ne rfl (sF_ne rfl (e_32_0))) hF39 rfl) hF43 rfl
    have n46 : (z43a).toInt = (u_32_0).toInt := by (first | have a0 := oa5 ro_32_0 h3 h2 i43a ((in_c 0 rfl)) | ((first | have a0 := in_u ro_32_0 | (have a0 := ro_32_0; unfold In at a0)); (first | have a1 := in_u h3 | (have a1 := h3; unfold In at a1)); (first | have a2 := in_u h2 | (have a2 := h2; unfold In at a2)); (first | have a3 := in_u i43a | (have a3 := i43a; unfold In at a3)); (first | have a4 := in_u ((in_c 0 rfl)) | (have a4 := (in_c 0 rfl); unfold In at a4)))); omega
    have m46 : 41 - ((Int32.ofInt 0)).toInt < ((42 : Nat) : Int) := by (first | have a0 := oa5 ro_32_0 h3 h2 i43a ((in_c 0 rfl)) | ((first | have a0 := in_u ro_32_0 | (have a0 := ro_32_0; unfold In at a0)); (first | have a1 := in_u h3 | (have a1 := h3; unfold In at a1)); (first | have a2 := in_u h2 | (have a2 := h2; unfold In at a2)); (first | have a3 := in_u i43a | (have a3 := i43a; unfold In at a3)); (first | have a4 := in_u ((in_c 0 rfl)) | (have a4 := (in_c 0 rfl); unfold In at a4)))); omega
    exact gg_w (by first | exact Nat.le_of_ble_eq_true rfl | omega) (gg_f (gf_cons rfl (gf_cons rfl (gf_cons rfl (gf_cons rfl gf_nil)))) (ct46 42 s43 (A 87) (A 88) (Int32.ofInt 0) z43a u_32_0 hI43 (fr_tr rfl (fr_tr rfl (fr_sF rfl (fr_sF rfl fr_rf)) hF39) hF43) v46 e43 v46a n46 m46))
  · skip
    have i8 := r_eq1 0 4000 c8 i1 ro_32_0 rfl
    refine g_iload_n 12 (gd rfl) rfl rfl ?_
    refine g_aload_n 13 (gd rfl) rfl rfl ?_
    refine g_getI 16 (gd rfl) rfl rfl rfl (fun z13 e13 => ?_)
    have i13 := inv_F hI 0 40 rfl e13
    refine g_cmp_ge 19 42 (gd rfl) rfl rfl (fun c16 => ?_) (fun c16 => ?_)
    · skip
      refine g_aload_n 43 (gd rfl) rfl rfl ?_
      refine g_callv (X := _) (As := []) (r := []) (b := A 32) (q := 32) 46 (gd rfl) rfl rfl rfl rfl rfl (ww_o rfl) (Nat.le_of_ble_eq_true rfl) (Nat.zero_le _) (Nat.zero_le _) (k_106_32 (by first | exact dq1 hd rfl | exact dq0 hd rfl | exact dq2 hd rfl | exact dq3 hd rfl | omega) hI ) (fun e u h => h) (fun v u h => ?_)
      obtain ⟨s43, hI43, hF43, n43, rfl, rfl⟩ := h
      obtain ⟨z43a, e43⟩ : ∃ w, w = s43.2.2.1 32 4 := ⟨_, rfl⟩
      have i43a := inv_F hI43 (-1) 4000 rfl e43
      rw [← (show z43a = s43.2.2.1 32 4 from e43)] at n43
      rw [← (show u_32_0 = s43.2.2.1 32 0 from fr_F (e_32_0) hF43 rfl)] at n43
      show GG _ _ _ _ _ _ _ _ [] _ _ _
      rw [show WW Z A s43 ++ ex = WW Z (a2 A (A 87) (A 88)) s43 ++ ex from by rw [a2_id]]
      have v46 : z13 = s43.2.2.1 86 1 := fr_F (e13) hF43 rfl
      have v46a : u_32_0 = s43.2.2.1 32 0 := fr_F (e_32_0) hF43 rfl
      have n46 : (z43a).toInt = (u_32_0).toInt := by (first | have a0 := oa6 ro_32_0 h3 h2 i43a i13 i8 | ((first | have a0 := in_u ro_32_0 | (have a0 := ro_32_0; unfold In at a0)); (first | have a1 := in_u h3 | (have a1 := h3; unfold In at a1)); (first | have a2 := in_u h2 | (have a2 := h2; unfold In at a2)); (first | have a3 := in_u i43a | (have a3 := i43a; unfold In at a3)); (first | have a4 := in_u i13 | (have a4 := i13; unfold In at a4)); (first | have a5 := in_u i8 | (have a5 := i8; unfold In at a5)))); omega
      have m46 : 41 - (z13).toInt < ((42 : Nat) : Int) := by (first | have a0 := oa6 ro_32_0 h3 h2 i43a i13 i8 | ((first | have a0 := in_u ro_32_0 | (have a0 := ro_32_0; unfold In at a0)); (first | have a1 := in_u h3 | (have a1 := h3; unfold In at a1)); (first | have a2 := in_u h2 | (have a2 := h2; unfold In at a2)); (first | have a3 := in_u i43a | (have a3 := i43a; unfold In at a3)); (first | have a4 := in_u i13 | (have a4 := i13; unfold In at a4)); (first | have a5 := in_u i8 | (have a5 := i8; unfold In at a5)))); omega
      exact gg_w (by first | exact Nat.le_of_ble_eq_true rfl | omega) (gg_f (gf_cons rfl (gf_cons rfl (gf_cons rfl (gf_cons rfl gf_nil)))) (ct46 42 s43 (A 87) (A 88) z13 z43a u_32_0 hI43 (fr_tr rfl fr_rf hF43) v46 e43 v46a n46 m46))
    · skip
      have i16 := r_lt1 0 39 c16 h3 i13 rfl
      have i16a := r_lt2 1 40 c16 h3 i13 rfl
      refine g_aload_n 20 (gd rfl) rfl rfl ?_
      refine g_aload_n 21 (gd rfl) rfl rfl ?_
      refine g_getI 24 (gd rfl) rfl rfl rfl (fun z21 e21 => ?_)
      have q21 : u_32_0 = z21 := (e_32_0).trans e21.symm
      subst q21
      refine g_putI 27 (gd rfl) rfl rfl rfl rfl ?_
      have hI24 := inv_sF (q := 86) (j := 0) hI rfl (in_w (-1) 4000 ro_32_0 rfl)
      refine g_aload_n 28 (gd rfl) rfl rfl ?_
      refine g_iconst 0 29 (gd rfl) rfl rfl ?_
      refine g_putI 32 (gd rfl) rfl rfl rfl rfl ?_
      have hI29 := inv_sF (q := 86) (j := 1) hI24 rfl (in_w 0 40 (in_c 0 rfl) rfl)
      refine g_aload_n 33 (gd rfl) rfl rfl ?_
      refine g_getA (q2 := 87) 36 (gd rfl) rfl rfl rfl rfl ?_
      refine g_ldc2_w 1000000000000 39 (gd rfl) rfl rfl ?_
      refine g_calls (As := [.ref (A 87), .long (Int64.ofInt 1000000000000)]) (r := []) 42 (gd rfl) rfl rfl rfl rfl rfl (Nat.le_of_ble_eq_true rfl) (Nat.zero_le _) (Nat.zero_le _) (k_fillL 87 (by first | exact dq1 hd rfl | exact dq0 hd rfl | exact dq2 hd rfl | exact dq3 hd rfl | omega) hI29 (n := 32) rfl rfl rfl (l_rng (Int64.ofInt 1000000000000))) (fun v u h => ?_)
      obtain ⟨s39, hI39, hF39, rfl, rfl, fl39⟩ := h
      show GG _ _ _ _ _ _ _ _ [] _ _ _
      refine g_aload_n 43 (gd rfl) rfl rfl ?_
      refine g_callv (X := _) (As := []) (r := []) (b := A 32) (q := 32) 46 (gd rfl) rfl rfl rfl rfl rfl (ww_o rfl) (Nat.le_of_ble_eq_true rfl) (Nat.zero_le _) (Nat.zero_le _) (k_106_32 (by first | exact dq1 hd rfl | exact dq0 hd rfl | exact dq2 hd rfl | exact dq3 hd rfl | omega) hI39 ) (fun e u h => h) (fun v u h => ?_)
      obtain ⟨s43, hI43, hF43, n43, rfl, rfl⟩ := h
      obtain ⟨z43a, e43⟩ : ∃ w, w = s43.2.2.1 32 4 := ⟨_, rfl⟩
      have i43a := inv_F hI43 (-1) 4000 rfl e43
      rw [← (show z43a = s43.2.2.1 32 4 from e43)] at n43
      rw [← (show u_32_0 = s43.2.2.1 32 0 from fr_F (fr_F (s := (sF (sF s 86 0 u_32_0) 86 1 (Int32.ofInt 0))) (sF_ne rfl (sF_ne rfl (e_32_0))) hF39 rfl) hF43 rfl)] at n43
      show GG _ _ _ _ _ _ _ _ [] _ _ _
      rw [show WW Z A s43 ++ ex = WW Z (a2 A (A 87) (A 88)) s43 ++ ex from by rw [a2_id]]
      have v46 : (Int32.ofInt 0) = s43.2.2.1 86 1 := fr_F (fr_F (s := (sF (sF s 86 0 u_32_0) 86 1 (Int32.ofInt 0))) (sF_get) hF39 rfl) hF43 rfl
      have v46a : u_32_0 = s43.2.2.1 32 0 := fr_F (fr_F (s := (sF (sF s 86 0 u_32_0) 86 1 (Int32.ofInt 0))) (sF_ne rfl (sF_ne rfl (e_32_0))) hF39 rfl) hF43 rfl
      have n46 : (z43a).toInt = (u_32_0).toInt := by (first | have a0 := oa5 ro_32_0 i16 h2 i43a ((in_c 0 rfl)) | ((first | have a0 := in_u ro_32_0 | (have a0 := ro_32_0; unfold In at a0)); (first | have a1 := in_u i16 | (have a1 := i16; unfold In at a1)); (first | have a2 := in_u h2 | (have a2 := h2; unfold In at a2)); (first | have a3 := in_u i43a | (have a3 := i43a; unfold In at a3)); (first | have a4 := in_u ((in_c 0 rfl)) | (have a4 := (in_c 0 rfl); unfold In at a4)))); omega
      have m46 : 41 - ((Int32.ofInt 0)).toInt < ((42 : Nat) : Int) := by (first | have a0 := oa5 ro_32_0 i16 h2 i43a ((in_c 0 rfl)) | ((first | have a0 := in_u ro_32_0 | (have a0 := ro_32_0; unfold In at a0)); (first | have a1 := in_u i16 | (have a1 := i16; unfold In at a1)); (first | have a2 := in_u h2 | (have a2 := h2; unfold In at a2)); (first | have a3 := in_u i43a | (have a3 := i43a; unfold In at a3)); (first | have a4 := in_u ((in_c 0 rfl)) | (have a4 := (in_c 0 rfl); unfold In at a4)))); omega
      exact gg_w (by first | exact Nat.le_of_ble_eq_true rfl | omega) (gg_f (gf_cons rfl (gf_cons rfl (gf_cons rfl (gf_cons rfl gf_nil)))) (ct46 42 s43 (A 87) (A 88) (Int32.ofInt 0) z43a u_32_0 hI43 (fr_tr rfl (fr_tr rfl (fr_sF rfl (fr_sF rfl fr_rf)) hF39) hF43) v46 e43 v46a n46 m46))

def fm_115_86_2 : FM := ([89, 90, 92, 93], [], [], [])
/-- GraphHouse$Groups.settleNode -/
theorem k_115_86_2 {Z : AmZ} {A : Nat → Nat} {s : GS} {ex : va_W} {d : Nat} {X : AmX} {x2 : Int32} {u_2_4 : Int32} {u_2_0 : Int32} (hd : 5 ≤ d) (hI : Inv s) (h2 : In x2 0 31) (e_2_4 : u_2_4 = s.2.2.1 2 4) (e_2_0 : u_2_0 = s.2.2.1 2 0) (p_0 : (u_2_4).toInt = (u_2_0).toInt) : GC Z d 115 [.ref (A 86), .ref (A 2), .int x2] (WW Z A s ++ ex) 0 0 (fun v u => ∃ t : GS, Inv t ∧ Fr fm_115_86_2 s t ∧ ∃ z : Int32, v = some (.int z) ∧ u = WW Z A t ++ ex ∧ In z 0 1) X := by
  intro post xp hP hX
  have ro_2_4 := inv_F hI (-1) 4000 rfl e_2_4
  have ro_2_0 := inv_F hI 0 4000 rfl e_2_0
  have ct186 : ∀ (sc186 : GS) (y186_3 : Int32) (y186_4 : Int64) (y186_6 : Int32) (y186_7 : Int32) (y186_8 : Int32), Inv sc186 → Fr fm_115_86_2 s sc186 → (In y186_3 0 31) → (In y186_6 0 31) → (In y186_8 0 0) → GG Z (d - 1) 115 post (gx xp) (901) 186 (fun j => xlook j [(0, .ref (A 86)), (1, .ref (A 2)), (2, .int x2), (3, .int y186_3), (4, .long y186_4), (6, .int y186_6), (7, .int y186_7), (8, .int y186_8)]) [] (WW Z A sc186 ++ ex) 0 0 := by
    intro sc186 y186_3 y186_4 y186_6 y186_7 y186_8 hIc186 hFc186 j186_3 j186_6 j186_8
    refine g_iconst 0 187 (gd rfl) rfl rfl ?_
    exact g_ireturn (gd rfl) rfl (nb01 (in_w 0 1 (in_c 0 rfl) rfl)) (hP _ _ ⟨sc186, hIc186, hFc186, (Int32.ofInt 0), rfl, rfl, in_w 0 1 (in_c 0 rfl) rfl⟩)
  have ct157 : ∀ (sc157 : GS) (y157_3 : Int32) (y157_4 : Int64) (y157_6 : Int32) (y157_7 : Int32) (y157_8 : Int32), Inv sc157 → Fr fm_115_86_2 s sc157 → (In y157_3 0 31) → (In y157_6 (-1) 31) → (In y157_8 0 0) → GG Z (d - 1) 115 post (gx xp) (1802) 157 (fun j => xlook j [(0, .ref (A 86)), (1, .ref (A 2)), (2, .int x2), (3, .int y157_3), (4, .long y157_4), (6, .int y157_6), (7, .int y157_7), (8, .int y157_8)]) [] (WW Z A sc157 ++ ex) 0 0 := by
    intro sc157 y157_3 y157_4 y157_6 y157_7 y157_8 hIc157 hFc157 j157_3 j157_6 j157_8
    refine g_iconst 0 158 (gd rfl) rfl rfl ?_
    exact g_ireturn (gd rfl) rfl (nb01 (in_w 0 1 (in_c 0 rfl) rfl)) (hP _ _ ⟨sc157, hIc157, hFc157, (Int32.ofInt 0), rfl, rfl, in_w 0 1 (in_c 0 rfl) rfl⟩)
  have ct134 : ∀ (sc134 : GS) (y134_3 : Int32) (y134_4 : Int64) (y134_6 : Int32) (y134_7 : Int32) (y134_8 : Int32), Inv sc134 → Fr fm_115_86_2 s sc134 → (In y134_3 0 31) → (In y134_6 (-1) 31) → (In y134_8 0 0) → GG Z (d - 1) 115 post (gx xp) (2703) 134 (fun j => xlook j [(0, .ref (A 86)), (1, .ref (A 2)), (2, .int x2), (3, .int y134_3), (4, .long y134_4), (6, .int y134_6), (7, .int y134_7), (8, .int y134_8)]) [] (WW Z A sc134 ++ ex) 0 0 := by
    intro sc134 y134_3 y134_4 y134_6 y134_7 y134_8 hIc134 hFc134 j134_3 j134_6 j134_8
    refine g_lconst 0 135 (gd rfl) rfl rfl ?_
    refine g_lload 137 (gd rfl) rfl rfl ?_
    refine g_lcmp 138 (gd rfl) rfl (fun z137 e137 => ?_)
    have i137 := lc_in e137
    refine g_if_le 141 157 (gd rfl) rfl rfl (fun c138 => ?_) (fun c138 => ?_)
    · skip
      have i138 := z_le (-1) 0 c138 i137 rfl
      have c138a := lc_le e137 c138
      have i138a := lr_le2 0 9223372036854775807 c138a (l_c 0 rfl) (l_rng y134_4) rfl
      exact gg_w (by first | exact Nat.le_of_ble_eq_true rfl | omega) (gg_f (gf_cons rfl (gf_cons rfl (gf_cons rfl (gf_cons rfl (gf_cons rfl (gf_cons rfl (gf_cons rfl (gf_cons rfl gf_nil)))))))) (ct157 sc134 y134_3 y134_4 y134_6 y134_7 y134_8 hIc134 hFc134 (in_w 0 31 j134_3 rfl) (in_w (-1) 31 j134_6 rfl) (in_w 0 0 j134_8 rfl)))
    · skip
      have i138 := z_gt 1 1 c138 i137 rfl
      have c138a := lc_gt e137 c138
      have i138a := lr_lt1 (-9223372036854775808) (-1) c138a (l_rng y134_4) (l_c 0 rfl) rfl
      refine g_aload_n 142 (gd rfl) rfl rfl ?_
      refine g_iload_n 143 (gd rfl) rfl rfl ?_
      refine g_aload_n 144 (gd rfl) rfl rfl ?_
      refine g_callv (X := _) (As := []) (r := [.int x2, .ref (A 86)]) (b := A 86) (q := 86) 147 (gd rfl) rfl rfl rfl rfl rfl (ww_o rfl) (Nat.le_of_ble_eq_true rfl) (Nat.zero_le _) (Nat.zero_le _) (k_119_86 (by first | exact dq1 hd rfl | exact dq0 hd rfl | exact dq2 hd rfl | exact dq3 hd rfl | omega) hIc134 ) (fun e u h => h) (fun v u h => ?_)
      obtain ⟨z144, rfl, rfl, i144⟩ := h
      show GG _ _ _ _ _ _ _ _ [.int z144, .int x2, .ref (A 86)] _ _ _
      refine g_callv (X := _) (As := [.int x2, .int z144]) (r := []) (b := A 86) (q := 86) 150 (gd rfl) rfl rfl rfl rfl rfl (ww_o rfl) (Nat.le_of_ble_eq_true rfl) (Nat.zero_le _) (Nat.zero_le _) (k_120_86 (by first | exact dq1 hd rfl | exact dq0 hd rfl | exact dq2 hd rfl | exact dq3 hd rfl | omega) hIc134 (in_w 0 31 h2 rfl) (in_w (-1) 31 i144 rfl)) (fun e u h => h) (fun v u h => ?_)
      obtain ⟨s147, hI147, hF147, z147, rfl, rfl, i147⟩ := h
      show GG _ _ _ _ _ _ _ _ [.int z147] _ _ _
      refine g_if_eq 153 157 (gd rfl) rfl rfl (fun c150 => ?_) (fun c150 => ?_)
      · skip
        have i150 := z_eq 0 0 c150 i147 rfl
        exact gg_w (by first | exact Nat.le_of_ble_eq_true rfl | omega) (gg_f (gf_cons rfl (gf_cons rfl (gf_cons rfl (gf_cons rfl (gf_cons rfl (gf_cons rfl (gf_cons rfl (gf_cons rfl gf_nil)))))))) (ct157 s147 y134_3 y134_4 y134_6 y134_7 y134_8 hI147 (fr_tr rfl hFc134 hF147) (in_w 0 31 j134_3 rfl) (in_w (-1) 31 j134_6 rfl) (in_w 0 0 j134_8 rfl)))
      · skip
        have i150 := z_ne 1 1 c150 i147 rfl
        refine g_iconst 1 154 (gd rfl) rfl rfl ?_
        refine g_goto 158 (gd rfl) rfl ?_
        exact g_ireturn (gd rfl) rfl (nb01 (in_w 0 1 (in_c 1 rfl) rfl)) (hP _ _ ⟨s147, hI147, (fr_tr rfl hFc134 hF147), (Int32.ofInt 1), rfl, rfl, in_w 0 1 (in_c 1 rfl) rfl⟩)
  have ct35 : ∀ (k35 : Nat) (sc35 : GS) (y35_3 : Int32) (y35_4 : Int64) (y35_6 : Int32) (y35_7 : Int32) (y35_8 : Int32), Inv sc35 → Fr fm_115_86_2 s sc35 → (In y35_3 0 31) → (In y35_6 (-1) 31) → ((y35_8.toBitVec.toNat : Nat) : Int) < (k35 : Int) → GG Z (d - 1) 115 post (gx xp) (2704 + k35 * 2702) 35 (fun j => xlook j [(0, .ref (A 86)), (1, .ref (A 2)), (2, .int x2), (3, .int y35_3), (4, .long y35_4), (6, .int y35_6), (7, .int y35_7), (8, .int y35_8)]) [] (WW Z A sc35 ++ ex) 0 0 := by
    intro k35
    induction k35 with
    | zero => intro sc35 y35_3 y35_4 y35_6 y35_7 y35_8 hIc35 hFc35 j35_3 j35_6 mm35; exact absurd mm35 (Int.not_lt.mpr (Int.natCast_nonneg _))
    | succ k35 ih35 =>
      intro sc35 y35_3 y35_4 y35_6 y35_7 y35_8 hIc35 hFc35 j35_3 j35_6 mm35
      refine gg_w (M := 2704 + k35 * 2702 + 2702) gws ?_
      have ct104 : ∀ (sc104 : GS) (y104_6 : Int32) (y104_7 : Int32) (y104_9 : Int32), Inv sc104 → Fr fm_115_86_2 s sc104 → (In y104_6 (-1) 31) → (In y104_9 0 31) → ((y35_8).toInt ≠ 0) → GG Z (d - 1) 115 post (gx xp) (2704 + k35 * 2702 + 901) 104 (fun j => xlook j [(0, .ref (A 86)), (1, .ref (A 2)), (2, .int x2), (3, .int y35_3), (4, .long y35_4), (6, .int y104_6), (7, .int y104_7), (8, .int y35_8), (9, .int y104_9)]) [] (WW Z A sc104 ++ ex) 0 0 := by
        intro sc104 y104_6 y104_7 y104_9 hIc104 hFc104 j104_6 j104_9 nz104_8
        refine g_iload 106 (gd rfl) rfl rfl ?_
        refine g_iload 108 (gd rfl) rfl rfl ?_
        refine g_iconst 1 109 (gd rfl) rfl rfl ?_
        refine g_isub 110 (gd rfl) rfl (fun z109 e109 => ?_)
        refine g_iand 111 (gd rfl) rfl (fun z110 e110 => ?_)
        refine g_istore 113 (gd rfl) rfl (Nat.le_of_ble_eq_true rfl) ?_
        refine g_goto 35 (gd rfl) rfl ?_
        exact gg_w (by first | exact Nat.le_add_right _ _ | exact gw2 | exact gw3 | exact gwe rfl | exact gwf rfl | exact gwg rfl | exact gwh rfl | omega) (gg_f (gf_cons rfl (gf_cons rfl (gf_cons rfl (gf_cons rfl (gf_cons rfl (gf_cons rfl (gf_cons rfl (gf_cons rfl gf_nil)))))))) (ih35 sc104 y35_3 y35_4 y104_6 y104_7 z110 hIc104 hFc104 (in_w 0 31 j35_3 rfl) (in_w (-1) 31 j104_6 rfl) (mb e110 e109 nz104_8 mm35)))
      have ct95 : ∀ (sc95 : GS) (y95_7 : Int32) (y95_9 : Int32), Inv sc95 → Fr fm_115_86_2 s sc95 → (In y95_9 0 31) → ((y35_8).toInt ≠ 0) → GG Z (d - 1) 115 post (gx xp) (2704 + k35 * 2702 + 1802) 95 (fun j => xlook j [(0, .ref (A 86)), (1, .ref (A 2)), (2, .int x2), (3, .int y35_3), (4, .long y35_4), (6, .int y35_6), (7, .int y95_7), (8, .int y35_8), (9, .int y95_9)]) [] (WW Z A sc95 ++ ex) 0 0 := by
        intro sc95 y95_7 y95_9 hIc95 hFc95 j95_9 nz95_8
        refine g_iload 97 (gd rfl) rfl rfl ?_
        refine g_goto 102 (gd rfl) rfl ?_
        refine g_istore 104 (gd rfl) rfl (Nat.le_of_ble_eq_true rfl) ?_
        exact gg_w (by first | exact Nat.le_add_right _ _ | exact gw2 | exact gw3 | exact gwe rfl | exact gwf rfl | exact gwg rfl | exact gwh rfl | omega) (gg_f (gf_cons rfl (gf_cons rfl (gf_cons rfl (gf_cons rfl (gf_cons rfl (gf_cons rfl (gf_cons rfl (gf_cons rfl (gf_cons rfl gf_nil))))))))) (ct104 sc95 y95_9 y95_7 y95_9 hIc95 hFc95 (in_w (-1) 31 j95_9 rfl) (in_w 0 31 j95_9 rfl) nz95_8))
      refine g_iload 37 (gd rfl) rfl rfl ?_
      refine g_if_eq 40 116 (gd rfl) rfl rfl (fun c37 => ?_) (fun c37 => ?_)
      · skip
        have i37 := z_eq 0 0 c37 (i_rng y35_8) rfl
        refine g_iload 118 (gd rfl) rfl rfl ?_
        refine g_iconst (-1) 119 (gd rfl) rfl rfl ?_
        refine g_cmp_eq 122 134 (gd rfl) rfl rfl (fun c119 => ?_) (fun c119 => ?_)
        · skip
          have i119 := r_eq1 (-1) (-1) c119 j35_6 (in_c (-1) rfl) rfl
          exact gg_w (by first | exact Nat.le_add_right _ _ | exact gw2 | exact gw3 | exact gwe rfl | exact gwf rfl | exact gwg rfl | exact gwh rfl | omega) (gg_f (gf_cons rfl (gf_cons rfl (gf_cons rfl (gf_cons rfl (gf_cons rfl (gf_cons rfl (gf_cons rfl (gf_cons rfl gf_nil)))))))) (ct134 sc35 y35_3 y35_4 y35_6 y35_7 y35_8 hIc35 hFc35 (in_w 0 31 j35_3 rfl) (in_w (-1) 31 i119 rfl) (in_w 0 0 i37 rfl)))
        · skip
          have i119 := r_ne1 0 31 c119 j35_6 (in_c (-1) rfl) rfl
          refine g_aload_n 123 (gd rfl) rfl rfl ?_
          refine g_iload_n 124 (gd rfl) rfl rfl ?_
          refine g_iload 126 (gd rfl) rfl rfl ?_
          refine g_callv (X := _) (As := [.int x2, .int y35_6]) (r := []) (b := A 86) (q := 86) 129 (gd rfl) rfl rfl rfl rfl rfl (ww_o rfl) (Nat.le_of_ble_eq_true rfl) (Nat.zero_le _) (Nat.zero_le _) (k_118_86 (by first | exact dq1 hd rfl | exact dq0 hd rfl | exact dq2 hd rfl | exact dq3 hd rfl | omega) hIc35 (in_w 0 31 h2 rfl) (in_w 0 31 i119 rfl)) (fun e u h => h) (fun v u h => ?_)
          obtain ⟨z126, rfl, rfl⟩ := h
          show GG _ _ _ _ _ _ _ _ [.long z126] _ _ _
          refine g_lconst 0 130 (gd rfl) rfl rfl ?_
          refine g_lcmp 131 (gd rfl) rfl (fun z130 e130 => ?_)
          have i130 := lc_in e130
          refine g_if_ge 134 159 (gd rfl) rfl rfl (fun c131 => ?_) (fun c131 => ?_)
          · skip
            have i131 := z_ge 0 1 c131 i130 rfl
            have c131a := lc_ge e130 c131
            have i131a := lr_le2 0 9223372036854775807 c131a (l_c 0 rfl) (l_rng z126) rfl
            refine g_aload_n 160 (gd rfl) rfl rfl ?_
            refine g_iload_n 161 (gd rfl) rfl rfl ?_
            refine g_iload 163 (gd rfl) rfl rfl ?_
            refine g_callv (X := _) (As := [.int x2, .int y35_6]) (r := []) (b := A 86) (q := 86) 166 (gd rfl) rfl rfl rfl rfl rfl (ww_o rfl) (Nat.le_of_ble_eq_true rfl) (Nat.zero_le _) (Nat.zero_le _) (k_118_86 (by first | exact dq1 hd rfl | exact dq0 hd rfl | exact dq2 hd rfl | exact dq3 hd rfl | omega) hIc35 (in_w 0 31 h2 rfl) (in_w 0 31 i119 rfl)) (fun e u h => h) (fun v u h => ?_)
            obtain ⟨z163, rfl, rfl⟩ := h
            show GG _ _ _ _ _ _ _ _ [.long z163] _ _ _
            refine g_lload 168 (gd rfl) rfl rfl ?_
            refine g_lcmp 169 (gd rfl) rfl (fun z168 e168 => ?_)
            have i168 := lc_in e168
            refine g_if_le 172 186 (gd rfl) rfl rfl (fun c169 => ?_) (fun c169 => ?_)
            · skip
              have i169 := z_le (-1) 0 c169 i168 rfl
              have c169a := lc_le e168 c169
              exact gg_w (by first | exact Nat.le_add_right _ _ | exact gw2 | exact gw3 | exact gwe rfl | exact gwf rfl | exact gwg rfl | exact gwh rfl | omega) (gg_f (gf_cons rfl (gf_cons rfl (gf_cons rfl (gf_cons rfl (gf_cons rfl (gf_cons rfl (gf_cons rfl (gf_cons rfl gf_nil)))))))) (ct186 sc35 y35_3 y35_4 y35_6 y35_7 y35_8 hIc35 hFc35 (in_w 0 31 j35_3 rfl) (in_w 0 31 i119 rfl) (in_w 0 0 i37 rfl)))
            · skip
              have i169 := z_gt 1 1 c169 i168 rfl
              have c169a := lc_gt e168 c169
              have i169a := lr_lt1 (-9223372036854775808) 9223372036854775806 c169a (l_rng y35_4) (l_rng z163) rfl
              have i169b := lr_lt2 (-9223372036854775807) 9223372036854775807 c169a (l_rng y35_4) (l_rng z163) rfl
              refine g_aload_n 173 (gd rfl) rfl rfl ?_
              refine g_iload_n 174 (gd rfl) rfl rfl ?_
              refine g_iload 176 (gd rfl) rfl rfl ?_
              refine g_callv (X := _) (As := [.int x2, .int y35_6]) (r := []) (b := A 86) (q := 86) 179 (gd rfl) rfl rfl rfl rfl rfl (ww_o rfl) (Nat.le_of_ble_eq_true rfl) (Nat.zero_le _) (Nat.zero_le _) (k_120_86 (by first | exact dq1 hd rfl | exact dq0 hd rfl | exact dq2 hd rfl | exact dq3 hd rfl | omega) hIc35 (in_w 0 31 h2 rfl) (in_w (-1) 31 i119 rfl)) (fun e u h => h) (fun v u h => ?_)
              obtain ⟨s176, hI176, hF176, z176, rfl, rfl, i176⟩ := h
              show GG _ _ _ _ _ _ _ _ [.int z176] _ _ _
              refine g_if_eq 182 186 (gd rfl) rfl rfl (fun c179 => ?_) (fun c179 => ?_)
              · skip
                have i179 := z_eq 0 0 c179 i176 rfl
                exact gg_w (by first | exact Nat.le_add_right _ _ | exact gw2 | exact gw3 | exact gwe rfl | exact gwf rfl | exact gwg rfl | exact gwh rfl | omega) (gg_f (gf_cons rfl (gf_cons rfl (gf_cons rfl (gf_cons rfl (gf_cons rfl (gf_cons rfl (gf_cons rfl (gf_cons rfl gf_nil)))))))) (ct186 s176 y35_3 y35_4 y35_6 y35_7 y35_8 hI176 (fr_tr rfl hFc35 hF176) (in_w 0 31 j35_3 rfl) (in_w 0 31 i119 rfl) (in_w 0 0 i37 rfl)))
              · skip
                have i179 := z_ne 1 1 c179 i176 rfl
                refine g_iconst 1 183 (gd rfl) rfl rfl ?_
                refine g_goto 187 (gd rfl) rfl ?_
                exact g_ireturn (gd rfl) rfl (nb01 (in_w 0 1 (in_c 1 rfl) rfl)) (hP _ _ ⟨s176, hI176, (fr_tr rfl hFc35 hF176), (Int32.ofInt 1), rfl, rfl, in_w 0 1 (in_c 1 rfl) rfl⟩)
          · skip
            have i131 := z_lt (-1) (-1) c131 i130 rfl
            have c131a := lc_lt e130 c131
            have i131a := lr_lt1 (-9223372036854775808) (-1) c131a (l_rng z126) (l_c 0 rfl) rfl
            exact gg_w (by first | exact Nat.le_add_right _ _ | exact gw2 | exact gw3 | exact gwe rfl | exact gwf rfl | exact gwg rfl | exact gwh rfl | omega) (gg_f (gf_cons rfl (gf_cons rfl (gf_cons rfl (gf_cons rfl (gf_cons rfl (gf_cons rfl (gf_cons rfl (gf_cons rfl gf_nil)))))))) (ct134 sc35 y35_3 y35_4 y35_6 y35_7 y35_8 hIc35 hFc35 (in_w 0 31 j35_3 rfl) (in_w (-1) 31 i119 rfl) (in_w 0 0 i37 rfl)))
      · skip
        refine g_aload_n 41 (gd rfl) rfl rfl ?_
        refine g_getA (q2 := 89) 44 (gd rfl) rfl rfl rfl rfl ?_
        refine g_iload 46 (gd rfl) rfl rfl ?_
        refine g_calls (As := [.int y35_8]) (r := [.ref (A 89)]) 49 (gd rfl) rfl rfl rfl rfl rfl (Nat.le_of_ble_eq_true rfl) (Nat.zero_le _) (Nat.zero_le _) (k_264n (by first | exact dq1 hd rfl | exact dq0 hd rfl | exact dq2 hd rfl | exact dq3 hd rfl | omega) c37) (fun v u h => ?_)
        obtain ⟨z46, rfl, rfl, i46, hb46, hl46⟩ := h
        show GG _ _ _ _ _ _ _ _ [.int z46, .ref (A 89)] _ _ _
        refine g_iaload 50 (gd rfl) rfl (n := 32) rfl (in_ix i46 rfl) (fun z49 e49 => ?_)
        have i49 := inv_I hIc35 (n := 32) (t := 0) 0 31 rfl (in_ix i46 rfl) rfl e49
        refine g_istore 52 (gd rfl) rfl (Nat.le_of_ble_eq_true rfl) ?_
        refine g_iload 54 (gd rfl) rfl rfl ?_
        refine g_iload_n 55 (gd rfl) rfl rfl ?_
        refine g_cmp_eq 58 104 (gd rfl) rfl rfl (fun c55 => ?_) (fun c55 => ?_)
        · skip
          exact gg_w (by first | exact Nat.le_add_right _ _ | exact gw2 | exact gw3 | exact gwe rfl | exact gwf rfl | exact gwg rfl | exact gwh rfl | omega) (gg_f (gf_cons rfl (gf_cons rfl (gf_cons rfl (gf_cons rfl (gf_cons rfl (gf_cons rfl (gf_cons rfl (gf_cons rfl (gf_cons rfl gf_nil))))))))) (ct104 sc35 y35_6 y35_7 z49 hIc35 hFc35 (in_w (-1) 31 j35_6 rfl) (in_w 0 31 i49 rfl) c37))
        · skip
          refine g_iload 60 (gd rfl) rfl rfl ?_
          refine g_iload 62 (gd rfl) rfl rfl ?_
          refine g_ishr 63 (gd rfl) rfl (fun z62 e62 => ?_)
          refine g_iconst 1 64 (gd rfl) rfl rfl ?_
          refine g_iand 65 (gd rfl) rfl (fun z64 e64 => ?_)
          have i64 := in_and2 e64 (in_c 1 rfl) rfl
          refine g_if_ne 68 104 (gd rfl) rfl rfl (fun c65 => ?_) (fun c65 => ?_)
          · skip
            have i65 := z_ne 1 1 c65 i64 rfl
            exact gg_w (by first | exact Nat.le_add_right _ _ | exact gw2 | exact gw3 | exact gwe rfl | exact gwf rfl | exact gwg rfl | exact gwh rfl | omega) (gg_f (gf_cons rfl (gf_cons rfl (gf_cons rfl (gf_cons rfl (gf_cons rfl (gf_cons rfl (gf_cons rfl (gf_cons rfl (gf_cons rfl gf_nil))))))))) (ct104 sc35 y35_6 y35_7 z49 hIc35 hFc35 (in_w (-1) 31 j35_6 rfl) (in_w 0 31 i49 rfl) c37))
          · skip
            have i65 := z_eq 0 0 c65 i64 rfl
            refine g_iload 70 (gd rfl) rfl rfl ?_
            refine g_iconst 1 71 (gd rfl) rfl rfl ?_
            refine g_iload 73 (gd rfl) rfl rfl ?_
            refine g_ishl 74 (gd rfl) rfl (fun z73 e73 => ?_)
            refine g_ior 75 (gd rfl) rfl (fun z74 e74 => ?_)
            refine g_istore 77 (gd rfl) rfl (Nat.le_of_ble_eq_true rfl) ?_
            refine g_iload 79 (gd rfl) rfl rfl ?_
            refine g_iconst (-1) 80 (gd rfl) rfl rfl ?_
            refine g_cmp_eq 83 95 (gd rfl) rfl rfl (fun c80 => ?_) (fun c80 => ?_)
            · skip
              have i80 := r_eq1 (-1) (-1) c80 j35_6 (in_c (-1) rfl) rfl
              exact gg_w (by first | exact Nat.le_add_right _ _ | exact gw2 | exact gw3 | exact gwe rfl | exact gwf rfl | exact gwg rfl | exact gwh rfl | omega) (gg_f (gf_cons rfl (gf_cons rfl (gf_cons rfl (gf_cons rfl (gf_cons rfl (gf_cons rfl (gf_cons rfl (gf_cons rfl (gf_cons rfl gf_nil))))))))) (ct95 sc35 z74 z49 hIc35 hFc35 (in_w 0 31 i49 rfl) c37))
            · skip
              have i80 := r_ne1 0 31 c80 j35_6 (in_c (-1) rfl) rfl
              refine g_aload_n 84 (gd rfl) rfl rfl ?_
              refine g_iload_n 85 (gd rfl) rfl rfl ?_
              refine g_iload 87 (gd rfl) rfl rfl ?_
              refine g_iload 89 (gd rfl) rfl rfl ?_
              refine g_callv (X := _) (As := [.int x2, .int z49, .int y35_6]) (r := []) (b := A 86) (q := 86) 92 (gd rfl) rfl rfl rfl rfl rfl (ww_o rfl) (Nat.le_of_ble_eq_true rfl) (mc := 0) (ms := 0) (Nat.zero_le _) (Nat.zero_le _) (P := fun v u => _) ?_ (fun e u h => h) (fun v u h => h)
              intro po89 xx89 hp89 hx89
              refine g_enter2 (k := 116) (N := 300) (by first | exact dq1 hd rfl | exact dq0 hd rfl | exact dq2 hd rfl | exact dq3 hd rfl | omega) rfl (Nat.le_of_ble_eq_true rfl) ?_
              refine g_aload_n 1 (gd rfl) rfl rfl ?_
              refine g_iload_n 2 (gd rfl) rfl rfl ?_
              refine g_iload_n 3 (gd rfl) rfl rfl ?_
              refine g_callv (X := _) (As := [.int x2, .int z49]) (r := []) (b := A 86) (q := 86) 6 (gd rfl) rfl rfl rfl rfl rfl (ww_o rfl) (Nat.le_of_ble_eq_true rfl) (Nat.zero_le _) (Nat.zero_le _) (k_118_86 (by first | exact dq1 hd rfl | exact dq0 hd rfl | exact dq2 hd rfl | exact dq3 hd rfl | omega) hIc35 (in_w 0 31 h2 rfl) (in_w 0 31 i49 rfl)) (fun e u h => h) (fun v u h => ?_)
              obtain ⟨z89x3, rfl, rfl⟩ := h
              show GG _ _ _ _ _ _ _ _ [.long z89x3] _ _ _
              refine g_aload_n 7 (gd rfl) rfl rfl ?_
              refine g_iload_n 8 (gd rfl) rfl rfl ?_
              refine g_iload_n 9 (gd rfl) rfl rfl ?_
              refine g_callv (X := _) (As := [.int x2, .int y35_6]) (r := [.long z89x3]) (b := A 86) (q := 86) 12 (gd rfl) rfl rfl rfl rfl rfl (ww_o rfl) (Nat.le_of_ble_eq_true rfl) (Nat.zero_le _) (Nat.zero_le _) (k_118_86 (by first | exact dq1 hd rfl | exact dq0 hd rfl | exact dq2 hd rfl | exact dq3 hd rfl | omega) hIc35 (in_w 0 31 h2 rfl) (in_w 0 31 i80 rfl)) (fun e u h => h) (fun v u h => ?_)
              obtain ⟨z89x9, rfl, rfl⟩ := h
              show GG _ _ _ _ _ _ _ _ [.long z89x9, .long z89x3] _ _ _
              refine g_lsub 13 (gd rfl) rfl (fun z89x12 e89x12 => ?_)
              refine g_lstore 15 (gd rfl) rfl (Nat.le_of_ble_eq_true rfl) ?_
              refine g_lload 17 (gd rfl) rfl rfl ?_
              refine g_lconst 0 18 (gd rfl) rfl rfl ?_
              refine g_lcmp 19 (gd rfl) rfl (fun z89x18 e89x18 => ?_)
              have i89x18 := lc_in e89x18
              refine g_if_gt 22 50 (gd rfl) rfl rfl (fun c89x19 => ?_) (fun c89x19 => ?_)
              · skip
                have i89x19 := z_gt 1 1 c89x19 i89x18 rfl
                have c89x19a := lc_gt e89x18 c89x19
                have i89x19a := lr_lt2 1 9223372036854775807 c89x19a (l_c 0 rfl) (l_rng z89x12) rfl
                refine g_iconst 1 51 (gd rfl) rfl rfl ?_
                refine g_goto 55 (gd rfl) rfl ?_
                refine g_ireturn (gd rfl) rfl (nb01 (in_w 0 1 (in_c 1 rfl) rfl)) (hp89 _ _ ?_)
                show GG _ _ _ _ _ _ _ _ [.int (Int32.ofInt 1)] _ _ _
                refine g_if_eq 95 100 (gd rfl) rfl rfl (fun c92 => ?_) (fun c92 => ?_)
                · skip
                  exact zn_eq c92 (in_c 1 rfl) rfl
                · skip
                  exact gg_w (by first | exact Nat.le_add_right _ _ | exact gw2 | exact gw3 | exact gwe rfl | exact gwf rfl | exact gwg rfl | exact gwh rfl | omega) (gg_f (gf_cons rfl (gf_cons rfl (gf_cons rfl (gf_cons rfl (gf_cons rfl (gf_cons rfl (gf_cons rfl (gf_cons rfl (gf_cons rfl gf_nil))))))))) (ct95 sc35 z74 z49 hIc35 hFc35 (in_w 0 31 i49 rfl) c37))
              · skip
                have i89x19 := z_le (-1) 0 c89x19 i89x18 rfl
                have c89x19a := lc_le e89x18 c89x19
                have i89x19a := lr_le1 (-9223372036854775808) 0 c89x19a (l_rng z89x12) (l_c 0 rfl) rfl
                refine g_lload 24 (gd rfl) rfl rfl ?_
                refine g_lconst 0 25 (gd rfl) rfl rfl ?_
                refine g_lcmp 26 (gd rfl) rfl (fun z89x25 e89x25 => ?_)
                have i89x25 := lc_in e89x25
                refine g_if_ne 29 54 (gd rfl) rfl rfl (fun c89x26 => ?_) (fun c89x26 => ?_)
                · skip
                  have c89x26a := lc_ne e89x25 c89x26
                  have i89x26 := lr_ne1 (-9223372036854775808) (-1) c89x26a i89x19a (l_c 0 rfl) rfl
                  refine g_iconst 0 55 (gd rfl) rfl rfl ?_
                  refine g_ireturn (gd rfl) rfl (nb01 (in_w 0 1 (in_c 0 rfl) rfl)) (hp89 _ _ ?_)
                  show GG _ _ _ _ _ _ _ _ [.int (Int32.ofInt 0)] _ _ _
                  refine g_if_eq 95 100 (gd rfl) rfl rfl (fun c92 => ?_) (fun c92 => ?_)
                  · skip
                    refine g_iload 102 (gd rfl) rfl rfl ?_
                    refine g_istore 104 (gd rfl) rfl (Nat.le_of_ble_eq_true rfl) ?_
                    exact gg_w (by first | exact Nat.le_add_right _ _ | exact gw2 | exact gw3 | exact gwe rfl | exact gwf rfl | exact gwg rfl | exact gwh rfl | omega) (gg_f (gf_cons rfl (gf_cons rfl (gf_cons rfl (gf_cons rfl (gf_cons rfl (gf_cons rfl (gf_cons rfl (gf_cons rfl (gf_cons rfl gf_nil))))))))) (ct104 sc35 y35_6 z74 z49 hIc35 hFc35 (in_w (-1) 31 i80 rfl) (in_w 0 31 i49 rfl) c37))
                  · skip
                    exact zn_ne c92 (in_c 0 rfl) rfl
                · skip
                  have i89x26 := z_eq 0 0 c89x26 i89x25 rfl
                  have c89x26a := lc_eq e89x25 c89x26
                  have i89x26a := lr_eq1 0 0 c89x26a i89x19a (l_c 0 rfl) rfl
                  refine g_aload_n 30 (gd rfl) rfl rfl ?_
                  refine g_getA (q2 := 90) 33 (gd rfl) rfl rfl rfl rfl ?_
                  refine g_iload_n 34 (gd rfl) rfl rfl ?_
                  refine g_iaload 35 (gd rfl) rfl (n := 32) rfl (in_ix i49 rfl) (fun z89x34 e89x34 => ?_)
                  refine g_calls (As := [.int z89x34]) (r := []) 38 (gd rfl) rfl rfl rfl rfl rfl (Nat.le_of_ble_eq_true rfl) (Nat.zero_le _) (Nat.zero_le _) (k_264 (by first | exact dq1 hd rfl | exact dq0 hd rfl | exact dq2 hd rfl | exact dq3 hd rfl | omega)) (fun v u h => ?_)
                  obtain ⟨z89x35, rfl, rfl, i89x35, hb89x35⟩ := h
                  show GG _ _ _ _ _ _ _ _ [.int z89x35] _ _ _
                  refine g_aload_n 39 (gd rfl) rfl rfl ?_
                  refine g_getA (q2 := 90) 42 (gd rfl) rfl rfl rfl rfl ?_
                  refine g_iload_n 43 (gd rfl) rfl rfl ?_
                  refine g_iaload 44 (gd rfl) rfl (n := 32) rfl (in_ix i80 rfl) (fun z89x43 e89x43 => ?_)
                  refine g_calls (As := [.int z89x43]) (r := [.int z89x35]) 47 (gd rfl) rfl rfl rfl rfl rfl (Nat.le_of_ble_eq_true rfl) (Nat.zero_le _) (Nat.zero_le _) (k_264 (by first | exact dq1 hd rfl | exact dq0 hd rfl | exact dq2 hd rfl | exact dq3 hd rfl | omega)) (fun v u h => ?_)
                  obtain ⟨z89x44, rfl, rfl, i89x44, hb89x44⟩ := h
                  show GG _ _ _ _ _ _ _ _ [.int z89x44, .int z89x35] _ _ _
                  refine g_cmp_ge 50 54 (gd rfl) rfl rfl (fun c89x47 => ?_) (fun c89x47 => ?_)
                  · skip
                    refine g_iconst 0 55 (gd rfl) rfl rfl ?_
                    refine g_ireturn (gd rfl) rfl (nb01 (in_w 0 1 (in_c 0 rfl) rfl)) (hp89 _ _ ?_)
                    show GG _ _ _ _ _ _ _ _ [.int (Int32.ofInt 0)] _ _ _
                    refine g_if_eq 95 100 (gd rfl) rfl rfl (fun c92 => ?_) (fun c92 => ?_)
                    · skip
                      refine g_iload 102 (gd rfl) rfl rfl ?_
                      refine g_istore 104 (gd rfl) rfl (Nat.le_of_ble_eq_true rfl) ?_
                      exact gg_w (by first | exact Nat.le_add_right _ _ | exact gw2 | exact gw3 | exact gwe rfl | exact gwf rfl | exact gwg rfl | exact gwh rfl | omega) (gg_f (gf_cons rfl (gf_cons rfl (gf_cons rfl (gf_cons rfl (gf_cons rfl (gf_cons rfl (gf_cons rfl (gf_cons rfl (gf_cons rfl gf_nil))))))))) (ct104 sc35 y35_6 z74 z49 hIc35 hFc35 (in_w (-1) 31 i80 rfl) (in_w 0 31 i49 rfl) c37))
                    · skip
                      exact zn_ne c92 (in_c 0 rfl) rfl
                  · skip
                    have i89x47 := r_lt1 0 31 c89x47 i89x35 i89x44 rfl
                    have i89x47a := r_lt2 1 32 c89x47 i89x35 i89x44 rfl
                    refine g_iconst 1 51 (gd rfl) rfl rfl ?_
                    refine g_goto 55 (gd rfl) rfl ?_
                    refine g_ireturn (gd rfl) rfl (nb01 (in_w 0 1 (in_c 1 rfl) rfl)) (hp89 _ _ ?_)
                    show GG _ _ _ _ _ _ _ _ [.int (Int32.ofInt 1)] _ _ _
                    refine g_if_eq 95 100 (gd rfl) rfl rfl (fun c92 => ?_) (fun c92 => ?_)
                    · skip
                      exact zn_eq c92 (in_c 1 rfl) rfl
                    · skip
                      exact gg_w (by first | exact Nat.le_add_right _ _ | exact gw2 | exact gw3 | exact gwe rfl | exact gwf rfl | exact gwg rfl | exact gwh rfl | omega) (gg_f (gf_cons rfl (gf_cons rfl (gf_cons rfl (gf_cons rfl (gf_cons rfl (gf_cons rfl (gf_cons rfl (gf_cons rfl (gf_cons rfl gf_nil))))))))) (ct95 sc35 z74 z49 hIc35 hFc35 (in_w 0 31 i49 rfl) c37))
  refine g_enter2 (k := 115) (N := 11605001637396) (by first | exact dq1 hd rfl | exact dq0 hd rfl | exact dq2 hd rfl | exact dq3 hd rfl | omega) rfl (Nat.le_of_ble_eq_true rfl) ?_
  refine g_aload_n 1 (gd rfl) rfl rfl ?_
  refine g_aload_n 2 (gd rfl) rfl rfl ?_
  refine g_iload_n 3 (gd rfl) rfl rfl ?_
  have n3 : (u_2_4).toInt = (u_2_0).toInt := by (first | have a0 := oa3 ((inv_F hI 0 4000 rfl e_2_0)) ((inv_F hI (-1) 4000 rfl e_2_4)) h2 | ((first | have a0 := in_u ((inv_F hI 0 4000 rfl e_2_0)) | (have a0 := (inv_F hI 0 4000 rfl e_2_0); unfold In at a0)); (first | have a1 := in_u ((inv_F hI (-1) 4000 rfl e_2_4)) | (have a1 := (inv_F hI (-1) 4000 rfl e_2_4); unfold In at a1)); (first | have a2 := in_u h2 | (have a2 := h2; unfold In at a2)))); omega
  refine g_callv (X := _) (As := [.ref (A 2), .int x2]) (r := []) (b := A 86) (q := 86) 6 (gd rfl) rfl rfl rfl rfl rfl (ww_o rfl) (Nat.le_of_ble_eq_true rfl) (Nat.zero_le _) (Nat.zero_le _) (k_117_86_2 (by first | exact dq1 hd rfl | exact dq0 hd rfl | exact dq2 hd rfl | exact dq3 hd rfl | omega) hI (in_w 0 31 h2 rfl) e_2_4 e_2_0 n3) (fun e u h => h) (fun v u h => ?_)
  obtain ⟨s3, hI3, hF3, rfl, rfl⟩ := h
  show GG _ _ _ _ _ _ _ _ [] _ _ _
  refine g_aload_n 7 (gd rfl) rfl rfl ?_
  refine g_getA (q2 := 89) 10 (gd rfl) rfl rfl rfl rfl ?_
  refine g_iload_n 11 (gd rfl) rfl rfl ?_
  refine g_iaload 12 (gd rfl) rfl (n := 32) rfl (in_ix h2 rfl) (fun z11 e11 => ?_)
  have i11 := inv_I hI3 (n := 32) (t := 0) 0 31 rfl (in_ix h2 rfl) rfl e11
  refine g_istore_n 13 (gd rfl) rfl (Nat.le_of_ble_eq_true rfl) ?_
  refine g_aload_n 14 (gd rfl) rfl rfl ?_
  refine g_iload_n 15 (gd rfl) rfl rfl ?_
  refine g_iload_n 16 (gd rfl) rfl rfl ?_
  refine g_callv (X := _) (As := [.int x2, .int z11]) (r := []) (b := A 86) (q := 86) 19 (gd rfl) rfl rfl rfl rfl rfl (ww_o rfl) (Nat.le_of_ble_eq_true rfl) (Nat.zero_le _) (Nat.zero_le _) (k_118_86 (by first | exact dq1 hd rfl | exact dq0 hd rfl | exact dq2 hd rfl | exact dq3 hd rfl | omega) hI3 (in_w 0 31 h2 rfl) (in_w 0 31 i11 rfl)) (fun e u h => h) (fun v u h => ?_)
  obtain ⟨z16, rfl, rfl⟩ := h
  show GG _ _ _ _ _ _ _ _ [.long z16] _ _ _
  refine g_lstore 21 (gd rfl) rfl (Nat.le_of_ble_eq_true rfl) ?_
  refine g_iconst (-1) 22 (gd rfl) rfl rfl ?_
  refine g_istore 24 (gd rfl) rfl (Nat.le_of_ble_eq_true rfl) ?_
  refine g_iconst 0 25 (gd rfl) rfl rfl ?_
  refine g_istore 27 (gd rfl) rfl (Nat.le_of_ble_eq_true rfl) ?_
  refine g_aload_n 28 (gd rfl) rfl rfl ?_
  refine g_getA (q2 := 9) 31 (gd rfl) rfl rfl rfl rfl ?_
  refine g_iload_n 32 (gd rfl) rfl rfl ?_
  refine g_iaload 33 (gd rfl) rfl (n := 32) rfl (in_ix h2 rfl) (fun z32 e32 => ?_)
  refine g_istore 35 (gd rfl) rfl (Nat.le_of_ble_eq_true rfl) ?_
  exact gg_w (by first | exact Nat.le_of_ble_eq_true rfl | omega) (gg_f (gf_cons rfl (gf_cons rfl (gf_cons rfl (gf_cons rfl (gf_cons rfl (gf_cons rfl (gf_cons rfl (gf_cons rfl gf_nil)))))))) (ct35 4294967296 s3 z11 z16 (Int32.ofInt (-1)) (Int32.ofInt 0) z32 hI3 (fr_tr rfl fr_rf hF3) (in_w 0 31 i11 rfl) (in_w (-1) 31 (in_c (-1) rfl) rfl) (mb_in _)))
end
section
/-! methods, by vc.py -/
def fm_115_86_32 : FM := ([89, 90, 92, 93], [], [], [])
/-- GraphHouse$Groups.settleNode -/
theorem k_115_86_32 {Z : AmZ} {A : Nat → Nat} {s : GS} {ex : va_W} {d : Nat} {X : AmX} {x2 : Int32} {u_32_4 : Int32} {u_32_0 : Int32} (hd : 5 ≤ d) (hI : Inv s) (h2 : In x2 0 31) (e_32_4 : u_32_4 = s.2.2.1 32 4) (e_32_0 : u_32_0 = s.2.2.1 32 0) (p_0 : (u_32_4).toInt = (u_32_0).toInt) : GC Z d 115 [.ref (A 86), .ref (A 32), .int x2] (WW Z A s ++ ex) 0 0 (fun v u => ∃ t : GS, Inv t ∧ Fr fm_115_86_32 s t ∧ ∃ z : Int32, v = some (.int z) ∧ u = WW Z A t ++ ex ∧ In z 0 1) X := by
  intro post xp hP hX
  have ro_32_4 := inv_F hI (-1) 4000 rfl e_32_4
  have ro_32_0 := inv_F hI 0 4000 rfl e_32_0
  have ct186 : ∀ (sc186 : GS) (y186_3 : Int32) (y186_4 : Int64) (y186_6 : Int32) (y186_7 : Int32) (y186_8 : Int32), Inv sc186 → Fr fm_115_86_32 s sc186 → (In y186_3 0 31) → (In y186_6 0 31) → (In y186_8 0 0) → GG Z (d - 1) 115 post (gx xp) (901) 186 (fun j => xlook j [(0, .ref (A 86)), (1, .ref (A 32)), (2, .int x2), (3, .int y186_3), (4, .long y186_4), (6, .int y186_6), (7, .int y186_7), (8, .int y186_8)]) [] (WW Z A sc186 ++ ex) 0 0 := by
    intro sc186 y186_3 y186_4 y186_6 y186_7 y186_8 hIc186 hFc186 j186_3 j186_6 j186_8
    refine g_iconst 0 187 (gd rfl) rfl rfl ?_
    exact g_ireturn (gd rfl) rfl (nb01 (in_w 0 1 (in_c 0 rfl) rfl)) (hP _ _ ⟨sc186, hIc186, hFc186, (Int32.ofInt 0), rfl, rfl, in_w 0 1 (in_c 0 rfl) rfl⟩)
  have ct157 : ∀ (sc157 : GS) (y157_3 : Int32) (y157_4 : Int64) (y157_6 : Int32) (y157_7 : Int32) (y157_8 : Int32), Inv sc157 → Fr fm_115_86_32 s sc157 → (In y157_3 0 31) → (In y157_6 (-1) 31) → (In y157_8 0 0) → GG Z (d - 1) 115 post (gx xp) (1802) 157 (fun j => xlook j [(0, .ref (A 86)), (1, .ref (A 32)), (2, .int x2), (3, .int y157_3), (4, .long y157_4), (6, .int y157_6), (7, .int y157_7), (8, .int y157_8)]) [] (WW Z A sc157 ++ ex) 0 0 := by
    intro sc157 y157_3 y157_4 y157_6 y157_7 y157_8 hIc157 hFc157 j157_3 j157_6 j157_8
    refine g_iconst 0 158 (gd rfl) rfl rfl ?_
    exact g_ireturn (gd rfl) rfl (nb01 (in_w 0 1 (in_c 0 rfl) rfl)) (hP _ _ ⟨sc157, hIc157, hFc157, (Int32.ofInt 0), rfl, rfl, in_w 0 1 (in_c 0 rfl) rfl⟩)
  have ct134 : ∀ (sc134 : GS) (y134_3 : Int32) (y134_4 : Int64) (y134_6 : Int32) (y134_7 : Int32) (y134_8 : Int32), Inv sc134 → Fr fm_115_86_32 s sc134 → (In y134_3 0 31) → (In y134_6 (-1) 31) → (In y134_8 0 0) → GG Z (d - 1) 115 post (gx xp) (2703) 134 (fun j => xlook j [(0, .ref (A 86)), (1, .ref (A 32)), (2, .int x2), (3, .int y134_3), (4, .long y134_4), (6, .int y134_6), (7, .int y134_7), (8, .int y134_8)]) [] (WW Z A sc134 ++ ex) 0 0 := by
    intro sc134 y134_3 y134_4 y134_6 y134_7 y134_8 hIc134 hFc134 j134_3 j134_6 j134_8
    refine g_lconst 0 135 (gd rfl) rfl rfl ?_
    refine g_lload 137 (gd rfl) rfl rfl ?_
    refine g_lcmp 138 (gd rfl) rfl (fun z137 e137 => ?_)
    have i137 := lc_in e137
    refine g_if_le 141 157 (gd rfl) rfl rfl (fun c138 => ?_) (fun c138 => ?_)
    · skip
      have i138 := z_le (-1) 0 c138 i137 rfl
      have c138a := lc_le e137 c138
      have i138a := lr_le2 0 9223372036854775807 c138a (l_c 0 rfl) (l_rng y134_4) rfl
      exact gg_w (by first | exact Nat.le_of_ble_eq_true rfl | omega) (gg_f (gf_cons rfl (gf_cons rfl (gf_cons rfl (gf_cons rfl (gf_cons rfl (gf_cons rfl (gf_cons rfl (gf_cons rfl gf_nil)))))))) (ct157 sc134 y134_3 y134_4 y134_6 y134_7 y134_8 hIc134 hFc134 (in_w 0 31 j134_3 rfl) (in_w (-1) 31 j134_6 rfl) (in_w 0 0 j134_8 rfl)))
    · skip
      have i138 := z_gt 1 1 c138 i137 rfl
      have c138a := lc_gt e137 c138
      have i138a := lr_lt1 (-9223372036854775808) (-1) c138a (l_rng y134_4) (l_c 0 rfl) rfl
      refine g_aload_n 142 (gd rfl) rfl rfl ?_
      refine g_iload_n 143 (gd rfl) rfl rfl ?_
      refine g_aload_n 144 (gd rfl) rfl rfl ?_
      refine g_callv (X := _) (As := []) (r := [.int x2, .ref (A 86)]) (b := A 86) (q := 86) 147 (gd rfl) rfl rfl rfl rfl rfl (ww_o rfl) (Nat.le_of_ble_eq_true rfl) (Nat.zero_le _) (Nat.zero_le _) (k_119_86 (by first | exact dq1 hd rfl | exact dq0 hd rfl | exact dq2 hd rfl | exact dq3 hd rfl | omega) hIc134 ) (fun e u h => h) (fun v u h => ?_)
      obtain ⟨z144, rfl, rfl, i144⟩ := h
      show GG _ _ _ _ _ _ _ _ [.int z144, .int x2, .ref (A 86)] _ _ _
      refine g_callv (X := _) (As := [.int x2, .int z144]) (r := []) (b := A 86) (q := 86) 150 (gd rfl) rfl rfl rfl rfl rfl (ww_o rfl) (Nat.le_of_ble_eq_true rfl) (Nat.zero_le _) (Nat.zero_le _) (k_120_86 (by first | exact dq1 hd rfl | exact dq0 hd rfl | exact dq2 hd rfl | exact dq3 hd rfl | omega) hIc134 (in_w 0 31 h2 rfl) (in_w (-1) 31 i144 rfl)) (fun e u h => h) (fun v u h => ?_)
      obtain ⟨s147, hI147, hF147, z147, rfl, rfl, i147⟩ := h
      show GG _ _ _ _ _ _ _ _ [.int z147] _ _ _
      refine g_if_eq 153 157 (gd rfl) rfl rfl (fun c150 => ?_) (fun c150 => ?_)
      · skip
        have i150 := z_eq 0 0 c150 i147 rfl
        exact gg_w (by first | exact Nat.le_of_ble_eq_true rfl | omega) (gg_f (gf_cons rfl (gf_cons rfl (gf_cons rfl (gf_cons rfl (gf_cons rfl (gf_cons rfl (gf_cons rfl (gf_cons rfl gf_nil)))))))) (ct157 s147 y134_3 y134_4 y134_6 y134_7 y134_8 hI147 (fr_tr rfl hFc134 hF147) (in_w 0 31 j134_3 rfl) (in_w (-1) 31 j134_6 rfl) (in_w 0 0 j134_8 rfl)))
      · skip
        have i150 := z_ne 1 1 c150 i147 rfl
        refine g_iconst 1 154 (gd rfl) rfl rfl ?_
        refine g_goto 158 (gd rfl) rfl ?_
        exact g_ireturn (gd rfl) rfl (nb01 (in_w 0 1 (in_c 1 rfl) rfl)) (hP _ _ ⟨s147, hI147, (fr_tr rfl hFc134 hF147), (Int32.ofInt 1), rfl, rfl, in_w 0 1 (in_c 1 rfl) rfl⟩)
  have ct35 : ∀ (k35 : Nat) (sc35 : GS) (y35_3 : Int32) (y35_4 : Int64) (y35_6 : Int32) (y35_7 : Int32) (y35_8 : Int32), Inv sc35 → Fr fm_115_86_32 s sc35 → (In y35_3 0 31) → (In y35_6 (-1) 31) → ((y35_8.toBitVec.toNat : Nat) : Int) < (k35 : Int) → GG Z (d - 1) 115 post (gx xp) (2704 + k35 * 2702) 35 (fun j => xlook j [(0, .ref (A 86)), (1, .ref (A 32)), (2, .int x2), (3, .int y35_3), (4, .long y35_4), (6, .int y35_6), (7, .int y35_7), (8, .int y35_8)]) [] (WW Z A sc35 ++ ex) 0 0 := by
    intro k35
    induction k35 with
    | zero => intro sc35 y35_3 y35_4 y35_6 y35_7 y35_8 hIc35 hFc35 j35_3 j35_6 mm35; exact absurd mm35 (Int.not_lt.mpr (Int.natCast_nonneg _))
    | succ k35 ih35 =>
      intro sc35 y35_3 y35_4 y35_6 y35_7 y35_8 hIc35 hFc35 j35_3 j35_6 mm35
      refine gg_w (M := 2704 + k35 * 2702 + 2702) gws ?_
      have ct104 : ∀ (sc104 : GS) (y104_6 : Int32) (y104_7 : Int32) (y104_9 : Int32), Inv sc104 → Fr fm_115_86_32 s sc104 → (In y104_6 (-1) 31) → (In y104_9 0 31) → ((y35_8).toInt ≠ 0) → GG Z (d - 1) 115 post (gx xp) (2704 + k35 * 2702 + 901) 104 (fun j => xlook j [(0, .ref (A 86)), (1, .ref (A 32)), (2, .int x2), (3, .int y35_3), (4, .long y35_4), (6, .int y104_6), (7, .int y104_7), (8, .int y35_8), (9, .int y104_9)]) [] (WW Z A sc104 ++ ex) 0 0 := by
        intro sc104 y104_6 y104_7 y104_9 hIc104 hFc104 j104_6 j104_9 nz104_8
        refine g_iload 106 (gd rfl) rfl rfl ?_
        refine g_iload 108 (gd rfl) rfl rfl ?_
        refine g_iconst 1 109 (gd rfl) rfl rfl ?_
        refine g_isub 110 (gd rfl) rfl (fun z109 e109 => ?_)
        refine g_iand 111 (gd rfl) rfl (fun z110 e110 => ?_)
        refine g_istore 113 (gd rfl) rfl (Nat.le_of_ble_eq_true rfl) ?_
        refine g_goto 35 (gd rfl) rfl ?_
        exact gg_w (by first | exact Nat.le_add_right _ _ | exact gw2 | exact gw3 | exact gwe rfl | exact gwf rfl | exact gwg rfl | exact gwh rfl | omega) (gg_f (gf_cons rfl (gf_cons rfl (gf_cons rfl (gf_cons rfl (gf_cons rfl (gf_cons rfl (gf_cons rfl (gf_cons rfl gf_nil)))))))) (ih35 sc104 y35_3 y35_4 y104_6 y104_7 z110 hIc104 hFc104 (in_w 0 31 j35_3 rfl) (in_w (-1) 31 j104_6 rfl) (mb e110 e109 nz104_8 mm35)))
      have ct95 : ∀ (sc95 : GS) (y95_7 : Int32) (y95_9 : Int32), Inv sc95 → Fr fm_115_86_32 s sc95 → (In y95_9 0 31) → ((y35_8).toInt ≠ 0) → GG Z (d - 1) 115 post (gx xp) (2704 + k35 * 2702 + 1802) 95 (fun j => xlook j [(0, .ref (A 86)), (1, .ref (A 32)), (2, .int x2), (3, .int y35_3), (4, .long y35_4), (6, .int y35_6), (7, .int y95_7), (8, .int y35_8), (9, .int y95_9)]) [] (WW Z A sc95 ++ ex) 0 0 := by
        intro sc95 y95_7 y95_9 hIc95 hFc95 j95_9 nz95_8
        refine g_iload 97 (gd rfl) rfl rfl ?_
        refine g_goto 102 (gd rfl) rfl ?_
        refine g_istore 104 (gd rfl) rfl (Nat.le_of_ble_eq_true rfl) ?_
        exact gg_w (by first | exact Nat.le_add_right _ _ | exact gw2 | exact gw3 | exact gwe rfl | exact gwf rfl | exact gwg rfl | exact gwh rfl | omega) (gg_f (gf_cons rfl (gf_cons rfl (gf_cons rfl (gf_cons rfl (gf_cons rfl (gf_cons rfl (gf_cons rfl (gf_cons rfl (gf_cons rfl gf_nil))))))))) (ct104 sc95 y95_9 y95_7 y95_9 hIc95 hFc95 (in_w (-1) 31 j95_9 rfl) (in_w 0 31 j95_9 rfl) nz95_8))
      refine g_iload 37 (gd rfl) rfl rfl ?_
      refine g_if_eq 40 116 (gd rfl) rfl rfl (fun c37 => ?_) (fun c37 => ?_)
      · skip
        have i37 := z_eq 0 0 c37 (i_rng y35_8) rfl
        refine g_iload 118 (gd rfl) rfl rfl ?_
        refine g_iconst (-1) 119 (gd rfl) rfl rfl ?_
        refine g_cmp_eq 122 134 (gd rfl) rfl rfl (fun c119 => ?_) (fun c119 => ?_)
        · skip
          have i119 := r_eq1 (-1) (-1) c119 j35_6 (in_c (-1) rfl) rfl
          exact gg_w (by first | exact Nat.le_add_right _ _ | exact gw2 | exact gw3 | exact gwe rfl | exact gwf rfl | exact gwg rfl | exact gwh rfl | omega) (gg_f (gf_cons rfl (gf_cons rfl (gf_cons rfl (gf_cons rfl (gf_cons rfl (gf_cons rfl (gf_cons rfl (gf_cons rfl gf_nil)))))))) (ct134 sc35 y35_3 y35_4 y35_6 y35_7 y35_8 hIc35 hFc35 (in_w 0 31 j35_3 rfl) (in_w (-1) 31 i119 rfl) (in_w 0 0 i37 rfl)))
        · skip
          have i119 := r_ne1 0 31 c119 j35_6 (in_c (-1) rfl) rfl
          refine g_aload_n 123 (gd rfl) rfl rfl ?_
          refine g_iload_n 124 (gd rfl) rfl rfl ?_
          refine g_iload 126 (gd rfl) rfl rfl ?_
          refine g_callv (X := _) (As := [.int x2, .int y35_6]) (r := []) (b := A 86) (q := 86) 129 (gd rfl) rfl rfl rfl rfl rfl (ww_o rfl) (Nat.le_of_ble_eq_true rfl) (Nat.zero_le _) (Nat.zero_le _) (k_118_86 (by first | exact dq1 hd rfl | exact dq0 hd rfl | exact dq2 hd rfl | exact dq3 hd rfl | omega) hIc35 (in_w 0 31 h2 rfl) (in_w 0 31 i119 rfl)) (fun e u h => h) (fun v u h => ?_)
          obtain ⟨z126, rfl, rfl⟩ := h
          show GG _ _ _ _ _ _ _ _ [.long z126] _ _ _
          refine g_lconst 0 130 (gd rfl) rfl rfl ?_
          refine g_lcmp 131 (gd rfl) rfl (fun z130 e130 => ?_)
          have i130 := lc_in e130
          refine g_if_ge 134 159 (gd rfl) rfl rfl (fun c131 => ?_) (fun c131 => ?_)
          · skip
            have i131 := z_ge 0 1 c131 i130 rfl
            have c131a := lc_ge e130 c131
            have i131a := lr_le2 0 9223372036854775807 c131a (l_c 0 rfl) (l_rng z126) rfl
            refine g_aload_n 160 (gd rfl) rfl rfl ?_
            refine g_iload_n 161 (gd rfl) rfl rfl ?_
            refine g_iload 163 (gd rfl) rfl rfl ?_
            refine g_callv (X := _) (As := [.int x2, .int y35_6]) (r := []) (b := A 86) (q := 86) 166 (gd rfl) rfl rfl rfl rfl rfl (ww_o rfl) (Nat.le_of_ble_eq_true rfl) (Nat.zero_le _) (Nat.zero_le _) (k_118_86 (by first | exact dq1 hd rfl | exact dq0 hd rfl | exact dq2 hd rfl | exact dq3 hd rfl | omega) hIc35 (in_w 0 31 h2 rfl) (in_w 0 31 i119 rfl)) (fun e u h => h) (fun v u h => ?_)
            obtain ⟨z163, rfl, rfl⟩ := h
            show GG _ _ _ _ _ _ _ _ [.long z163] _ _ _
            refine g_lload 168 (gd rfl) rfl rfl ?_
            refine g_lcmp 169 (gd rfl) rfl (fun z168 e168 => ?_)
            have i168 := lc_in e168
            refine g_if_le 172 186 (gd rfl) rfl rfl (fun c169 => ?_) (fun c169 => ?_)
            · skip
              have i169 := z_le (-1) 0 c169 i168 rfl
              have c169a := lc_le e168 c169
              exact gg_w (by first | exact Nat.le_add_right _ _ | exact gw2 | exact gw3 | exact gwe rfl | exact gwf rfl | exact gwg rfl | exact gwh rfl | omega) (gg_f (gf_cons rfl (gf_cons rfl (gf_cons rfl (gf_cons rfl (gf_cons rfl (gf_cons rfl (gf_cons rfl (gf_cons rfl gf_nil)))))))) (ct186 sc35 y35_3 y35_4 y35_6 y35_7 y35_8 hIc35 hFc35 (in_w 0 31 j35_3 rfl) (in_w 0 31 i119 rfl) (in_w 0 0 i37 rfl)))
            · skip
              have i169 := z_gt 1 1 c169 i168 rfl
              have c169a := lc_gt e168 c169
              have i169a := lr_lt1 (-9223372036854775808) 9223372036854775806 c169a (l_rng y35_4) (l_rng z163) rfl
              have i169b := lr_lt2 (-9223372036854775807) 9223372036854775807 c169a (l_rng y35_4) (l_rng z163) rfl
              refine g_aload_n 173 (gd rfl) rfl rfl ?_
              refine g_iload_n 174 (gd rfl) rfl rfl ?_
              refine g_iload 176 (gd rfl) rfl rfl ?_
              refine g_callv (X := _) (As := [.int x2, .int y35_6]) (r := []) (b := A 86) (q := 86) 179 (gd rfl) rfl rfl rfl rfl rfl (ww_o rfl) (Nat.le_of_ble_eq_true rfl) (Nat.zero_le _) (Nat.zero_le _) (k_120_86 (by first | exact dq1 hd rfl | exact dq0 hd rfl | exact dq2 hd rfl | exact dq3 hd rfl | omega) hIc35 (in_w 0 31 h2 rfl) (in_w (-1) 31 i119 rfl)) (fun e u h => h) (fun v u h => ?_)
              obtain ⟨s176, hI176, hF176, z176, rfl, rfl, i176⟩ := h
              show GG _ _ _ _ _ _ _ _ [.int z176] _ _ _
              refine g_if_eq 182 186 (gd rfl) rfl rfl (fun c179 => ?_) (fun c179 => ?_)
              · skip
                have i179 := z_eq 0 0 c179 i176 rfl
                exact gg_w (by first | exact Nat.le_add_right _ _ | exact gw2 | exact gw3 | exact gwe rfl | exact gwf rfl | exact gwg rfl | exact gwh rfl | omega) (gg_f (gf_cons rfl (gf_cons rfl (gf_cons rfl (gf_cons rfl (gf_cons rfl (gf_cons rfl (gf_cons rfl (gf_cons rfl gf_nil)))))))) (ct186 s176 y35_3 y35_4 y35_6 y35_7 y35_8 hI176 (fr_tr rfl hFc35 hF176) (in_w 0 31 j35_3 rfl) (in_w 0 31 i119 rfl) (in_w 0 0 i37 rfl)))
              · skip
                have i179 := z_ne 1 1 c179 i176 rfl
                refine g_iconst 1 183 (gd rfl) rfl rfl ?_
                refine g_goto 187 (gd rfl) rfl ?_
                exact g_ireturn (gd rfl) rfl (nb01 (in_w 0 1 (in_c 1 rfl) rfl)) (hP _ _ ⟨s176, hI176, (fr_tr rfl hFc35 hF176), (Int32.ofInt 1), rfl, rfl, in_w 0 1 (in_c 1 rfl) rfl⟩)
          · skip
            have i131 := z_lt (-1) (-1) c131 i130 rfl
            have c131a := lc_lt e130 c131
            have i131a := lr_lt1 (-9223372036854775808) (-1) c131a (l_rng z126) (l_c 0 rfl) rfl
            exact gg_w (by first | exact Nat.le_add_right _ _ | exact gw2 | exact gw3 | exact gwe rfl | exact gwf rfl | exact gwg rfl | exact gwh rfl | omega) (gg_f (gf_cons rfl (gf_cons rfl (gf_cons rfl (gf_cons rfl (gf_cons rfl (gf_cons rfl (gf_cons rfl (gf_cons rfl gf_nil)))))))) (ct134 sc35 y35_3 y35_4 y35_6 y35_7 y35_8 hIc35 hFc35 (in_w 0 31 j35_3 rfl) (in_w (-1) 31 i119 rfl) (in_w 0 0 i37 rfl)))
      · skip
        refine g_aload_n 41 (gd rfl) rfl rfl ?_
        refine g_getA (q2 := 89) 44 (gd rfl) rfl rfl rfl rfl ?_
        refine g_iload 46 (gd rfl) rfl rfl ?_
        refine g_calls (As := [.int y35_8]) (r := [.ref (A 89)]) 49 (gd rfl) rfl rfl rfl rfl rfl (Nat.le_of_ble_eq_true rfl) (Nat.zero_le _) (Nat.zero_le _) (k_264n (by first | exact dq1 hd rfl | exact dq0 hd rfl | exact dq2 hd rfl | exact dq3 hd rfl | omega) c37) (fun v u h => ?_)
        obtain ⟨z46, rfl, rfl, i46, hb46, hl46⟩ := h
        show GG _ _ _ _ _ _ _ _ [.int z46, .ref (A 89)] _ _ _
        refine g_iaload 50 (gd rfl) rfl (n := 32) rfl (in_ix i46 rfl) (fun z49 e49 => ?_)
        have i49 := inv_I hIc35 (n := 32) (t := 0) 0 31 rfl (in_ix i46 rfl) rfl e49
        refine g_istore 52 (gd rfl) rfl (Nat.le_of_ble_eq_true rfl) ?_
        refine g_iload 54 (gd rfl) rfl rfl ?_
        refine g_iload_n 55 (gd rfl) rfl rfl ?_
        refine g_cmp_eq 58 104 (gd rfl) rfl rfl (fun c55 => ?_) (fun c55 => ?_)
        · skip
          exact gg_w (by first | exact Nat.le_add_right _ _ | exact gw2 | exact gw3 | exact gwe rfl | exact gwf rfl | exact gwg rfl | exact gwh rfl | omega) (gg_f (gf_cons rfl (gf_cons rfl (gf_cons rfl (gf_cons rfl (gf_cons rfl (gf_cons rfl (gf_cons rfl (gf_cons rfl (gf_cons rfl gf_nil))))))))) (ct104 sc35 y35_6 y35_7 z49 hIc35 hFc35 (in_w (-1) 31 j35_6 rfl) (in_w 0 31 i49 rfl) c37))
        · skip
          refine g_iload 60 (gd rfl) rfl rfl ?_
          refine g_iload 62 (gd rfl) rfl rfl ?_
          refine g_ishr 63 (gd rfl) rfl (fun z62 e62 => ?_)
          refine g_iconst 1 64 (gd rfl) rfl rfl ?_
          refine g_iand 65 (gd rfl) rfl (fun z64 e64 => ?_)
          have i64 := in_and2 e64 (in_c 1 rfl) rfl
          refine g_if_ne 68 104 (gd rfl) rfl rfl (fun c65 => ?_) (fun c65 => ?_)
          · skip
            have i65 := z_ne 1 1 c65 i64 rfl
            exact gg_w (by first | exact Nat.le_add_right _ _ | exact gw2 | exact gw3 | exact gwe rfl | exact gwf rfl | exact gwg rfl | exact gwh rfl | omega) (gg_f (gf_cons rfl (gf_cons rfl (gf_cons rfl (gf_cons rfl (gf_cons rfl (gf_cons rfl (gf_cons rfl (gf_cons rfl (gf_cons rfl gf_nil))))))))) (ct104 sc35 y35_6 y35_7 z49 hIc35 hFc35 (in_w (-1) 31 j35_6 rfl) (in_w 0 31 i49 rfl) c37))
          · skip
            have i65 := z_eq 0 0 c65 i64 rfl
            refine g_iload 70 (gd rfl) rfl rfl ?_
            refine g_iconst 1 71 (gd rfl) rfl rfl ?_
            refine g_iload 73 (gd rfl) rfl rfl ?_
            refine g_ishl 74 (gd rfl) rfl (fun z73 e73 => ?_)
            refine g_ior 75 (gd rfl) rfl (fun z74 e74 => ?_)
            refine g_istore 77 (gd rfl) rfl (Nat.le_of_ble_eq_true rfl) ?_
            refine g_iload 79 (gd rfl) rfl rfl ?_
            refine g_iconst (-1) 80 (gd rfl) rfl rfl ?_
            refine g_cmp_eq 83 95 (gd rfl) rfl rfl (fun c80 => ?_) (fun c80 => ?_)
            · skip
              have i80 := r_eq1 (-1) (-1) c80 j35_6 (in_c (-1) rfl) rfl
              exact gg_w (by first | exact Nat.le_add_right _ _ | exact gw2 | exact gw3 | exact gwe rfl | exact gwf rfl | exact gwg rfl | exact gwh rfl | omega) (gg_f (gf_cons rfl (gf_cons rfl (gf_cons rfl (gf_cons rfl (gf_cons rfl (gf_cons rfl (gf_cons rfl (gf_cons rfl (gf_cons rfl gf_nil))))))))) (ct95 sc35 z74 z49 hIc35 hFc35 (in_w 0 31 i49 rfl) c37))
            · skip
              have i80 := r_ne1 0 31 c80 j35_6 (in_c (-1) rfl) rfl
              refine g_aload_n 84 (gd rfl) rfl rfl ?_
              refine g_iload_n 85 (gd rfl) rfl rfl ?_
              refine g_iload 87 (gd rfl) rfl rfl ?_
              refine g_iload 89 (gd rfl) rfl rfl ?_
              refine g_callv (X := _) (As := [.int x2, .int z49, .int y35_6]) (r := []) (b := A 86) (q := 86) 92 (gd rfl) rfl rfl rfl rfl rfl (ww_o rfl) (Nat.le_of_ble_eq_true rfl) (mc := 0) (ms := 0) (Nat.zero_le _) (Nat.zero_le _) (P := fun v u => _) ?_ (fun e u h => h) (fun v u h => h)
              intro po89 xx89 hp89 hx89
              refine g_enter2 (k := 116) (N := 300) (by first | exact dq1 hd rfl | exact dq0 hd rfl | exact dq2 hd rfl | exact dq3 hd rfl | omega) rfl (Nat.le_of_ble_eq_true rfl) ?_
              refine g_aload_n 1 (gd rfl) rfl rfl ?_
              refine g_iload_n 2 (gd rfl) rfl rfl ?_
              refine g_iload_n 3 (gd rfl) rfl rfl ?_
              refine g_callv (X := _) (As := [.int x2, .int z49]) (r := []) (b := A 86) (q := 86) 6 (gd rfl) rfl rfl rfl rfl rfl (ww_o rfl) (Nat.le_of_ble_eq_true rfl) (Nat.zero_le _) (Nat.zero_le _) (k_118_86 (by first | exact dq1 hd rfl | exact dq0 hd rfl | exact dq2 hd rfl | exact dq3 hd rfl | omega) hIc35 (in_w 0 31 h2 rfl) (in_w 0 31 i49 rfl)) (fun e u h => h) (fun v u h => ?_)
              obtain ⟨z89x3, rfl, rfl⟩ := h
              show GG _ _ _ _ _ _ _ _ [.long z89x3] _ _ _
              refine g_aload_n 7 (gd rfl) rfl rfl ?_
              refine g_iload_n 8 (gd rfl) rfl rfl ?_
              refine g_iload_n 9 (gd rfl) rfl rfl ?_
              refine g_callv (X := _) (As := [.int x2, .int y35_6]) (r := [.long z89x3]) (b := A 86) (q := 86) 12 (gd rfl) rfl rfl rfl rfl rfl (ww_o rfl) (Nat.le_of_ble_eq_true rfl) (Nat.zero_le _) (Nat.zero_le _) (k_118_86 (by first | exact dq1 hd rfl | exact dq0 hd rfl | exact dq2 hd rfl | exact dq3 hd rfl | omega) hIc35 (in_w 0 31 h2 rfl) (in_w 0 31 i80 rfl)) (fun e u h => h) (fun v u h => ?_)
              obtain ⟨z89x9, rfl, rfl⟩ := h
              show GG _ _ _ _ _ _ _ _ [.long z89x9, .long z89x3] _ _ _
              refine g_lsub 13 (gd rfl) rfl (fun z89x12 e89x12 => ?_)
              refine g_lstore 15 (gd rfl) rfl (Nat.le_of_ble_eq_true rfl) ?_
              refine g_lload 17 (gd rfl) rfl rfl ?_
              refine g_lconst 0 18 (gd rfl) rfl rfl ?_
              refine g_lcmp 19 (gd rfl) rfl (fun z89x18 e89x18 => ?_)
              have i89x18 := lc_in e89x18
              refine g_if_gt 22 50 (gd rfl) rfl rfl (fun c89x19 => ?_) (fun c89x19 => ?_)
              · skip
                have i89x19 := z_gt 1 1 c89x19 i89x18 rfl
                have c89x19a := lc_gt e89x18 c89x19
                have i89x19a := lr_lt2 1 9223372036854775807 c89x19a (l_c 0 rfl) (l_rng z89x12) rfl
                refine g_iconst 1 51 (gd rfl) rfl rfl ?_
                refine g_goto 55 (gd rfl) rfl ?_
                refine g_ireturn (gd rfl) rfl (nb01 (in_w 0 1 (in_c 1 rfl) rfl)) (hp89 _ _ ?_)
                show GG _ _ _ _ _ _ _ _ [.int (Int32.ofInt 1)] _ _ _
                refine g_if_eq 95 100 (gd rfl) rfl rfl (fun c92 => ?_) (fun c92 => ?_)
                · skip
                  exact zn_eq c92 (in_c 1 rfl) rfl
                · skip
                  exact gg_w (by first | exact Nat.le_add_right _ _ | exact gw2 | exact gw3 | exact gwe rfl | exact gwf rfl | exact gwg rfl | exact gwh rfl | omega) (gg_f (gf_cons rfl (gf_cons rfl (gf_cons rfl (gf_cons rfl (gf_cons rfl (gf_cons rfl (gf_cons rfl (gf_cons rfl (gf_cons rfl gf_nil))))))))) (ct95 sc35 z74 z49 hIc35 hFc35 (in_w 0 31 i49 rfl) c37))
              · skip
                have i89x19 := z_le (-1) 0 c89x19 i89x18 rfl
                have c89x19a := lc_le e89x18 c89x19
                have i89x19a := lr_le1 (-9223372036854775808) 0 c89x19a (l_rng z89x12) (l_c 0 rfl) rfl
                refine g_lload 24 (gd rfl) rfl rfl ?_
                refine g_lconst 0 25 (gd rfl) rfl rfl ?_
                refine g_lcmp 26 (gd rfl) rfl (fun z89x25 e89x25 => ?_)
                have i89x25 := lc_in e89x25
                refine g_if_ne 29 54 (gd rfl) rfl rfl (fun c89x26 => ?_) (fun c89x26 => ?_)
                · skip
                  have c89x26a := lc_ne e89x25 c89x26
                  have i89x26 := lr_ne1 (-9223372036854775808) (-1) c89x26a i89x19a (l_c 0 rfl) rfl
                  refine g_iconst 0 55 (gd rfl) rfl rfl ?_
                  refine g_ireturn (gd rfl) rfl (nb01 (in_w 0 1 (in_c 0 rfl) rfl)) (hp89 _ _ ?_)
                  show GG _ _ _ _ _ _ _ _ [.int (Int32.ofInt 0)] _ _ _
                  refine g_if_eq 95 100 (gd rfl) rfl rfl (fun c92 => ?_) (fun c92 => ?_)
                  · skip
                    refine g_iload 102 (gd rfl) rfl rfl ?_
                    refine g_istore 104 (gd rfl) rfl (Nat.le_of_ble_eq_true rfl) ?_
                    exact gg_w (by first | exact Nat.le_add_right _ _ | exact gw2 | exact gw3 | exact gwe rfl | exact gwf rfl | exact gwg rfl | exact gwh rfl | omega) (gg_f (gf_cons rfl (gf_cons rfl (gf_cons rfl (gf_cons rfl (gf_cons rfl (gf_cons rfl (gf_cons rfl (gf_cons rfl (gf_cons rfl gf_nil))))))))) (ct104 sc35 y35_6 z74 z49 hIc35 hFc35 (in_w (-1) 31 i80 rfl) (in_w 0 31 i49 rfl) c37))
                  · skip
                    exact zn_ne c92 (in_c 0 rfl) rfl
                · skip
                  have i89x26 := z_eq 0 0 c89x26 i89x25 rfl
                  have c89x26a := lc_eq e89x25 c89x26
                  have i89x26a := lr_eq1 0 0 c89x26a i89x19a (l_c 0 rfl) rfl
                  refine g_aload_n 30 (gd rfl) rfl rfl ?_
                  refine g_getA (q2 := 90) 33 (gd rfl) rfl rfl rfl rfl ?_
                  refine g_iload_n 34 (gd rfl) rfl rfl ?_
                  refine g_iaload 35 (gd rfl) rfl (n := 32) rfl (in_ix i49 rfl) (fun z89x34 e89x34 => ?_)
                  refine g_calls (As := [.int z89x34]) (r := []) 38 (gd rfl) rfl rfl rfl rfl rfl (Nat.le_of_ble_eq_true rfl) (Nat.zero_le _) (Nat.zero_le _) (k_264 (by first | exact dq1 hd rfl | exact dq0 hd rfl | exact dq2 hd rfl | exact dq3 hd rfl | omega)) (fun v u h => ?_)
                  obtain ⟨z89x35, rfl, rfl, i89x35, hb89x35⟩ := h
                  show GG _ _ _ _ _ _ _ _ [.int z89x35] _ _ _
                  refine g_aload_n 39 (gd rfl) rfl rfl ?_
                  refine g_getA (q2 := 90) 42 (gd rfl) rfl rfl rfl rfl ?_
                  refine g_iload_n 43 (gd rfl) rfl rfl ?_
                  refine g_iaload 44 (gd rfl) rfl (n := 32) rfl (in_ix i80 rfl) (fun z89x43 e89x43 => ?_)
                  refine g_calls (As := [.int z89x43]) (r := [.int z89x35]) 47 (gd rfl) rfl rfl rfl rfl rfl (Nat.le_of_ble_eq_true rfl) (Nat.zero_le _) (Nat.zero_le _) (k_264 (by first | exact dq1 hd rfl | exact dq0 hd rfl | exact dq2 hd rfl | exact dq3 hd rfl | omega)) (fun v u h => ?_)
                  obtain ⟨z89x44, rfl, rfl, i89x44, hb89x44⟩ := h
                  show GG _ _ _ _ _ _ _ _ [.int z89x44, .int z89x35] _ _ _
                  refine g_cmp_ge 50 54 (gd rfl) rfl rfl (fun c89x47 => ?_) (fun c89x47 => ?_)
                  · skip
                    refine g_iconst 0 55 (gd rfl) rfl rfl ?_
                    refine g_ireturn (gd rfl) rfl (nb01 (in_w 0 1 (in_c 0 rfl) rfl)) (hp89 _ _ ?_)
                    show GG _ _ _ _ _ _ _ _ [.int (Int32.ofInt 0)] _ _ _
                    refine g_if_eq 95 100 (gd rfl) rfl rfl (fun c92 => ?_) (fun c92 => ?_)
                    · skip
                      refine g_iload 102 (gd rfl) rfl rfl ?_
                      refine g_istore 104 (gd rfl) rfl (Nat.le_of_ble_eq_true rfl) ?_
                      exact gg_w (by first | exact Nat.le_add_right _ _ | exact gw2 | exact gw3 | exact gwe rfl | exact gwf rfl | exact gwg rfl | exact gwh rfl | omega) (gg_f (gf_cons rfl (gf_cons rfl (gf_cons rfl (gf_cons rfl (gf_cons rfl (gf_cons rfl (gf_cons rfl (gf_cons rfl (gf_cons rfl gf_nil))))))))) (ct104 sc35 y35_6 z74 z49 hIc35 hFc35 (in_w (-1) 31 i80 rfl) (in_w 0 31 i49 rfl) c37))
                    · skip
                      exact zn_ne c92 (in_c 0 rfl) rfl
                  · skip
                    have i89x47 := r_lt1 0 31 c89x47 i89x35 i89x44 rfl
                    have i89x47a := r_lt2 1 32 c89x47 i89x35 i89x44 rfl
                    refine g_iconst 1 51 (gd rfl) rfl rfl ?_
                    refine g_goto 55 (gd rfl) rfl ?_
                    refine g_ireturn (gd rfl) rfl (nb01 (in_w 0 1 (in_c 1 rfl) rfl)) (hp89 _ _ ?_)
                    show GG _ _ _ _ _ _ _ _ [.int (Int32.ofInt 1)] _ _ _
                    refine g_if_eq 95 100 (gd rfl) rfl rfl (fun c92 => ?_) (fun c92 => ?_)
                    · skip
                      exact zn_eq c92 (in_c 1 rfl) rfl
                    · skip
                      exact gg_w (by first | exact Nat.le_add_right _ _ | exact gw2 | exact gw3 | exact gwe rfl | exact gwf rfl | exact gwg rfl | exact gwh rfl | omega) (gg_f (gf_cons rfl (gf_cons rfl (gf_cons rfl (gf_cons rfl (gf_cons rfl (gf_cons rfl (gf_cons rfl (gf_cons rfl (gf_cons rfl gf_nil))))))))) (ct95 sc35 z74 z49 hIc35 hFc35 (in_w 0 31 i49 rfl) c37))
  refine g_enter2 (k := 115) (N := 11605001637396) (by first | exact dq1 hd rfl | exact dq0 hd rfl | exact dq2 hd rfl | exact dq3 hd rfl | omega) rfl (Nat.le_of_ble_eq_true rfl) ?_
  refine g_aload_n 1 (gd rfl) rfl rfl ?_
  refine g_aload_n 2 (gd rfl) rfl rfl ?_
  refine g_iload_n 3 (gd rfl) rfl rfl ?_
  have n3 : (u_32_4).toInt = (u_32_0).toInt := by (first | have a0 := oa3 ((inv_F hI 0 4000 rfl e_32_0)) ((inv_F hI (-1) 4000 rfl e_32_4)) h2 | ((first | have a0 := in_u ((inv_F hI 0 4000 rfl e_32_0)) | (have a0 := (inv_F hI 0 4000 rfl e_32_0); unfold In at a0)); (first | have a1 := in_u ((inv_F hI (-1) 4000 rfl e_32_4)) | (have a1 := (inv_F hI (-1) 4000 rfl e_32_4); unfold In at a1)); (first | have a2 := in_u h2 | (have a2 := h2; unfold In at a2)))); omega
  refine g_callv (X := _) (As := [.ref (A 32), .int x2]) (r := []) (b := A 86) (q := 86) 6 (gd rfl) rfl rfl rfl rfl rfl (ww_o rfl) (Nat.le_of_ble_eq_true rfl) (Nat.zero_le _) (Nat.zero_le _) (k_117_86_32 (by first | exact dq1 hd rfl | exact dq0 hd rfl | exact dq2 hd rfl | exact dq3 hd rfl | omega) hI (in_w 0 31 h2 rfl) e_32_4 e_32_0 n3) (fun e u h => h) (fun v u h => ?_)
  obtain ⟨s3, hI3, hF3, rfl, rfl⟩ := h
  show GG _ _ _ _ _ _ _ _ [] _ _ _
  refine g_aload_n 7 (gd rfl) rfl rfl ?_
  refine g_getA (q2 := 89) 10 (gd rfl) rfl rfl rfl rfl ?_
  refine g_iload_n 11 (gd rfl) rfl rfl ?_
  refine g_iaload 12 (gd rfl) rfl (n := 32) rfl (in_ix h2 rfl) (fun z11 e11 => ?_)
  have i11 := inv_I hI3 (n := 32) (t := 0) 0 31 rfl (in_ix h2 rfl) rfl e11
  refine g_istore_n 13 (gd rfl) rfl (Nat.le_of_ble_eq_true rfl) ?_
  refine g_aload_n 14 (gd rfl) rfl rfl ?_
  refine g_iload_n 15 (gd rfl) rfl rfl ?_
  refine g_iload_n 16 (gd rfl) rfl rfl ?_
  refine g_callv (X := _) (As := [.int x2, .int z11]) (r := []) (b := A 86) (q := 86) 19 (gd rfl) rfl rfl rfl rfl rfl (ww_o rfl) (Nat.le_of_ble_eq_true rfl) (Nat.zero_le _) (Nat.zero_le _) (k_118_86 (by first | exact dq1 hd rfl | exact dq0 hd rfl | exact dq2 hd rfl | exact dq3 hd rfl | omega) hI3 (in_w 0 31 h2 rfl) (in_w 0 31 i11 rfl)) (fun e u h => h) (fun v u h => ?_)
  obtain ⟨z16, rfl, rfl⟩ := h
  show GG _ _ _ _ _ _ _ _ [.long z16] _ _ _
  refine g_lstore 21 (gd rfl) rfl (Nat.le_of_ble_eq_true rfl) ?_
  refine g_iconst (-1) 22 (gd rfl) rfl rfl ?_
  refine g_istore 24 (gd rfl) rfl (Nat.le_of_ble_eq_true rfl) ?_
  refine g_iconst 0 25 (gd rfl) rfl rfl ?_
  refine g_istore 27 (gd rfl) rfl (Nat.le_of_ble_eq_true rfl) ?_
  refine g_aload_n 28 (gd rfl) rfl rfl ?_
  refine g_getA (q2 := 39) 31 (gd rfl) rfl rfl rfl rfl ?_
  refine g_iload_n 32 (gd rfl) rfl rfl ?_
  refine g_iaload 33 (gd rfl) rfl (n := 32) rfl (in_ix h2 rfl) (fun z32 e32 => ?_)
  refine g_istore 35 (gd rfl) rfl (Nat.le_of_ble_eq_true rfl) ?_
  exact gg_w (by first | exact Nat.le_of_ble_eq_true rfl | omega) (gg_f (gf_cons rfl (gf_cons rfl (gf_cons rfl (gf_cons rfl (gf_cons rfl (gf_cons rfl (gf_cons rfl (gf_cons rfl gf_nil)))))))) (ct35 4294967296 s3 z11 z16 (Int32.ofInt (-1)) (Int32.ofInt 0) z32 hI3 (fr_tr rfl fr_rf hF3) (in_w 0 31 i11 rfl) (in_w (-1) 31 (in_c (-1) rfl) rfl) (mb_in _)))

def fm_131_1_32 : FM := ([33, 34, 35, 36, 37, 38], [], [(32, 0), (32, 1), (32, 2), (32, 3)], [])
def fm_142_56_2 : FM := ([9, 10, 11, 12, 13, 14, 15], [], [(2, 4)], [])
/-- GraphHouse$Parts.isBridge -/
theorem k_142_56_2 {Z : AmZ} {A : Nat → Nat} {s : GS} {ex : va_W} {d : Nat} {X : AmX} {x2 : Int32} (hd : 5 ≤ d) (hI : Inv s) (h2 : In x2 0 159) : GC Z d 142 [.ref (A 56), .ref (A 2), .int x2] (WW Z A s ++ ex) 0 0 (fun v u => ∃ t : GS, Inv t ∧ Fr fm_142_56_2 s t ∧ ∃ z : Int32, v = some (.int z) ∧ u = WW Z A t ++ ex ∧ In z 0 1) X := by
  intro post xp hP hX
  obtain ⟨u_2_3, e_2_3⟩ : ∃ w, w = s.2.2.1 2 3 := ⟨_, rfl⟩
  have ro_2_3 := inv_F hI 0 160 rfl e_2_3
  have ct28 : ∀ (k28 : Nat) (sc28 : GS) (y28_3 : Int32) (y28_4 : Int32) (y28_5 : Int32), Inv sc28 → Fr fm_142_56_2 s sc28 → (In y28_3 0 31) → (In y28_4 0 31) → (In y28_5 0 160) → 160 - (y28_5).toInt < (k28 : Int) → GG Z (d - 1) 142 post (gx xp) (1 + k28 * 900) 28 (fun j => xlook j [(0, .ref (A 56)), (1, .ref (A 2)), (2, .int x2), (3, .int y28_3), (4, .int y28_4), (5, .int y28_5)]) [] (WW Z A sc28 ++ ex) 0 0 := by
    intro k28
    induction k28 with
    | zero => intro sc28 y28_3 y28_4 y28_5 hIc28 hFc28 j28_3 j28_4 j28_5 mm28; exact m_no mm28 j28_5 rfl
    | succ k28 ih28 =>
      intro sc28 y28_3 y28_4 y28_5 hIc28 hFc28 j28_3 j28_4 j28_5 mm28
      refine gg_w (M := 1 + k28 * 900 + 900) gws ?_
      refine g_iload 30 (gd rfl) rfl rfl ?_
      refine g_aload_n 31 (gd rfl) rfl rfl ?_
      refine g_getI 34 (gd rfl) rfl rfl rfl (fun z31 e31 => ?_)
      have q31 : u_2_3 = z31 := (fr_F e_2_3 hFc28 rfl).trans e31.symm
      subst q31
      refine g_cmp_ge 37 106 (gd rfl) rfl rfl (fun c34 => ?_) (fun c34 => ?_)
      · skip
        refine g_aload_n 107 (gd rfl) rfl rfl ?_
        refine g_callv (X := _) (As := []) (r := []) (b := A 2) (q := 2) 110 (gd rfl) rfl rfl rfl rfl rfl (ww_o rfl) (Nat.le_of_ble_eq_true rfl) (Nat.zero_le _) (Nat.zero_le _) (k_106_2 (by first | exact dq1 hd rfl | exact dq0 hd rfl | exact dq2 hd rfl | exact dq3 hd rfl | omega) hIc28 ) (fun e u h => h) (fun v u h => ?_)
        obtain ⟨s107, hI107, hF107, n107, rfl, rfl⟩ := h
        obtain ⟨z107a, e107⟩ : ∃ w, w = s107.2.2.1 2 4 := ⟨_, rfl⟩
        have i107a := inv_F hI107 (-1) 4000 rfl e107
        obtain ⟨z107b, e107a⟩ : ∃ w, w = s107.2.2.1 2 0 := ⟨_, rfl⟩
        have i107b := inv_F hI107 0 4000 rfl e107a
        rw [← (show z107a = s107.2.2.1 2 4 from e107)] at n107
        rw [← (show z107b = s107.2.2.1 2 0 from e107a)] at n107
        show GG _ _ _ _ _ _ _ _ [] _ _ _
        refine g_aload_n 111 (gd rfl) rfl rfl ?_
        refine g_getA (q2 := 9) 114 (gd rfl) rfl rfl rfl rfl ?_
        refine g_aload_n 115 (gd rfl) rfl rfl ?_
        refine g_getA (q2 := 9) 118 (gd rfl) rfl rfl rfl rfl ?_
        refine g_iload_n 119 (gd rfl) rfl rfl ?_
        refine g_iaload 120 (gd rfl) rfl (n := 32) rfl (in_ix j28_3 rfl) (fun z119 e119 => ?_)
        refine g_iconst 1 121 (gd rfl) rfl rfl ?_
        refine g_iload 123 (gd rfl) rfl rfl ?_
        refine g_ishl 124 (gd rfl) rfl (fun z123 e123 => ?_)
        refine g_iconst (-1) 125 (gd rfl) rfl rfl ?_
        refine g_ixor 126 (gd rfl) rfl (fun z125 e125 => ?_)
        refine g_iand 127 (gd rfl) rfl (fun z126 e126 => ?_)
        refine g_iconst 1 128 (gd rfl) rfl rfl ?_
        refine g_iload_n 129 (gd rfl) rfl rfl ?_
        refine g_ishl 130 (gd rfl) rfl (fun z129 e129 => ?_)
        refine g_iconst (-1) 131 (gd rfl) rfl rfl ?_
        refine g_ixor 132 (gd rfl) rfl (fun z131 e131 => ?_)
        refine g_calls (As := [.ref (A 9), .int z126, .int z131]) (r := []) 135 (gd rfl) rfl rfl rfl rfl rfl (Nat.le_of_ble_eq_true rfl) (Nat.zero_le _) (Nat.zero_le _) (k_266_9 (by first | exact dq1 hd rfl | exact dq0 hd rfl | exact dq2 hd rfl | exact dq3 hd rfl | omega) hI107 ) (fun v u h => ?_)
        obtain ⟨z132, rfl, rfl, i132, p132⟩ := h
        show GG _ _ _ _ _ _ _ _ [.int z132] _ _ _
        refine g_istore 137 (gd rfl) rfl (Nat.le_of_ble_eq_true rfl) ?_
        refine g_iload 139 (gd rfl) rfl rfl ?_
        refine g_iload 141 (gd rfl) rfl rfl ?_
        refine g_ishr 142 (gd rfl) rfl (fun z141 e141 => ?_)
        refine g_iconst 1 143 (gd rfl) rfl rfl ?_
        refine g_iand 144 (gd rfl) rfl (fun z143 e143 => ?_)
        have i143 := in_and2 e143 (in_c 1 rfl) rfl
        refine g_if_ne 147 151 (gd rfl) rfl rfl (fun c144 => ?_) (fun c144 => ?_)
        · skip
          have i144 := z_ne 1 1 c144 i143 rfl
          refine g_iconst 0 152 (gd rfl) rfl rfl ?_
          exact g_ireturn (gd rfl) rfl (nb01 (in_w 0 1 (in_c 0 rfl) rfl)) (hP _ _ ⟨s107, hI107, (fr_tr rfl hFc28 hF107), (Int32.ofInt 0), rfl, rfl, in_w 0 1 (in_c 0 rfl) rfl⟩)
        · skip
          have i144 := z_eq 0 0 c144 i143 rfl
          refine g_iconst 1 148 (gd rfl) rfl rfl ?_
          refine g_goto 152 (gd rfl) rfl ?_
          exact g_ireturn (gd rfl) rfl (nb01 (in_w 0 1 (in_c 1 rfl) rfl)) (hP _ _ ⟨s107, hI107, (fr_tr rfl hFc28 hF107), (Int32.ofInt 1), rfl, rfl, in_w 0 1 (in_c 1 rfl) rfl⟩)
      · skip
        have i34 := r_lt1 0 159 c34 j28_5 ro_2_3 rfl
        have i34a := r_lt2 1 160 c34 j28_5 ro_2_3 rfl
        refine g_iload 39 (gd rfl) rfl rfl ?_
        refine g_iload_n 40 (gd rfl) rfl rfl ?_
        refine g_cmp_eq 43 100 (gd rfl) rfl rfl (fun c40 => ?_) (fun c40 => ?_)
        · skip
          refine g_iinc 103 (gd rfl) rfl rfl (Nat.le_of_ble_eq_true rfl) (fun z100 e100 => ?_)
          have i100 := in_add 1 160 e100 i34 (in_c 1 rfl) rfl rfl
          refine g_goto 28 (gd rfl) rfl ?_
          exact gg_w (by first | exact Nat.le_add_right _ _ | exact gw2 | exact gw3 | exact gwe rfl | exact gwf rfl | exact gwg rfl | exact gwh rfl | omega) (gg_f (gf_cons rfl (gf_cons rfl (gf_cons rfl (gf_cons rfl (gf_cons rfl (gf_cons rfl gf_nil)))))) (ih28 sc28 y28_3 y28_4 z100 hIc28 hFc28 (in_w 0 31 j28_3 rfl) (in_w 0 31 j28_4 rfl) (in_w 0 160 i100 rfl) (m_up mm28 (t_add e100 i34 (in_c 1 rfl) rfl) (in_w 1 1 (in_c 1 rfl) rfl))))
        · skip
          refine g_aload_n 44 (gd rfl) rfl rfl ?_
          refine g_iload 46 (gd rfl) rfl rfl ?_
          refine g_callv (X := _) (As := [.int y28_5]) (r := []) (b := A 2) (q := 2) 49 (gd rfl) rfl rfl rfl rfl rfl (ww_o rfl) (Nat.le_of_ble_eq_true rfl) (mc := 0) (ms := 0) (Nat.zero_le _) (Nat.zero_le _) (P := fun v u => _) ?_ (fun e u h => h) (fun v u h => h)
          intro po46 xx46 hp46 hx46
          refine g_enter2 (k := 97) (N := 300) (by first | exact dq1 hd rfl | exact dq0 hd rfl | exact dq2 hd rfl | exact dq3 hd rfl | omega) rfl (Nat.le_of_ble_eq_true rfl) ?_
          refine g_aload_n 1 (gd rfl) rfl rfl ?_
          refine g_getA (q2 := 4) 4 (gd rfl) rfl rfl rfl rfl ?_
          refine g_iload_n 5 (gd rfl) rfl rfl ?_
          refine g_iaload 6 (gd rfl) rfl (n := 160) rfl (in_ix i34 rfl) (fun z46x5 e46x5 => ?_)
          have i46x5 := inv_I hIc28 (n := 160) (t := 0) (-1) 31 rfl (in_ix i34 rfl) rfl e46x5
          refine g_iconst (-1) 7 (gd rfl) rfl rfl ?_
          refine g_cmp_eq 10 29 (gd rfl) rfl rfl (fun c46x7 => ?_) (fun c46x7 => ?_)
          · skip
            have i46x7 := r_eq1 (-1) (-1) c46x7 i46x5 (in_c (-1) rfl) rfl
            refine g_iconst 0 30 (gd rfl) rfl rfl ?_
            refine g_ireturn (gd rfl) rfl (nb01 (in_w 0 1 (in_c 0 rfl) rfl)) (hp46 _ _ ?_)
            show GG _ _ _ _ _ _ _ _ [.int (Int32.ofInt 0)] _ _ _
            refine g_if_eq 52 100 (gd rfl) rfl rfl (fun c49 => ?_) (fun c49 => ?_)
            · skip
              refine g_iinc 103 (gd rfl) rfl rfl (Nat.le_of_ble_eq_true rfl) (fun z100 e100 => ?_)
              have i100 := in_add 1 160 e100 i34 (in_c 1 rfl) rfl rfl
              refine g_goto 28 (gd rfl) rfl ?_
              exact gg_w (by first | exact Nat.le_add_right _ _ | exact gw2 | exact gw3 | exact gwe rfl | exact gwf rfl | exact gwg rfl | exact gwh rfl | omega) (gg_f (gf_cons rfl (gf_cons rfl (gf_cons rfl (gf_cons rfl (gf_cons rfl (gf_cons rfl gf_nil)))))) (ih28 sc28 y28_3 y28_4 z100 hIc28 hFc28 (in_w 0 31 j28_3 rfl) (in_w 0 31 j28_4 rfl) (in_w 0 160 i100 rfl) (m_up mm28 (t_add e100 i34 (in_c 1 rfl) rfl) (in_w 1 1 (in_c 1 rfl) rfl))))
            · skip
              exact zn_ne c49 (in_c 0 rfl) rfl
          · skip
            have i46x7 := r_ne1 0 31 c46x7 i46x5 (in_c (-1) rfl) rfl
            refine g_aload_n 11 (gd rfl) rfl rfl ?_
            refine g_getA (q2 := 4) 14 (gd rfl) rfl rfl rfl rfl ?_
            refine g_iload_n 15 (gd rfl) rfl rfl ?_
            refine g_iaload 16 (gd rfl) rfl (n := 160) rfl (in_ix i34 rfl) (fun z46x15 e46x15 => ?_)
            have q46x15 : z46x5 = z46x15 := (e46x5).trans e46x15.symm
            subst q46x15
            refine g_aload_n 17 (gd rfl) rfl rfl ?_
            refine g_getA (q2 := 5) 20 (gd rfl) rfl rfl rfl rfl ?_
            refine g_iload_n 21 (gd rfl) rfl rfl ?_
            refine g_iaload 22 (gd rfl) rfl (n := 160) rfl (in_ix i34 rfl) (fun z46x21 e46x21 => ?_)
            have i46x21 := inv_I hIc28 (n := 160) (t := 0) 0 31 rfl (in_ix i34 rfl) rfl e46x21
            refine g_cmp_eq 25 29 (gd rfl) rfl rfl (fun c46x22 => ?_) (fun c46x22 => ?_)
            · skip
              refine g_iconst 0 30 (gd rfl) rfl rfl ?_
              refine g_ireturn (gd rfl) rfl (nb01 (in_w 0 1 (in_c 0 rfl) rfl)) (hp46 _ _ ?_)
              show GG _ _ _ _ _ _ _ _ [.int (Int32.ofInt 0)] _ _ _
              refine g_if_eq 52 100 (gd rfl) rfl rfl (fun c49 => ?_) (fun c49 => ?_)
              · skip
                refine g_iinc 103 (gd rfl) rfl rfl (Nat.le_of_ble_eq_true rfl) (fun z100 e100 => ?_)
                have i100 := in_add 1 160 e100 i34 (in_c 1 rfl) rfl rfl
                refine g_goto 28 (gd rfl) rfl ?_
                exact gg_w (by first | exact Nat.le_add_right _ _ | exact gw2 | exact gw3 | exact gwe rfl | exact gwf rfl | exact gwg rfl | exact gwh rfl | omega) (gg_f (gf_cons rfl (gf_cons rfl (gf_cons rfl (gf_cons rfl (gf_cons rfl (gf_cons rfl gf_nil)))))) (ih28 sc28 y28_3 y28_4 z100 hIc28 hFc28 (in_w 0 31 j28_3 rfl) (in_w 0 31 j28_4 rfl) (in_w 0 160 i100 rfl) (m_up mm28 (t_add e100 i34 (in_c 1 rfl) rfl) (in_w 1 1 (in_c 1 rfl) rfl))))
              · skip
                exact zn_ne c49 (in_c 0 rfl) rfl
            · skip
              refine g_iconst 1 26 (gd rfl) rfl rfl ?_
              refine g_goto 30 (gd rfl) rfl ?_
              refine g_ireturn (gd rfl) rfl (nb01 (in_w 0 1 (in_c 1 rfl) rfl)) (hp46 _ _ ?_)
              show GG _ _ _ _ _ _ _ _ [.int (Int32.ofInt 1)] _ _ _
              refine g_if_eq 52 100 (gd rfl) rfl rfl (fun c49 => ?_) (fun c49 => ?_)
              · skip
                exact zn_eq c49 (in_c 1 rfl) rfl
              · skip
                refine g_aload_n 53 (gd rfl) rfl rfl ?_
                refine g_getA (q2 := 4) 56 (gd rfl) rfl rfl rfl rfl ?_
                refine g_iload 58 (gd rfl) rfl rfl ?_
                refine g_iaload 59 (gd rfl) rfl (n := 160) rfl (in_ix i34 rfl) (fun z58 e58 => ?_)
                have q58 : z46x5 = z58 := (e46x5).trans e58.symm
                subst q58
                refine g_iload_n 60 (gd rfl) rfl rfl ?_
                refine g_cmp_ne 63 75 (gd rfl) rfl rfl (fun c60 => ?_) (fun c60 => ?_)
                · skip
                  refine g_aload_n 76 (gd rfl) rfl rfl ?_
                  refine g_getA (q2 := 4) 79 (gd rfl) rfl rfl rfl rfl ?_
                  refine g_iload 81 (gd rfl) rfl rfl ?_
                  refine g_iaload 82 (gd rfl) rfl (n := 160) rfl (in_ix i34 rfl) (fun z81 e81 => ?_)
                  have q81 : z46x5 = z81 := (e46x5).trans e81.symm
                  subst q81
                  refine g_iload 84 (gd rfl) rfl rfl ?_
                  refine g_cmp_ne 87 100 (gd rfl) rfl rfl (fun c84 => ?_) (fun c84 => ?_)
                  · skip
                    refine g_iinc 103 (gd rfl) rfl rfl (Nat.le_of_ble_eq_true rfl) (fun z100 e100 => ?_)
                    have i100 := in_add 1 160 e100 i34 (in_c 1 rfl) rfl rfl
                    refine g_goto 28 (gd rfl) rfl ?_
                    exact gg_w (by first | exact Nat.le_add_right _ _ | exact gw2 | exact gw3 | exact gwe rfl | exact gwf rfl | exact gwg rfl | exact gwh rfl | omega) (gg_f (gf_cons rfl (gf_cons rfl (gf_cons rfl (gf_cons rfl (gf_cons rfl (gf_cons rfl gf_nil)))))) (ih28 sc28 y28_3 y28_4 z100 hIc28 hFc28 (in_w 0 31 j28_3 rfl) (in_w 0 31 j28_4 rfl) (in_w 0 160 i100 rfl) (m_up mm28 (t_add e100 i34 (in_c 1 rfl) rfl) (in_w 1 1 (in_c 1 rfl) rfl))))
                  · skip
                    refine g_aload_n 88 (gd rfl) rfl rfl ?_
                    refine g_getA (q2 := 5) 91 (gd rfl) rfl rfl rfl rfl ?_
                    refine g_iload 93 (gd rfl) rfl rfl ?_
                    refine g_iaload 94 (gd rfl) rfl (n := 160) rfl (in_ix i34 rfl) (fun z93 e93 => ?_)
                    have q93 : z46x21 = z93 := (e46x21).trans e93.symm
                    subst q93
                    refine g_iload_n 95 (gd rfl) rfl rfl ?_
                    refine g_cmp_ne 98 100 (gd rfl) rfl rfl (fun c95 => ?_) (fun c95 => ?_)
                    · skip
                      refine g_iinc 103 (gd rfl) rfl rfl (Nat.le_of_ble_eq_true rfl) (fun z100 e100 => ?_)
                      have i100 := in_add 1 160 e100 i34 (in_c 1 rfl) rfl rfl
                      refine g_goto 28 (gd rfl) rfl ?_
                      exact gg_w (by first | exact Nat.le_add_right _ _ | exact gw2 | exact gw3 | exact gwe rfl | exact gwf rfl | exact gwg rfl | exact gwh rfl | omega) (gg_f (gf_cons rfl (gf_cons rfl (gf_cons rfl (gf_cons rfl (gf_cons rfl (gf_cons rfl gf_nil)))))) (ih28 sc28 y28_3 y28_4 z100 hIc28 hFc28 (in_w 0 31 j28_3 rfl) (in_w 0 31 j28_4 rfl) (in_w 0 160 i100 rfl) (m_up mm28 (t_add e100 i34 (in_c 1 rfl) rfl) (in_w 1 1 (in_c 1 rfl) rfl))))
                    · skip
                      refine g_iconst 0 99 (gd rfl) rfl rfl ?_
                      exact g_ireturn (gd rfl) rfl (nb01 (in_w 0 1 (in_c 0 rfl) rfl)) (hP _ _ ⟨sc28, hIc28, hFc28, (Int32.ofInt 0), rfl, rfl, in_w 0 1 (in_c 0 rfl) rfl⟩)
                · skip
                  refine g_aload_n 64 (gd rfl) rfl rfl ?_
                  refine g_getA (q2 := 5) 67 (gd rfl) rfl rfl rfl rfl ?_
                  refine g_iload 69 (gd rfl) rfl rfl ?_
                  refine g_iaload 70 (gd rfl) rfl (n := 160) rfl (in_ix i34 rfl) (fun z69 e69 => ?_)
                  have q69 : z46x21 = z69 := (e46x21).trans e69.symm
                  subst q69
                  refine g_iload 72 (gd rfl) rfl rfl ?_
                  refine g_cmp_eq 75 98 (gd rfl) rfl rfl (fun c72 => ?_) (fun c72 => ?_)
                  · skip
                    refine g_iconst 0 99 (gd rfl) rfl rfl ?_
                    exact g_ireturn (gd rfl) rfl (nb01 (in_w 0 1 (in_c 0 rfl) rfl)) (hP _ _ ⟨sc28, hIc28, hFc28, (Int32.ofInt 0), rfl, rfl, in_w 0 1 (in_c 0 rfl) rfl⟩)
                  · skip
                    refine g_aload_n 76 (gd rfl) rfl rfl ?_
                    refine g_getA (q2 := 4) 79 (gd rfl) rfl rfl rfl rfl ?_
                    refine g_iload 81 (gd rfl) rfl rfl ?_
                    refine g_iaload 82 (gd rfl) rfl (n := 160) rfl (in_ix i34 rfl) (fun z81 e81 => ?_)
                    have q81 : z46x5 = z81 := (e46x5).trans e81.symm
                    subst q81
                    refine g_iload 84 (gd rfl) rfl rfl ?_
                    refine g_cmp_ne 87 100 (gd rfl) rfl rfl (fun c84 => ?_) (fun c84 => ?_)
                    · skip
                      refine g_iinc 103 (gd rfl) rfl rfl (Nat.le_of_ble_eq_true rfl) (fun z100 e100 => ?_)
                      have i100 := in_add 1 160 e100 i34 (in_c 1 rfl) rfl rfl
                      refine g_goto 28 (gd rfl) rfl ?_
                      exact gg_w (by first | exact Nat.le_add_right _ _ | exact gw2 | exact gw3 | exact gwe rfl | exact gwf rfl | exact gwg rfl | exact gwh rfl | omega) (gg_f (gf_cons rfl (gf_cons rfl (gf_cons rfl (gf_cons rfl (gf_cons rfl (gf_cons rfl gf_nil)))))) (ih28 sc28 y28_3 y28_4 z100 hIc28 hFc28 (in_w 0 31 j28_3 rfl) (in_w 0 31 j28_4 rfl) (in_w 0 160 i100 rfl) (m_up mm28 (t_add e100 i34 (in_c 1 rfl) rfl) (in_w 1 1 (in_c 1 rfl) rfl))))
                    · skip
                      refine g_aload_n 88 (gd rfl) rfl rfl ?_
                      refine g_getA (q2 := 5) 91 (gd rfl) rfl rfl rfl rfl ?_
                      refine g_iload 93 (gd rfl) rfl rfl ?_
                      refine g_iaload 94 (gd rfl) rfl (n := 160) rfl (in_ix i34 rfl) (fun z93 e93 => ?_)
                      have q93 : z46x21 = z93 := (e46x21).trans e93.symm
                      subst q93
                      refine g_iload_n 95 (gd rfl) rfl rfl ?_
                      refine g_cmp_ne 98 100 (gd rfl) rfl rfl (fun c95 => ?_) (fun c95 => ?_)
                      · skip
                        refine g_iinc 103 (gd rfl) rfl rfl (Nat.le_of_ble_eq_true rfl) (fun z100 e100 => ?_)
                        have i100 := in_add 1 160 e100 i34 (in_c 1 rfl) rfl rfl
                        refine g_goto 28 (gd rfl) rfl ?_
                        exact gg_w (by first | exact Nat.le_add_right _ _ | exact gw2 | exact gw3 | exact gwe rfl | exact gwf rfl | exact gwg rfl | exact gwh rfl | omega) (gg_f (gf_cons rfl (gf_cons rfl (gf_cons rfl (gf_cons rfl (gf_cons rfl (gf_cons rfl gf_nil)))))) (ih28 sc28 y28_3 y28_4 z100 hIc28 hFc28 (in_w 0 31 j28_3 rfl) (in_w 0 31 j28_4 rfl) (in_w 0 160 i100 rfl) (m_up mm28 (t_add e100 i34 (in_c 1 rfl) rfl) (in_w 1 1 (in_c 1 rfl) rfl))))
                      · skip
                        refine g_iconst 0 99 (gd rfl) rfl rfl ?_
                        exact g_ireturn (gd rfl) rfl (nb01 (in_w 0 1 (in_c 0 rfl) rfl)) (hP _ _ ⟨sc28, hIc28, hFc28, (Int32.ofInt 0), rfl, rfl, in_w 0 1 (in_c 0 rfl) rfl⟩)
  refine g_enter2 (k := 142) (N := 145801) (by first | exact dq1 hd rfl | exact dq0 hd rfl | exact dq2 hd rfl | exact dq3 hd rfl | omega) rfl (Nat.le_of_ble_eq_true rfl) ?_
  refine g_aload_n 1 (gd rfl) rfl rfl ?_
  refine g_iload_n 2 (gd rfl) rfl rfl ?_
  refine g_callv (X := _) (As := [.int x2]) (r := []) (b := A 2) (q := 2) 5 (gd rfl) rfl rfl rfl rfl rfl (ww_o rfl) (Nat.le_of_ble_eq_true rfl) (mc := 0) (ms := 0) (Nat.zero_le _) (Nat.zero_le _) (P := fun v u => _) ?_ (fun e u h => h) (fun v u h => h)
  intro po2 xx2 hp2 hx2
  refine g_enter2 (k := 97) (N := 300) (by first | exact dq1 hd rfl | exact dq0 hd rfl | exact dq2 hd rfl | exact dq3 hd rfl | omega) rfl (Nat.le_of_ble_eq_true rfl) ?_
  refine g_aload_n 1 (gd rfl) rfl rfl ?_
  refine g_getA (q2 := 4) 4 (gd rfl) rfl rfl rfl rfl ?_
  refine g_iload_n 5 (gd rfl) rfl rfl ?_
  refine g_iaload 6 (gd rfl) rfl (n := 160) rfl (in_ix h2 rfl) (fun z2x5 e2x5 => ?_)
  have i2x5 := inv_I hI (n := 160) (t := 0) (-1) 31 rfl (in_ix h2 rfl) rfl e2x5
  refine g_iconst (-1) 7 (gd rfl) rfl rfl ?_
  refine g_cmp_eq 10 29 (gd rfl) rfl rfl (fun c2x7 => ?_) (fun c2x7 => ?_)
  · skip
    have i2x7 := r_eq1 (-1) (-1) c2x7 i2x5 (in_c (-1) rfl) rfl
    refine g_iconst 0 30 (gd rfl) rfl rfl ?_
    refine g_ireturn (gd rfl) rfl (nb01 (in_w 0 1 (in_c 0 rfl) rfl)) (hp2 _ _ ?_)
    show GG _ _ _ _ _ _ _ _ [.int (Int32.ofInt 0)] _ _ _
    refine g_if_ne 8 10 (gd rfl) rfl rfl (fun c5 => ?_) (fun c5 => ?_)
    · skip
      exact zn_ne c5 (in_c 0 rfl) rfl
    · skip
      refine g_iconst 0 9 (gd rfl) rfl rfl ?_
      exact g_ireturn (gd rfl) rfl (nb01 (in_w 0 1 (in_c 0 rfl) rfl)) (hP _ _ ⟨s, hI, fr_rf, (Int32.ofInt 0), rfl, rfl, in_w 0 1 (in_c 0 rfl) rfl⟩)
  · skip
    have i2x7 := r_ne1 0 31 c2x7 i2x5 (in_c (-1) rfl) rfl
    refine g_aload_n 11 (gd rfl) rfl rfl ?_
    refine g_getA (q2 := 4) 14 (gd rfl) rfl rfl rfl rfl ?_
    refine g_iload_n 15 (gd rfl) rfl rfl ?_
    refine g_iaload 16 (gd rfl) rfl (n := 160) rfl (in_ix h2 rfl) (fun z2x15 e2x15 => ?_)
    have q2x15 : z2x5 = z2x15 := (e2x5).trans e2x15.symm
    subst q2x15
    refine g_aload_n 17 (gd rfl) rfl rfl ?_
    refine g_getA (q2 := 5) 20 (gd rfl) rfl rfl rfl rfl ?_
    refine g_iload_n 21 (gd rfl) rfl rfl ?_
    refine g_iaload 22 (gd rfl) rfl (n := 160) rfl (in_ix h2 rfl) (fun z2x21 e2x21 => ?_)
    have i2x21 := inv_I hI (n := 160) (t := 0) 0 31 rfl (in_ix h2 rfl) rfl e2x21
    refine g_cmp_eq 25 29 (gd rfl) rfl rfl (fun c2x22 => ?_) (fun c2x22 => ?_)
    · skip
      refine g_iconst 0 30 (gd rfl) rfl rfl ?_
      refine g_ireturn (gd rfl) rfl (nb01 (in_w 0 1 (in_c 0 rfl) rfl)) (hp2 _ _ ?_)
      show GG _ _ _ _ _ _ _ _ [.int (Int32.ofInt 0)] _ _ _
      refine g_if_ne 8 10 (gd rfl) rfl rfl (fun c5 => ?_) (fun c5 => ?_)
      · skip
        exact zn_ne c5 (in_c 0 rfl) rfl
      · skip
        refine g_iconst 0 9 (gd rfl) rfl rfl ?_
        exact g_ireturn (gd rfl) rfl (nb01 (in_w 0 1 (in_c 0 rfl) rfl)) (hP _ _ ⟨s, hI, fr_rf, (Int32.ofInt 0), rfl, rfl, in_w 0 1 (in_c 0 rfl) rfl⟩)
    · skip
      refine g_iconst 1 26 (gd rfl) rfl rfl ?_
      refine g_goto 30 (gd rfl) rfl ?_
      refine g_ireturn (gd rfl) rfl (nb01 (in_w 0 1 (in_c 1 rfl) rfl)) (hp2 _ _ ?_)
      show GG _ _ _ _ _ _ _ _ [.int (Int32.ofInt 1)] _ _ _
      refine g_if_ne 8 10 (gd rfl) rfl rfl (fun c5 => ?_) (fun c5 => ?_)
      · skip
        refine g_aload_n 11 (gd rfl) rfl rfl ?_
        refine g_getA (q2 := 4) 14 (gd rfl) rfl rfl rfl rfl ?_
        refine g_iload_n 15 (gd rfl) rfl rfl ?_
        refine g_iaload 16 (gd rfl) rfl (n := 160) rfl (in_ix h2 rfl) (fun z15 e15 => ?_)
        have q15 : z2x5 = z15 := (e2x5).trans e15.symm
        subst q15
        refine g_istore_n 17 (gd rfl) rfl (Nat.le_of_ble_eq_true rfl) ?_
        refine g_aload_n 18 (gd rfl) rfl rfl ?_
        refine g_getA (q2 := 5) 21 (gd rfl) rfl rfl rfl rfl ?_
        refine g_iload_n 22 (gd rfl) rfl rfl ?_
        refine g_iaload 23 (gd rfl) rfl (n := 160) rfl (in_ix h2 rfl) (fun z22 e22 => ?_)
        have q22 : z2x21 = z22 := (e2x21).trans e22.symm
        subst q22
        refine g_istore 25 (gd rfl) rfl (Nat.le_of_ble_eq_true rfl) ?_
        refine g_iconst 0 26 (gd rfl) rfl rfl ?_
        refine g_istore 28 (gd rfl) rfl (Nat.le_of_ble_eq_true rfl) ?_
        exact gg_w (by first | exact Nat.le_of_ble_eq_true rfl | omega) (gg_f (gf_cons rfl (gf_cons rfl (gf_cons rfl (gf_cons rfl (gf_cons rfl (gf_cons rfl gf_nil)))))) (ct28 161 s z2x5 z2x21 (Int32.ofInt 0) hI fr_rf (in_w 0 31 i2x7 rfl) (in_w 0 31 i2x21 rfl) (in_w 0 160 (in_c 0 rfl) rfl) (m_in 161 (in_w 0 160 (in_c 0 rfl) rfl) rfl)))
      · skip
        exact zn_eq c5 (in_c 1 rfl) rfl

def fm_142_56_32 : FM := ([39, 40, 41, 42, 43, 44, 45], [], [(32, 4)], [])
/-- GraphHouse$Parts.isBridge -/
theorem k_142_56_32 {Z : AmZ} {A : Nat → Nat} {s : GS} {ex : va_W} {d : Nat} {X : AmX} {x2 : Int32} (hd : 5 ≤ d) (hI : Inv s) (h2 : In x2 0 159) : GC Z d 142 [.ref (A 56), .ref (A 32), .int x2] (WW Z A s ++ ex) 0 0 (fun v u => ∃ t : GS, Inv t ∧ Fr fm_142_56_32 s t ∧ ∃ z : Int32, v = some (.int z) ∧ u = WW Z A t ++ ex ∧ In z 0 1) X := by
  intro post xp hP hX
  obtain ⟨u_32_3, e_32_3⟩ : ∃ w, w = s.2.2.1 32 3 := ⟨_, rfl⟩
  have ro_32_3 := inv_F hI 0 160 rfl e_32_3
  have ct28 : ∀ (k28 : Nat) (sc28 : GS) (y28_3 : Int32) (y28_4 : Int32) (y28_5 : Int32), Inv sc28 → Fr fm_142_56_32 s sc28 → (In y28_3 0 31) → (In y28_4 0 31) → (In y28_5 0 160) → 160 - (y28_5).toInt < (k28 : Int) → GG Z (d - 1) 142 post (gx xp) (1 + k28 * 900) 28 (fun j => xlook j [(0, .ref (A 56)), (1, .ref (A 32)), (2, .int x2), (3, .int y28_3), (4, .int y28_4), (5, .int y28_5)]) [] (WW Z A sc28 ++ ex) 0 0 := by
    intro k28
    induction k28 with
    | zero => intro sc28 y28_3 y28_4 y28_5 hIc28 hFc28 j28_3 j28_4 j28_5 mm28; exact m_no mm28 j28_5 rfl
    | succ k28 ih28 =>
      intro sc28 y28_3 y28_4 y28_5 hIc28 hFc28 j28_3 j28_4 j28_5 mm28
      refine gg_w (M := 1 + k28 * 900 + 900) gws ?_
      refine g_iload 30 (gd rfl) rfl rfl ?_
      refine g_aload_n 31 (gd rfl) rfl rfl ?_
      refine g_getI 34 (gd rfl) rfl rfl rfl (fun z31 e31 => ?_)
      have q31 : u_32_3 = z31 := (fr_F e_32_3 hFc28 rfl).trans e31.symm
      subst q31
      refine g_cmp_ge 37 106 (gd rfl) rfl rfl (fun c34 => ?_) (fun c34 => ?_)
      · skip
        refine g_aload_n 107 (gd rfl) rfl rfl ?_
        refine g_callv (X := _) (As := []) (r := []) (b := A 32) (q := 32) 110 (gd rfl) rfl rfl rfl rfl rfl (ww_o rfl) (Nat.le_of_ble_eq_true rfl) (Nat.zero_le _) (Nat.zero_le _) (k_106_32 (by first | exact dq1 hd rfl | exact dq0 hd rfl | exact dq2 hd rfl | exact dq3 hd rfl | omega) hIc28 ) (fun e u h => h) (fun v u h => ?_)
        obtain ⟨s107, hI107, hF107, n107, rfl, rfl⟩ := h
        obtain ⟨z107a, e107⟩ : ∃ w, w = s107.2.2.1 32 4 := ⟨_, rfl⟩
        have i107a := inv_F hI107 (-1) 4000 rfl e107
        obtain ⟨z107b, e107a⟩ : ∃ w, w = s107.2.2.1 32 0 := ⟨_, rfl⟩
        have i107b := inv_F hI107 0 4000 rfl e107a
        rw [← (show z107a = s107.2.2.1 32 4 from e107)] at n107
        rw [← (show z107b = s107.2.2.1 32 0 from e107a)] at n107
        show GG _ _ _ _ _ _ _ _ [] _ _ _
        refine g_aload_n 111 (gd rfl) rfl rfl ?_
        refine g_getA (q2 := 39) 114 (gd rfl) rfl rfl rfl rfl ?_
        refine g_aload_n 115 (gd rfl) rfl rfl ?_
        refine g_getA (q2 := 39) 118 (gd rfl) rfl rfl rfl rfl ?_
        refine g_iload_n 119 (gd rfl) rfl rfl ?_
        refine g_iaload 120 (gd rfl) rfl (n := 32) rfl (in_ix j28_3 rfl) (fun z119 e119 => ?_)
        refine g_iconst 1 121 (gd rfl) rfl rfl ?_
        refine g_iload 123 (gd rfl) rfl rfl ?_
        refine g_ishl 124 (gd rfl) rfl (fun z123 e123 => ?_)
        refine g_iconst (-1) 125 (gd rfl) rfl rfl ?_
        refine g_ixor 126 (gd rfl) rfl (fun z125 e125 => ?_)
        refine g_iand 127 (gd rfl) rfl (fun z126 e126 => ?_)
        refine g_iconst 1 128 (gd rfl) rfl rfl ?_
        refine g_iload_n 129 (gd rfl) rfl rfl ?_
        refine g_ishl 130 (gd rfl) rfl (fun z129 e129 => ?_)
        refine g_iconst (-1) 131 (gd rfl) rfl rfl ?_
        refine g_ixor 132 (gd rfl) rfl (fun z131 e131 => ?_)
        refine g_calls (As := [.ref (A 39), .int z126, .int z131]) (r := []) 135 (gd rfl) rfl rfl rfl rfl rfl (Nat.le_of_ble_eq_true rfl) (Nat.zero_le _) (Nat.zero_le _) (k_266_39 (by first | exact dq1 hd rfl | exact dq0 hd rfl | exact dq2 hd rfl | exact dq3 hd rfl | omega) hI107 ) (fun v u h => ?_)
        obtain ⟨z132, rfl, rfl, i132, p132⟩ := h
        show GG _ _ _ _ _ _ _ _ [.int z132] _ _ _
        refine g_istore 137 (gd rfl) rfl (Nat.le_of_ble_eq_true rfl) ?_
        refine g_iload 139 (gd rfl) rfl rfl ?_
        refine g_iload 141 (gd rfl) rfl rfl ?_
        refine g_ishr 142 (gd rfl) rfl (fun z141 e141 => ?_)
        refine g_iconst 1 143 (gd rfl) rfl rfl ?_
        refine g_iand 144 (gd rfl) rfl (fun z143 e143 => ?_)
        have i143 := in_and2 e143 (in_c 1 rfl) rfl
        refine g_if_ne 147 151 (gd rfl) rfl rfl (fun c144 => ?_) (fun c144 => ?_)
        · skip
          have i144 := z_ne 1 1 c144 i143 rfl
          refine g_iconst 0 152 (gd rfl) rfl rfl ?_
          exact g_ireturn (gd rfl) rfl (nb01 (in_w 0 1 (in_c 0 rfl) rfl)) (hP _ _ ⟨s107, hI107, (fr_tr rfl hFc28 hF107), (Int32.ofInt 0), rfl, rfl, in_w 0 1 (in_c 0 rfl) rfl⟩)
        · skip
          have i144 := z_eq 0 0 c144 i143 rfl
          refine g_iconst 1 148 (gd rfl) rfl rfl ?_
          refine g_goto 152 (gd rfl) rfl ?_
          exact g_ireturn (gd rfl) rfl (nb01 (in_w 0 1 (in_c 1 rfl) rfl)) (hP _ _ ⟨s107, hI107, (fr_tr rfl hFc28 hF107), (Int32.ofInt 1), rfl, rfl, in_w 0 1 (in_c 1 rfl) rfl⟩)
      · skip
        have i34 := r_lt1 0 159 c34 j28_5 ro_32_3 rfl
        have i34a := r_lt2 1 160 c34 j28_5 ro_32_3 rfl
        refine g_iload 39 (gd rfl) rfl rfl ?_
        refine g_iload_n 40 (gd rfl) rfl rfl ?_
        refine g_cmp_eq 43 100 (gd rfl) rfl rfl (fun c40 => ?_) (fun c40 => ?_)
        · skip
          refine g_iinc 103 (gd rfl) rfl rfl (Nat.le_of_ble_eq_true rfl) (fun z100 e100 => ?_)
          have i100 := in_add 1 160 e100 i34 (in_c 1 rfl) rfl rfl
          refine g_goto 28 (gd rfl) rfl ?_
          exact gg_w (by first | exact Nat.le_add_right _ _ | exact gw2 | exact gw3 | exact gwe rfl | exact gwf rfl | exact gwg rfl | exact gwh rfl | omega) (gg_f (gf_cons rfl (gf_cons rfl (gf_cons rfl (gf_cons rfl (gf_cons rfl (gf_cons rfl gf_nil)))))) (ih28 sc28 y28_3 y28_4 z100 hIc28 hFc28 (in_w 0 31 j28_3 rfl) (in_w 0 31 j28_4 rfl) (in_w 0 160 i100 rfl) (m_up mm28 (t_add e100 i34 (in_c 1 rfl) rfl) (in_w 1 1 (in_c 1 rfl) rfl))))
        · skip
          refine g_aload_n 44 (gd rfl) rfl rfl ?_
          refine g_iload 46 (gd rfl) rfl rfl ?_
          refine g_callv (X := _) (As := [.int y28_5]) (r := []) (b := A 32) (q := 32) 49 (gd rfl) rfl rfl rfl rfl rfl (ww_o rfl) (Nat.le_of_ble_eq_true rfl) (mc := 0) (ms := 0) (Nat.zero_le _) (Nat.zero_le _) (P := fun v u => _) ?_ (fun e u h => h) (fun v u h => h)
          intro po46 xx46 hp46 hx46
          refine g_enter2 (k := 97) (N := 300) (by first | exact dq1 hd rfl | exact dq0 hd rfl | exact dq2 hd rfl | exact dq3 hd rfl | omega) rfl (Nat.le_of_ble_eq_true rfl) ?_
          refine g_aload_n 1 (gd rfl) rfl rfl ?_
          refine g_getA (q2 := 34) 4 (gd rfl) rfl rfl rfl rfl ?_
          refine g_iload_n 5 (gd rfl) rfl rfl ?_
          refine g_iaload 6 (gd rfl) rfl (n := 160) rfl (in_ix i34 rfl) (fun z46x5 e46x5 => ?_)
          have i46x5 := inv_I hIc28 (n := 160) (t := 0) (-1) 31 rfl (in_ix i34 rfl) rfl e46x5
          refine g_iconst (-1) 7 (gd rfl) rfl rfl ?_
          refine g_cmp_eq 10 29 (gd rfl) rfl rfl (fun c46x7 => ?_) (fun c46x7 => ?_)
          · skip
            have i46x7 := r_eq1 (-1) (-1) c46x7 i46x5 (in_c (-1) rfl) rfl
            refine g_iconst 0 30 (gd rfl) rfl rfl ?_
            refine g_ireturn (gd rfl) rfl (nb01 (in_w 0 1 (in_c 0 rfl) rfl)) (hp46 _ _ ?_)
            show GG _ _ _ _ _ _ _ _ [.int (Int32.ofInt 0)] _ _ _
            refine g_if_eq 52 100 (gd rfl) rfl rfl (fun c49 => ?_) (fun c49 => ?_)
            · skip
              refine g_iinc 103 (gd rfl) rfl rfl (Nat.le_of_ble_eq_true rfl) (fun z100 e100 => ?_)
              have i100 := in_add 1 160 e100 i34 (in_c 1 rfl) rfl rfl
              refine g_goto 28 (gd rfl) rfl ?_
              exact gg_w (by first | exact Nat.le_add_right _ _ | exact gw2 | exact gw3 | exact gwe rfl | exact gwf rfl | exact gwg rfl | exact gwh rfl | omega) (gg_f (gf_cons rfl (gf_cons rfl (gf_cons rfl (gf_cons rfl (gf_cons rfl (gf_cons rfl gf_nil)))))) (ih28 sc28 y28_3 y28_4 z100 hIc28 hFc28 (in_w 0 31 j28_3 rfl) (in_w 0 31 j28_4 rfl) (in_w 0 160 i100 rfl) (m_up mm28 (t_add e100 i34 (in_c 1 rfl) rfl) (in_w 1 1 (in_c 1 rfl) rfl))))
            · skip
              exact zn_ne c49 (in_c 0 rfl) rfl
          · skip
            have i46x7 := r_ne1 0 31 c46x7 i46x5 (in_c (-1) rfl) rfl
            refine g_aload_n 11 (gd rfl) rfl rfl ?_
            refine g_getA (q2 := 34) 14 (gd rfl) rfl rfl rfl rfl ?_
            refine g_iload_n 15 (gd rfl) rfl rfl ?_
            refine g_iaload 16 (gd rfl) rfl (n := 160) rfl (in_ix i34 rfl) (fun z46x15 e46x15 => ?_)
            have q46x15 : z46x5 = z46x15 := (e46x5).trans e46x15.symm
            subst q46x15
            refine g_aload_n 17 (gd rfl) rfl rfl ?_
            refine g_getA (q2 := 35) 20 (gd rfl) rfl rfl rfl rfl ?_
            refine g_iload_n 21 (gd rfl) rfl rfl ?_
            refine g_iaload 22 (gd rfl) rfl (n := 160) rfl (in_ix i34 rfl) (fun z46x21 e46x21 => ?_)
            have i46x21 := inv_I hIc28 (n := 160) (t := 0) 0 31 rfl (in_ix i34 rfl) rfl e46x21
            refine g_cmp_eq 25 29 (gd rfl) rfl rfl (fun c46x22 => ?_) (fun c46x22 => ?_)
            · skip
              refine g_iconst 0 30 (gd rfl) rfl rfl ?_
              refine g_ireturn (gd rfl) rfl (nb01 (in_w 0 1 (in_c 0 rfl) rfl)) (hp46 _ _ ?_)
              show GG _ _ _ _ _ _ _ _ [.int (Int32.ofInt 0)] _ _ _
              refine g_if_eq 52 100 (gd rfl) rfl rfl (fun c49 => ?_) (fun c49 => ?_)
              · skip
                refine g_iinc 103 (gd rfl) rfl rfl (Nat.le_of_ble_eq_true rfl) (fun z100 e100 => ?_)
                have i100 := in_add 1 160 e100 i34 (in_c 1 rfl) rfl rfl
                refine g_goto 28 (gd rfl) rfl ?_
                exact gg_w (by first | exact Nat.le_add_right _ _ | exact gw2 | exact gw3 | exact gwe rfl | exact gwf rfl | exact gwg rfl | exact gwh rfl | omega) (gg_f (gf_cons rfl (gf_cons rfl (gf_cons rfl (gf_cons rfl (gf_cons rfl (gf_cons rfl gf_nil)))))) (ih28 sc28 y28_3 y28_4 z100 hIc28 hFc28 (in_w 0 31 j28_3 rfl) (in_w 0 31 j28_4 rfl) (in_w 0 160 i100 rfl) (m_up mm28 (t_add e100 i34 (in_c 1 rfl) rfl) (in_w 1 1 (in_c 1 rfl) rfl))))
              · skip
                exact zn_ne c49 (in_c 0 rfl) rfl
            · skip
              refine g_iconst 1 26 (gd rfl) rfl rfl ?_
              refine g_goto 30 (gd rfl) rfl ?_
              refine g_ireturn (gd rfl) rfl (nb01 (in_w 0 1 (in_c 1 rfl) rfl)) (hp46 _ _ ?_)
              show GG _ _ _ _ _ _ _ _ [.int (Int32.ofInt 1)] _ _ _
              refine g_if_eq 52 100 (gd rfl) rfl rfl (fun c49 => ?_) (fun c49 => ?_)
              · skip
                exact zn_eq c49 (in_c 1 rfl) rfl
              · skip
                refine g_aload_n 53 (gd rfl) rfl rfl ?_
                refine g_getA (q2 := 34) 56 (gd rfl) rfl rfl rfl rfl ?_
                refine g_iload 58 (gd rfl) rfl rfl ?_
                refine g_iaload 59 (gd rfl) rfl (n := 160) rfl (in_ix i34 rfl) (fun z58 e58 => ?_)
                have q58 : z46x5 = z58 := (e46x5).trans e58.symm
                subst q58
                refine g_iload_n 60 (gd rfl) rfl rfl ?_
                refine g_cmp_ne 63 75 (gd rfl) rfl rfl (fun c60 => ?_) (fun c60 => ?_)
                · skip
                  refine g_aload_n 76 (gd rfl) rfl rfl ?_
                  refine g_getA (q2 := 34) 79 (gd rfl) rfl rfl rfl rfl ?_
                  refine g_iload 81 (gd rfl) rfl rfl ?_
                  refine g_iaload 82 (gd rfl) rfl (n := 160) rfl (in_ix i34 rfl) (fun z81 e81 => ?_)
                  have q81 : z46x5 = z81 := (e46x5).trans e81.symm
                  subst q81
                  refine g_iload 84 (gd rfl) rfl rfl ?_
                  refine g_cmp_ne 87 100 (gd rfl) rfl rfl (fun c84 => ?_) (fun c84 => ?_)
                  · skip
                    refine g_iinc 103 (gd rfl) rfl rfl (Nat.le_of_ble_eq_true rfl) (fun z100 e100 => ?_)
                    have i100 := in_add 1 160 e100 i34 (in_c 1 rfl) rfl rfl
                    refine g_goto 28 (gd rfl) rfl ?_
                    exact gg_w (by first | exact Nat.le_add_right _ _ | exact gw2 | exact gw3 | exact gwe rfl | exact gwf rfl | exact gwg rfl | exact gwh rfl | omega) (gg_f (gf_cons rfl (gf_cons rfl (gf_cons rfl (gf_cons rfl (gf_cons rfl (gf_cons rfl gf_nil)))))) (ih28 sc28 y28_3 y28_4 z100 hIc28 hFc28 (in_w 0 31 j28_3 rfl) (in_w 0 31 j28_4 rfl) (in_w 0 160 i100 rfl) (m_up mm28 (t_add e100 i34 (in_c 1 rfl) rfl) (in_w 1 1 (in_c 1 rfl) rfl))))
                  · skip
                    refine g_aload_n 88 (gd rfl) rfl rfl ?_
                    refine g_getA (q2 := 35) 91 (gd rfl) rfl rfl rfl rfl ?_
                    refine g_iload 93 (gd rfl) rfl rfl ?_
                    refine g_iaload 94 (gd rfl) rfl (n := 160) rfl (in_ix i34 rfl) (fun z93 e93 => ?_)
                    have q93 : z46x21 = z93 := (e46x21).trans e93.symm
                    subst q93
                    refine g_iload_n 95 (gd rfl) rfl rfl ?_
                    refine g_cmp_ne 98 100 (gd rfl) rfl rfl (fun c95 => ?_) (fun c95 => ?_)
                    · skip
                      refine g_iinc 103 (gd rfl) rfl rfl (Nat.le_of_ble_eq_true rfl) (fun z100 e100 => ?_)
                      have i100 := in_add 1 160 e100 i34 (in_c 1 rfl) rfl rfl
                      refine g_goto 28 (gd rfl) rfl ?_
                      exact gg_w (by first | exact Nat.le_add_right _ _ | exact gw2 | exact gw3 | exact gwe rfl | exact gwf rfl | exact gwg rfl | exact gwh rfl | omega) (gg_f (gf_cons rfl (gf_cons rfl (gf_cons rfl (gf_cons rfl (gf_cons rfl (gf_cons rfl gf_nil)))))) (ih28 sc28 y28_3 y28_4 z100 hIc28 hFc28 (in_w 0 31 j28_3 rfl) (in_w 0 31 j28_4 rfl) (in_w 0 160 i100 rfl) (m_up mm28 (t_add e100 i34 (in_c 1 rfl) rfl) (in_w 1 1 (in_c 1 rfl) rfl))))
                    · skip
                      refine g_iconst 0 99 (gd rfl) rfl rfl ?_
                      exact g_ireturn (gd rfl) rfl (nb01 (in_w 0 1 (in_c 0 rfl) rfl)) (hP _ _ ⟨sc28, hIc28, hFc28, (Int32.ofInt 0), rfl, rfl, in_w 0 1 (in_c 0 rfl) rfl⟩)
                · skip
                  refine g_aload_n 64 (gd rfl) rfl rfl ?_
                  refine g_getA (q2 := 35) 67 (gd rfl) rfl rfl rfl rfl ?_
                  refine g_iload 69 (gd rfl) rfl rfl ?_
                  refine g_iaload 70 (gd rfl) rfl (n := 160) rfl (in_ix i34 rfl) (fun z69 e69 => ?_)
                  have q69 : z46x21 = z69 := (e46x21).trans e69.symm
                  subst q69
                  refine g_iload 72 (gd rfl) rfl rfl ?_
                  refine g_cmp_eq 75 98 (gd rfl) rfl rfl (fun c72 => ?_) (fun c72 => ?_)
                  · skip
                    refine g_iconst 0 99 (gd rfl) rfl rfl ?_
                    exact g_ireturn (gd rfl) rfl (nb01 (in_w 0 1 (in_c 0 rfl) rfl)) (hP _ _ ⟨sc28, hIc28, hFc28, (Int32.ofInt 0), rfl, rfl, in_w 0 1 (in_c 0 rfl) rfl⟩)
                  · skip
                    refine g_aload_n 76 (gd rfl) rfl rfl ?_
                    refine g_getA (q2 := 34) 79 (gd rfl) rfl rfl rfl rfl ?_
                    refine g_iload 81 (gd rfl) rfl rfl ?_
                    refine g_iaload 82 (gd rfl) rfl (n := 160) rfl (in_ix i34 rfl) (fun z81 e81 => ?_)
                    have q81 : z46x5 = z81 := (e46x5).trans e81.symm
                    subst q81
                    refine g_iload 84 (gd rfl) rfl rfl ?_
                    refine g_cmp_ne 87 100 (gd rfl) rfl rfl (fun c84 => ?_) (fun c84 => ?_)
                    · skip
                      refine g_iinc 103 (gd rfl) rfl rfl (Nat.le_of_ble_eq_true rfl) (fun z100 e100 => ?_)
                      have i100 := in_add 1 160 e100 i34 (in_c 1 rfl) rfl rfl
                      refine g_goto 28 (gd rfl) rfl ?_
                      exact gg_w (by first | exact Nat.le_add_right _ _ | exact gw2 | exact gw3 | exact gwe rfl | exact gwf rfl | exact gwg rfl | exact gwh rfl | omega) (gg_f (gf_cons rfl (gf_cons rfl (gf_cons rfl (gf_cons rfl (gf_cons rfl (gf_cons rfl gf_nil)))))) (ih28 sc28 y28_3 y28_4 z100 hIc28 hFc28 (in_w 0 31 j28_3 rfl) (in_w 0 31 j28_4 rfl) (in_w 0 160 i100 rfl) (m_up mm28 (t_add e100 i34 (in_c 1 rfl) rfl) (in_w 1 1 (in_c 1 rfl) rfl))))
                    · skip
                      refine g_aload_n 88 (gd rfl) rfl rfl ?_
                      refine g_getA (q2 := 35) 91 (gd rfl) rfl rfl rfl rfl ?_
                      refine g_iload 93 (gd rfl) rfl rfl ?_
                      refine g_iaload 94 (gd rfl) rfl (n := 160) rfl (in_ix i34 rfl) (fun z93 e93 => ?_)
                      have q93 : z46x21 = z93 := (e46x21).trans e93.symm
                      subst q93
                      refine g_iload_n 95 (gd rfl) rfl rfl ?_
                      refine g_cmp_ne 98 100 (gd rfl) rfl rfl (fun c95 => ?_) (fun c95 => ?_)
                      · skip
                        refine g_iinc 103 (gd rfl) rfl rfl (Nat.le_of_ble_eq_true rfl) (fun z100 e100 => ?_)
                        have i100 := in_add 1 160 e100 i34 (in_c 1 rfl) rfl rfl
                        refine g_goto 28 (gd rfl) rfl ?_
                        exact gg_w (by first | exact Nat.le_add_right _ _ | exact gw2 | exact gw3 | exact gwe rfl | exact gwf rfl | exact gwg rfl | exact gwh rfl | omega) (gg_f (gf_cons rfl (gf_cons rfl (gf_cons rfl (gf_cons rfl (gf_cons rfl (gf_cons rfl gf_nil)))))) (ih28 sc28 y28_3 y28_4 z100 hIc28 hFc28 (in_w 0 31 j28_3 rfl) (in_w 0 31 j28_4 rfl) (in_w 0 160 i100 rfl) (m_up mm28 (t_add e100 i34 (in_c 1 rfl) rfl) (in_w 1 1 (in_c 1 rfl) rfl))))
                      · skip
                        refine g_iconst 0 99 (gd rfl) rfl rfl ?_
                        exact g_ireturn (gd rfl) rfl (nb01 (in_w 0 1 (in_c 0 rfl) rfl)) (hP _ _ ⟨sc28, hIc28, hFc28, (Int32.ofInt 0), rfl, rfl, in_w 0 1 (in_c 0 rfl) rfl⟩)
  refine g_enter2 (k := 142) (N := 145801) (by first | exact dq1 hd rfl | exact dq0 hd rfl | exact dq2 hd rfl | exact dq3 hd rfl | omega) rfl (Nat.le_of_ble_eq_true rfl) ?_
  refine g_aload_n 1 (gd rfl) rfl rfl ?_
  refine g_iload_n 2 (gd rfl) rfl rfl ?_
  refine g_callv (X := _) (As := [.int x2]) (r := []) (b := A 32) (q := 32) 5 (gd rfl) rfl rfl rfl rfl rfl (ww_o rfl) (Nat.le_of_ble_eq_true rfl) (mc := 0) (ms := 0) (Nat.zero_le _) (Nat.zero_le _) (P := fun v u => _) ?_ (fun e u h => h) (fun v u h => h)
  intro po2 xx2 hp2 hx2
  refine g_enter2 (k := 97) (N := 300) (by first | exact dq1 hd rfl | exact dq0 hd rfl | exact dq2 hd rfl | exact dq3 hd rfl | omega) rfl (Nat.le_of_ble_eq_true rfl) ?_
  refine g_aload_n 1 (gd rfl) rfl rfl ?_
  refine g_getA (q2 := 34) 4 (gd rfl) rfl rfl rfl rfl ?_
  refine g_iload_n 5 (gd rfl) rfl rfl ?_
  refine g_iaload 6 (gd rfl) rfl (n := 160) rfl (in_ix h2 rfl) (fun z2x5 e2x5 => ?_)
  have i2x5 := inv_I hI (n := 160) (t := 0) (-1) 31 rfl (in_ix h2 rfl) rfl e2x5
  refine g_iconst (-1) 7 (gd rfl) rfl rfl ?_
  refine g_cmp_eq 10 29 (gd rfl) rfl rfl (fun c2x7 => ?_) (fun c2x7 => ?_)
  · skip
    have i2x7 := r_eq1 (-1) (-1) c2x7 i2x5 (in_c (-1) rfl) rfl
    refine g_iconst 0 30 (gd rfl) rfl rfl ?_
    refine g_ireturn (gd rfl) rfl (nb01 (in_w 0 1 (in_c 0 rfl) rfl)) (hp2 _ _ ?_)
    show GG _ _ _ _ _ _ _ _ [.int (Int32.ofInt 0)] _ _ _
    refine g_if_ne 8 10 (gd rfl) rfl rfl (fun c5 => ?_) (fun c5 => ?_)
    · skip
      exact zn_ne c5 (in_c 0 rfl) rfl
    · skip
      refine g_iconst 0 9 (gd rfl) rfl rfl ?_
      exact g_ireturn (gd rfl) rfl (nb01 (in_w 0 1 (in_c 0 rfl) rfl)) (hP _ _ ⟨s, hI, fr_rf, (Int32.ofInt 0), rfl, rfl, in_w 0 1 (in_c 0 rfl) rfl⟩)
  · skip
    have i2x7 := r_ne1 0 31 c2x7 i2x5 (in_c (-1) rfl) rfl
    refine g_aload_n 11 (gd rfl) rfl rfl ?_
    refine g_getA (q2 := 34) 14 (gd rfl) rfl rfl rfl rfl ?_
    refine g_iload_n 15 (gd rfl) rfl rfl ?_
    refine g_iaload 16 (gd rfl) rfl (n := 160) rfl (in_ix h2 rfl) (fun z2x15 e2x15 => ?_)
    have q2x15 : z2x5 = z2x15 := (e2x5).trans e2x15.symm
    subst q2x15
    refine g_aload_n 17 (gd rfl) rfl rfl ?_
    refine g_getA (q2 := 35) 20 (gd rfl) rfl rfl rfl rfl ?_
    refine g_iload_n 21 (gd rfl) rfl rfl ?_
    refine g_iaload 22 (gd rfl) rfl (n := 160) rfl (in_ix h2 rfl) (fun z2x21 e2x21 => ?_)
    have i2x21 := inv_I hI (n := 160) (t := 0) 0 31 rfl (in_ix h2 rfl) rfl e2x21
    refine g_cmp_eq 25 29 (gd rfl) rfl rfl (fun c2x22 => ?_) (fun c2x22 => ?_)
    · skip
      refine g_iconst 0 30 (gd rfl) rfl rfl ?_
      refine g_ireturn (gd rfl) rfl (nb01 (in_w 0 1 (in_c 0 rfl) rfl)) (hp2 _ _ ?_)
      show GG _ _ _ _ _ _ _ _ [.int (Int32.ofInt 0)] _ _ _
      refine g_if_ne 8 10 (gd rfl) rfl rfl (fun c5 => ?_) (fun c5 => ?_)
      · skip
        exact zn_ne c5 (in_c 0 rfl) rfl
      · skip
        refine g_iconst 0 9 (gd rfl) rfl rfl ?_
        exact g_ireturn (gd rfl) rfl (nb01 (in_w 0 1 (in_c 0 rfl) rfl)) (hP _ _ ⟨s, hI, fr_rf, (Int32.ofInt 0), rfl, rfl, in_w 0 1 (in_c 0 rfl) rfl⟩)
    · skip
      refine g_iconst 1 26 (gd rfl) rfl rfl ?_
      refine g_goto 30 (gd rfl) rfl ?_
      refine g_ireturn (gd rfl) rfl (nb01 (in_w 0 1 (in_c 1 rfl) rfl)) (hp2 _ _ ?_)
      show GG _ _ _ _ _ _ _ _ [.int (Int32.ofInt 1)] _ _ _
      refine g_if_ne 8 10 (gd rfl) rfl rfl (fun c5 => ?_) (fun c5 => ?_)
      · skip
        refine g_aload_n 11 (gd rfl) rfl rfl ?_
        refine g_getA (q2 := 34) 14 (gd rfl) rfl rfl rfl rfl ?_
        refine g_iload_n 15 (gd rfl) rfl rfl ?_
        refine g_iaload 16 (gd rfl) rfl (n := 160) rfl (in_ix h2 rfl) (fun z15 e15 => ?_)
        have q15 : z2x5 = z15 := (e2x5).trans e15.symm
        subst q15
        refine g_istore_n 17 (gd rfl) rfl (Nat.le_of_ble_eq_true rfl) ?_
        refine g_aload_n 18 (gd rfl) rfl rfl ?_
        refine g_getA (q2 := 35) 21 (gd rfl) rfl rfl rfl rfl ?_
        refine g_iload_n 22 (gd rfl) rfl rfl ?_
        refine g_iaload 23 (gd rfl) rfl (n := 160) rfl (in_ix h2 rfl) (fun z22 e22 => ?_)
        have q22 : z2x21 = z22 := (e2x21).trans e22.symm
        subst q22
        refine g_istore 25 (gd rfl) rfl (Nat.le_of_ble_eq_true rfl) ?_
        refine g_iconst 0 26 (gd rfl) rfl rfl ?_
        refine g_istore 28 (gd rfl) rfl (Nat.le_of_ble_eq_true rfl) ?_
        exact gg_w (by first | exact Nat.le_of_ble_eq_true rfl | omega) (gg_f (gf_cons rfl (gf_cons rfl (gf_cons rfl (gf_cons rfl (gf_cons rfl (gf_cons rfl gf_nil)))))) (ct28 161 s z2x5 z2x21 (Int32.ofInt 0) hI fr_rf (in_w 0 31 i2x7 rfl) (in_w 0 31 i2x21 rfl) (in_w 0 160 (in_c 0 rfl) rfl) (m_in 161 (in_w 0 160 (in_c 0 rfl) rfl) rfl)))
      · skip
        exact zn_eq c5 (in_c 1 rfl) rfl

def fm_145_56_2 : FM := ([9, 10, 11, 12, 13, 14, 15, 57], [], [(2, 4), (56, 1)], [])
/-- GraphHouse$Parts.makeOrder -/
theorem k_145_56_2 {Z : AmZ} {A : Nat → Nat} {s : GS} {ex : va_W} {d : Nat} {X : AmX}  (hd : 5 ≤ d) (hI : Inv s)  : GC Z d 145 [.ref (A 56), .ref (A 2)] (WW Z A s ++ ex) 0 0 (fun v u => ∃ t : GS, Inv t ∧ Fr fm_145_56_2 s t ∧ v = none ∧ u = WW Z A t ++ ex) X := by
  intro post xp hP hX
  obtain ⟨u_2_1, e_2_1⟩ : ∃ w, w = s.2.2.1 2 1 := ⟨_, rfl⟩
  have ro_2_1 := inv_F hI 0 32 rfl e_2_1
  have ct11 : ∀ (k11 : Nat) (sc11 : GS) (y11_2 : Int32) (y11_3 : Int32), Inv sc11 → Fr fm_145_56_2 s sc11 → (In y11_3 0 32) → 32 - (y11_3).toInt < (k11 : Int) → GG Z (d - 1) 145 post (gx xp) (1 + k11 * 900) 11 (fun j => xlook j [(0, .ref (A 56)), (1, .ref (A 2)), (2, .int y11_2), (3, .int y11_3)]) [] (WW Z A sc11 ++ ex) 0 0 := by
    intro k11
    induction k11 with
    | zero => intro sc11 y11_2 y11_3 hIc11 hFc11 j11_3 mm11; exact m_no mm11 j11_3 rfl
    | succ k11 ih11 =>
      intro sc11 y11_2 y11_3 hIc11 hFc11 j11_3 mm11
      refine gg_w (M := 1 + k11 * 900 + 900) gws ?_
      refine g_iload_n 12 (gd rfl) rfl rfl ?_
      refine g_aload_n 13 (gd rfl) rfl rfl ?_
      refine g_getI 16 (gd rfl) rfl rfl rfl (fun z13 e13 => ?_)
      have q13 : u_2_1 = z13 := (fr_F e_2_1 hFc11 rfl).trans e13.symm
      subst q13
      refine g_cmp_ge 19 61 (gd rfl) rfl rfl (fun c16 => ?_) (fun c16 => ?_)
      · skip
        refine g_aload_n 62 (gd rfl) rfl rfl ?_
        refine g_aload_n 63 (gd rfl) rfl rfl ?_
        refine g_getI 66 (gd rfl) rfl rfl rfl (fun z63 e63 => ?_)
        have q63 : u_2_1 = z63 := (fr_F e_2_1 hFc11 rfl).trans e63.symm
        subst q63
        refine g_putI 69 (gd rfl) rfl rfl rfl rfl ?_
        have hI66 := inv_sF (q := 56) (j := 1) hIc11 rfl (in_w 0 32 ro_2_1 rfl)
        exact g_return (gd rfl) rfl (hP _ _ ⟨(sF sc11 56 1 u_2_1), hI66, (fr_sF rfl hFc11), rfl, rfl⟩)
      · skip
        have i16 := r_lt1 0 31 c16 j11_3 ro_2_1 rfl
        have i16a := r_lt2 1 32 c16 j11_3 ro_2_1 rfl
        refine g_aload_n 20 (gd rfl) rfl rfl ?_
        refine g_iload_n 21 (gd rfl) rfl rfl ?_
        refine g_calls (As := [.ref (A 2), .int y11_2]) (r := []) 24 (gd rfl) rfl rfl rfl rfl rfl (Nat.le_of_ble_eq_true rfl) (Nat.zero_le _) (Nat.zero_le _) (k_146_2 (by first | exact dq1 hd rfl | exact dq0 hd rfl | exact dq2 hd rfl | exact dq3 hd rfl | omega) hIc11 ) (fun v u h => ?_)
        obtain ⟨z21, rfl, rfl, i21⟩ := h
        show GG _ _ _ _ _ _ _ _ [.int z21] _ _ _
        refine g_istore 26 (gd rfl) rfl (Nat.le_of_ble_eq_true rfl) ?_
        refine g_iload 28 (gd rfl) rfl rfl ?_
        refine g_iconst (-1) 29 (gd rfl) rfl rfl ?_
        refine g_cmp_ne 32 38 (gd rfl) rfl rfl (fun c29 => ?_) (fun c29 => ?_)
        · skip
          have i29 := r_ne1 0 31 c29 i21 (in_c (-1) rfl) rfl
          refine g_aload_n 39 (gd rfl) rfl rfl ?_
          refine g_getA (q2 := 57) 42 (gd rfl) rfl rfl rfl rfl ?_
          refine g_iload_n 43 (gd rfl) rfl rfl ?_
          refine g_iload 45 (gd rfl) rfl rfl ?_
          refine g_iastore 46 (gd rfl) rfl (n := 32) rfl (in_ix i16 rfl) ?_
          have hI45 := inv_sI (q := 57) (j := y11_3.toNatClampNeg) hIc11 rfl (in_w 0 31 i29 rfl)
          refine g_iload_n 47 (gd rfl) rfl rfl ?_
          refine g_iconst 1 48 (gd rfl) rfl rfl ?_
          refine g_iload 50 (gd rfl) rfl rfl ?_
          refine g_ishl 51 (gd rfl) rfl (fun z50 e50 => ?_)
          refine g_iconst (-1) 52 (gd rfl) rfl rfl ?_
          refine g_ixor 53 (gd rfl) rfl (fun z52 e52 => ?_)
          refine g_iand 54 (gd rfl) rfl (fun z53 e53 => ?_)
          refine g_istore_n 55 (gd rfl) rfl (Nat.le_of_ble_eq_true rfl) ?_
          refine g_iinc 58 (gd rfl) rfl rfl (Nat.le_of_ble_eq_true rfl) (fun z55 e55 => ?_)
          have i55 := in_add 1 32 e55 i16 (in_c 1 rfl) rfl rfl
          refine g_goto 11 (gd rfl) rfl ?_
          exact gg_w (by first | exact Nat.le_add_right _ _ | exact gw2 | exact gw3 | exact gwe rfl | exact gwf rfl | exact gwg rfl | exact gwh rfl | omega) (gg_f (gf_cons rfl (gf_cons rfl (gf_cons rfl (gf_cons rfl gf_nil)))) (ih11 (sI sc11 57 y11_3.toNatClampNeg z21) z53 z55 hI45 (fr_sI rfl hFc11) (in_w 0 32 i55 rfl) (m_up mm11 (t_add e55 i16 (in_c 1 rfl) rfl) (in_w 1 1 (in_c 1 rfl) rfl))))
        · skip
          have i29 := r_eq1 (-1) (-1) c29 i21 (in_c (-1) rfl) rfl
          refine g_aload_n 33 (gd rfl) rfl rfl ?_
          refine g_iconst 0 34 (gd rfl) rfl rfl ?_
          refine g_putI 37 (gd rfl) rfl rfl rfl rfl ?_
          have hI34 := inv_sF (q := 56) (j := 1) hIc11 rfl (in_w 0 32 (in_c 0 rfl) rfl)
          exact g_return (gd rfl) rfl (hP _ _ ⟨(sF sc11 56 1 (Int32.ofInt 0)), hI34, (fr_sF rfl hFc11), rfl, rfl⟩)
  refine g_enter2 (k := 145) (N := 30601) (by first | exact dq1 hd rfl | exact dq0 hd rfl | exact dq2 hd rfl | exact dq3 hd rfl | omega) rfl (Nat.le_of_ble_eq_true rfl) ?_
  refine g_aload_n 1 (gd rfl) rfl rfl ?_
  refine g_callv (X := _) (As := []) (r := []) (b := A 2) (q := 2) 4 (gd rfl) rfl rfl rfl rfl rfl (ww_o rfl) (Nat.le_of_ble_eq_true rfl) (Nat.zero_le _) (Nat.zero_le _) (k_106_2 (by first | exact dq1 hd rfl | exact dq0 hd rfl | exact dq2 hd rfl | exact dq3 hd rfl | omega) hI ) (fun e u h => h) (fun v u h => ?_)
  obtain ⟨s1, hI1, hF1, n1, rfl, rfl⟩ := h
  obtain ⟨z1a, e1⟩ : ∃ w, w = s1.2.2.1 2 4 := ⟨_, rfl⟩
  have i1a := inv_F hI1 (-1) 4000 rfl e1
  obtain ⟨z1b, e1a⟩ : ∃ w, w = s1.2.2.1 2 0 := ⟨_, rfl⟩
  have i1b := inv_F hI1 0 4000 rfl e1a
  rw [← (show z1a = s1.2.2.1 2 4 from e1)] at n1
  rw [← (show z1b = s1.2.2.1 2 0 from e1a)] at n1
  show GG _ _ _ _ _ _ _ _ [] _ _ _
  refine g_aload_n 5 (gd rfl) rfl rfl ?_
  refine g_callv (X := _) (As := []) (r := []) (b := A 2) (q := 2) 8 (gd rfl) rfl rfl rfl rfl rfl (ww_o rfl) (Nat.le_of_ble_eq_true rfl) (mc := 0) (ms := 0) (Nat.zero_le _) (Nat.zero_le _) (P := fun v u => _) ?_ (fun e u h => h) (fun v u h => h)
  intro po5 xx5 hp5 hx5
  refine g_enter2 (k := 102) (N := 300) (by first | exact dq1 hd rfl | exact dq0 hd rfl | exact dq2 hd rfl | exact dq3 hd rfl | omega) rfl (Nat.le_of_ble_eq_true rfl) ?_
  refine g_aload_n 1 (gd rfl) rfl rfl ?_
  refine g_getI 4 (gd rfl) rfl rfl rfl (fun z5x1 e5x1 => ?_)
  have q5x1 : u_2_1 = z5x1 := (fr_F (e_2_1) hF1 rfl).trans e5x1.symm
  subst q5x1
  refine g_bipush 32 6 (gd rfl) rfl rfl ?_
  refine g_cmp_lt 9 13 (gd rfl) rfl rfl (fun c5x6 => ?_) (fun c5x6 => ?_)
  · skip
    have i5x6 := r_lt1 0 31 c5x6 ro_2_1 (in_c 32 rfl) rfl
    refine g_iconst 1 14 (gd rfl) rfl rfl ?_
    refine g_aload_n 15 (gd rfl) rfl rfl ?_
    refine g_getI 18 (gd rfl) rfl rfl rfl (fun z5x15 e5x15 => ?_)
    have q5x15 : u_2_1 = z5x15 := (fr_F (e_2_1) hF1 rfl).trans e5x15.symm
    subst q5x15
    refine g_ishl 19 (gd rfl) rfl (fun z5x18 e5x18 => ?_)
    refine g_iconst 1 20 (gd rfl) rfl rfl ?_
    refine g_isub 21 (gd rfl) rfl (fun z5x20 e5x20 => ?_)
    refine g_ireturn (gd rfl) rfl rfl (hp5 _ _ ?_)
    show GG _ _ _ _ _ _ _ _ [.int z5x20] _ _ _
    refine g_istore_n 9 (gd rfl) rfl (Nat.le_of_ble_eq_true rfl) ?_
    refine g_iconst 0 10 (gd rfl) rfl rfl ?_
    refine g_istore_n 11 (gd rfl) rfl (Nat.le_of_ble_eq_true rfl) ?_
    exact gg_w (by first | exact Nat.le_of_ble_eq_true rfl | omega) (gg_f (gf_cons rfl (gf_cons rfl (gf_cons rfl (gf_cons rfl gf_nil)))) (ct11 33 s1 z5x20 (Int32.ofInt 0) hI1 (fr_tr rfl fr_rf hF1) (in_w 0 32 (in_c 0 rfl) rfl) (m_in 33 (in_w 0 32 (in_c 0 rfl) rfl) rfl)))
  · skip
    have i5x6 := r_le2 32 32 c5x6 (in_c 32 rfl) ro_2_1 rfl
    refine g_iconst (-1) 10 (gd rfl) rfl rfl ?_
    refine g_goto 21 (gd rfl) rfl ?_
    refine g_ireturn (gd rfl) rfl rfl (hp5 _ _ ?_)
    show GG _ _ _ _ _ _ _ _ [.int (Int32.ofInt (-1))] _ _ _
    refine g_istore_n 9 (gd rfl) rfl (Nat.le_of_ble_eq_true rfl) ?_
    refine g_iconst 0 10 (gd rfl) rfl rfl ?_
    refine g_istore_n 11 (gd rfl) rfl (Nat.le_of_ble_eq_true rfl) ?_
    exact gg_w (by first | exact Nat.le_of_ble_eq_true rfl | omega) (gg_f (gf_cons rfl (gf_cons rfl (gf_cons rfl (gf_cons rfl gf_nil)))) (ct11 33 s1 (Int32.ofInt (-1)) (Int32.ofInt 0) hI1 (fr_tr rfl fr_rf hF1) (in_w 0 32 (in_c 0 rfl) rfl) (m_in 33 (in_w 0 32 (in_c 0 rfl) rfl) rfl)))

def fm_145_56_32 : FM := ([39, 40, 41, 42, 43, 44, 45, 57], [], [(32, 4), (56, 1)], [])
/-- GraphHouse$Parts.makeOrder -/
theorem k_145_56_32 {Z : AmZ} {A : Nat → Nat} {s : GS} {ex : va_W} {d : Nat} {X : AmX}  (hd : 5 ≤ d) (hI : Inv s)  : GC Z d 145 [.ref (A 56), .ref (A 32)] (WW Z A s ++ ex) 0 0 (fun v u => ∃ t : GS, Inv t ∧ Fr fm_145_56_32 s t ∧ v = none ∧ u = WW Z A t ++ ex) X := by
  intro post xp hP hX
  obtain ⟨u_32_1, e_32_1⟩ : ∃ w, w = s.2.2.1 32 1 := ⟨_, rfl⟩
  have ro_32_1 := inv_F hI 0 32 rfl e_32_1
  have ct11 : ∀ (k11 : Nat) (sc11 : GS) (y11_2 : Int32) (y11_3 : Int32), Inv sc11 → Fr fm_145_56_32 s sc11 → (In y11_3 0 32) → 32 - (y11_3).toInt < (k11 : Int) → GG Z (d - 1) 145 post (gx xp) (1 + k11 * 900) 11 (fun j => xlook j [(0, .ref (A 56)), (1, .ref (A 32)), (2, .int y11_2), (3, .int y11_3)]) [] (WW Z A sc11 ++ ex) 0 0 := by
    intro k11
    induction k11 with
    | zero => intro sc11 y11_2 y11_3 hIc11 hFc11 j11_3 mm11; exact m_no mm11 j11_3 rfl
    | succ k11 ih11 =>
      intro sc11 y11_2 y11_3 hIc11 hFc11 j11_3 mm11
      refine gg_w (M := 1 + k11 * 900 + 900) gws ?_
      refine g_iload_n 12 (gd rfl) rfl rfl ?_
      refine g_aload_n 13 (gd rfl) rfl rfl ?_
      refine g_getI 16 (gd rfl) rfl rfl rfl (fun z13 e13 => ?_)
      have q13 : u_32_1 = z13 := (fr_F e_32_1 hFc11 rfl).trans e13.symm
      subst q13
      refine g_cmp_ge 19 61 (gd rfl) rfl rfl (fun c16 => ?_) (fun c16 => ?_)
      · skip
        refine g_aload_n 62 (gd rfl) rfl rfl ?_
        refine g_aload_n 63 (gd rfl) rfl rfl ?_
        refine g_getI 66 (gd rfl) rfl rfl rfl (fun z63 e63 => ?_)
        have q63 : u_32_1 = z63 := (fr_F e_32_1 hFc11 rfl).trans e63.symm
        subst q63
        refine g_putI 69 (gd rfl) rfl rfl rfl rfl ?_
        have hI66 := inv_sF (q := 56) (j := 1) hIc11 rfl (in_w 0 32 ro_32_1 rfl)
        exact g_return (gd rfl) rfl (hP _ _ ⟨(sF sc11 56 1 u_32_1), hI66, (fr_sF rfl hFc11), rfl, rfl⟩)
      · skip
        have i16 := r_lt1 0 31 c16 j11_3 ro_32_1 rfl
        have i16a := r_lt2 1 32 c16 j11_3 ro_32_1 rfl
        refine g_aload_n 20 (gd rfl) rfl rfl ?_
        refine g_iload_n 21 (gd rfl) rfl rfl ?_
        refine g_calls (As := [.ref (A 32), .int y11_2]) (r := []) 24 (gd rfl) rfl rfl rfl rfl rfl (Nat.le_of_ble_eq_true rfl) (Nat.zero_le _) (Nat.zero_le _) (k_146_32 (by first | exact dq1 hd rfl | exact dq0 hd rfl | exact dq2 hd rfl | exact dq3 hd rfl | omega) hIc11 ) (fun v u h => ?_)
        obtain ⟨z21, rfl, rfl, i21⟩ := h
        show GG _ _ _ _ _ _ _ _ [.int z21] _ _ _
        refine g_istore 26 (gd rfl) rfl (Nat.le_of_ble_eq_true rfl) ?_
        refine g_iload 28 (gd rfl) rfl rfl ?_
        refine g_iconst (-1) 29 (gd rfl) rfl rfl ?_
        refine g_cmp_ne 32 38 (gd rfl) rfl rfl (fun c29 => ?_) (fun c29 => ?_)
        · skip
          have i29 := r_ne1 0 31 c29 i21 (in_c (-1) rfl) rfl
          refine g_aload_n 39 (gd rfl) rfl rfl ?_
          refine g_getA (q2 := 57) 42 (gd rfl) rfl rfl rfl rfl ?_
          refine g_iload_n 43 (gd rfl) rfl rfl ?_
          refine g_iload 45 (gd rfl) rfl rfl ?_
          refine g_iastore 46 (gd rfl) rfl (n := 32) rfl (in_ix i16 rfl) ?_
          have hI45 := inv_sI (q := 57) (j := y11_3.toNatClampNeg) hIc11 rfl (in_w 0 31 i29 rfl)
          refine g_iload_n 47 (gd rfl) rfl rfl ?_
          refine g_iconst 1 48 (gd rfl) rfl rfl ?_
          refine g_iload 50 (gd rfl) rfl rfl ?_
          refine g_ishl 51 (gd rfl) rfl (fun z50 e50 => ?_)
          refine g_iconst (-1) 52 (gd rfl) rfl rfl ?_
          refine g_ixor 53 (gd rfl) rfl (fun z52 e52 => ?_)
          refine g_iand 54 (gd rfl) rfl (fun z53 e53 => ?_)
          refine g_istore_n 55 (gd rfl) rfl (Nat.le_of_ble_eq_true rfl) ?_
          refine g_iinc 58 (gd rfl) rfl rfl (Nat.le_of_ble_eq_true rfl) (fun z55 e55 => ?_)
          have i55 := in_add 1 32 e55 i16 (in_c 1 rfl) rfl rfl
          refine g_goto 11 (gd rfl) rfl ?_
          exact gg_w (by first | exact Nat.le_add_right _ _ | exact gw2 | exact gw3 | exact gwe rfl | exact gwf rfl | exact gwg rfl | exact gwh rfl | omega) (gg_f (gf_cons rfl (gf_cons rfl (gf_cons rfl (gf_cons rfl gf_nil)))) (ih11 (sI sc11 57 y11_3.toNatClampNeg z21) z53 z55 hI45 (fr_sI rfl hFc11) (in_w 0 32 i55 rfl) (m_up mm11 (t_add e55 i16 (in_c 1 rfl) rfl) (in_w 1 1 (in_c 1 rfl) rfl))))
        · skip
          have i29 := r_eq1 (-1) (-1) c29 i21 (in_c (-1) rfl) rfl
          refine g_aload_n 33 (gd rfl) rfl rfl ?_
          refine g_iconst 0 34 (gd rfl) rfl rfl ?_
          refine g_putI 37 (gd rfl) rfl rfl rfl rfl ?_
          have hI34 := inv_sF (q := 56) (j := 1) hIc11 rfl (in_w 0 32 (in_c 0 rfl) rfl)
          exact g_return (gd rfl) rfl (hP _ _ ⟨(sF sc11 56 1 (Int32.ofInt 0)), hI34, (fr_sF rfl hFc11), rfl, rfl⟩)
  refine g_enter2 (k := 145) (N := 30601) (by first | exact dq1 hd rfl | exact dq0 hd rfl | exact dq2 hd rfl | exact dq3 hd rfl | omega) rfl (Nat.le_of_ble_eq_true rfl) ?_
  refine g_aload_n 1 (gd rfl) rfl rfl ?_
  refine g_callv (X := _) (As := []) (r := []) (b := A 32) (q := 32) 4 (gd rfl) rfl rfl rfl rfl rfl (ww_o rfl) (Nat.le_of_ble_eq_true rfl) (Nat.zero_le _) (Nat.zero_le _) (k_106_32 (by first | exact dq1 hd rfl | exact dq0 hd rfl | exact dq2 hd rfl | exact dq3 hd rfl | omega) hI ) (fun e u h => h) (fun v u h => ?_)
  obtain ⟨s1, hI1, hF1, n1, rfl, rfl⟩ := h
  obtain ⟨z1a, e1⟩ : ∃ w, w = s1.2.2.1 32 4 := ⟨_, rfl⟩
  have i1a := inv_F hI1 (-1) 4000 rfl e1
  obtain ⟨z1b, e1a⟩ : ∃ w, w = s1.2.2.1 32 0 := ⟨_, rfl⟩
  have i1b := inv_F hI1 0 4000 rfl e1a
  rw [← (show z1a = s1.2.2.1 32 4 from e1)] at n1
  rw [← (show z1b = s1.2.2.1 32 0 from e1a)] at n1
  show GG _ _ _ _ _ _ _ _ [] _ _ _
  refine g_aload_n 5 (gd rfl) rfl rfl ?_
  refine g_callv (X := _) (As := []) (r := []) (b := A 32) (q := 32) 8 (gd rfl) rfl rfl rfl rfl rfl (ww_o rfl) (Nat.le_of_ble_eq_true rfl) (mc := 0) (ms := 0) (Nat.zero_le _) (Nat.zero_le _) (P := fun v u => _) ?_ (fun e u h => h) (fun v u h => h)
  intro po5 xx5 hp5 hx5
  refine g_enter2 (k := 102) (N := 300) (by first | exact dq1 hd rfl | exact dq0 hd rfl | exact dq2 hd rfl | exact dq3 hd rfl | omega) rfl (Nat.le_of_ble_eq_true rfl) ?_
  refine g_aload_n 1 (gd rfl) rfl rfl ?_
  refine g_getI 4 (gd rfl) rfl rfl rfl (fun z5x1 e5x1 => ?_)
  have q5x1 : u_32_1 = z5x1 := (fr_F (e_32_1) hF1 rfl).trans e5x1.symm
  subst q5x1
  refine g_bipush 32 6 (gd rfl) rfl rfl ?_
  refine g_cmp_lt 9 13 (gd rfl) rfl rfl (fun c5x6 => ?_) (fun c5x6 => ?_)
  · skip
    have i5x6 := r_lt1 0 31 c5x6 ro_32_1 (in_c 32 rfl) rfl
    refine g_iconst 1 14 (gd rfl) rfl rfl ?_
    refine g_aload_n 15 (gd rfl) rfl rfl ?_
    refine g_getI 18 (gd rfl) rfl rfl rfl (fun z5x15 e5x15 => ?_)
    have q5x15 : u_32_1 = z5x15 := (fr_F (e_32_1) hF1 rfl).trans e5x15.symm
    subst q5x15
    refine g_ishl 19 (gd rfl) rfl (fun z5x18 e5x18 => ?_)
    refine g_iconst 1 20 (gd rfl) rfl rfl ?_
    refine g_isub 21 (gd rfl) rfl (fun z5x20 e5x20 => ?_)
    refine g_ireturn (gd rfl) rfl rfl (hp5 _ _ ?_)
    show GG _ _ _ _ _ _ _ _ [.int z5x20] _ _ _
    refine g_istore_n 9 (gd rfl) rfl (Nat.le_of_ble_eq_true rfl) ?_
    refine g_iconst 0 10 (gd rfl) rfl rfl ?_
    refine g_istore_n 11 (gd rfl) rfl (Nat.le_of_ble_eq_true rfl) ?_
    exact gg_w (by first | exact Nat.le_of_ble_eq_true rfl | omega) (gg_f (gf_cons rfl (gf_cons rfl (gf_cons rfl (gf_cons rfl gf_nil)))) (ct11 33 s1 z5x20 (Int32.ofInt 0) hI1 (fr_tr rfl fr_rf hF1) (in_w 0 32 (in_c 0 rfl) rfl) (m_in 33 (in_w 0 32 (in_c 0 rfl) rfl) rfl)))
  · skip
    have i5x6 := r_le2 32 32 c5x6 (in_c 32 rfl) ro_32_1 rfl
    refine g_iconst (-1) 10 (gd rfl) rfl rfl ?_
    refine g_goto 21 (gd rfl) rfl ?_
    refine g_ireturn (gd rfl) rfl rfl (hp5 _ _ ?_)
    show GG _ _ _ _ _ _ _ _ [.int (Int32.ofInt (-1))] _ _ _
    refine g_istore_n 9 (gd rfl) rfl (Nat.le_of_ble_eq_true rfl) ?_
    refine g_iconst 0 10 (gd rfl) rfl rfl ?_
    refine g_istore_n 11 (gd rfl) rfl (Nat.le_of_ble_eq_true rfl) ?_
    exact gg_w (by first | exact Nat.le_of_ble_eq_true rfl | omega) (gg_f (gf_cons rfl (gf_cons rfl (gf_cons rfl (gf_cons rfl gf_nil)))) (ct11 33 s1 (Int32.ofInt (-1)) (Int32.ofInt 0) hI1 (fr_tr rfl fr_rf hF1) (in_w 0 32 (in_c 0 rfl) rfl) (m_in 33 (in_w 0 32 (in_c 0 rfl) rfl) rfl)))

def fm_148_56_2 : FM := ([9, 10, 11, 12, 13, 14, 15, 58, 59], [], [(2, 4)], [])
/-- GraphHouse$Parts.peel -/
theorem k_148_56_2 {Z : AmZ} {A : Nat → Nat} {s : GS} {ex : va_W} {d : Nat} {X : AmX}  (hd : 5 ≤ d) (hI : Inv s)  : GC Z d 148 [.ref (A 56), .ref (A 2)] (WW Z A s ++ ex) 0 0 (fun v u => ∃ t : GS, Inv t ∧ Fr fm_148_56_2 s t ∧ v = none ∧ u = WW Z A t ++ ex) X := by
  intro post xp hP hX
  obtain ⟨u_2_1, e_2_1⟩ : ∃ w, w = s.2.2.1 2 1 := ⟨_, rfl⟩
  have ro_2_1 := inv_F hI 0 32 rfl e_2_1
  have ct22 : ∀ (k22 : Nat) (sc22 : GS) (y22_2 : Int32) (y22_3 : Int32) (y22_4 : Int32) (w22_2_4 : Int32) (w22_2_0 : Int32), Inv sc22 → Fr fm_148_56_2 s sc22 → (In y22_3 0 2147483647) → (In y22_4 0 32) → (w22_2_4 = sc22.2.2.1 2 4) → (w22_2_0 = sc22.2.2.1 2 0) → ((w22_2_4).toInt = (w22_2_0).toInt) → ((cb y22_2 : Int) = (u_2_1).toInt - (y22_4).toInt) → 32 - (y22_4).toInt < (k22 : Int) → GG Z (d - 1) 148 post (gx xp) (1 + k22 * 900) 22 (fun j => xlook j [(0, .ref (A 56)), (1, .ref (A 2)), (2, .int y22_2), (3, .int y22_3), (4, .int y22_4)]) [] (WW Z A sc22 ++ ex) 0 0 := by
    intro k22
    induction k22 with
    | zero => intro sc22 y22_2 y22_3 y22_4 w22_2_4 w22_2_0 hIc22 hFc22 j22_3 j22_4 v22_2_4 v22_2_0 n22_0 g22_0 mm22; exact m_no mm22 j22_4 rfl
    | succ k22 ih22 =>
      intro sc22 y22_2 y22_3 y22_4 w22_2_4 w22_2_0 hIc22 hFc22 j22_3 j22_4 v22_2_4 v22_2_0 n22_0 g22_0 mm22
      refine gg_w (M := 1 + k22 * 900 + 900) gws ?_
      refine g_iload 24 (gd rfl) rfl rfl ?_
      refine g_aload_n 25 (gd rfl) rfl rfl ?_
      refine g_getI 28 (gd rfl) rfl rfl rfl (fun z25 e25 => ?_)
      have q25 : u_2_1 = z25 := (fr_F e_2_1 hFc22 rfl).trans e25.symm
      subst q25
      refine g_cmp_ge 31 80 (gd rfl) rfl rfl (fun c28 => ?_) (fun c28 => ?_)
      · skip
        exact g_return (gd rfl) rfl (hP _ _ ⟨sc22, hIc22, hFc22, rfl, rfl⟩)
      · skip
        have i28 := r_lt1 0 31 c28 j22_4 ro_2_1 rfl
        have i28a := r_lt2 1 32 c28 j22_4 ro_2_1 rfl
        refine g_aload_n 32 (gd rfl) rfl rfl ?_
        refine g_iload_n 33 (gd rfl) rfl rfl ?_
        have nz33 : (y22_2).toInt ≠ 0 := by exact cb_nz (by (first | have a0 := oa5 i28a ((inv_F hIc22 0 4000 rfl v22_2_0)) ((inv_F hIc22 (-1) 4000 rfl v22_2_4)) i28 j22_3 | ((first | have a0 := in_u i28a | (have a0 := i28a; unfold In at a0)); (first | have a1 := in_u ((inv_F hIc22 0 4000 rfl v22_2_0)) | (have a1 := (inv_F hIc22 0 4000 rfl v22_2_0); unfold In at a1)); (first | have a2 := in_u ((inv_F hIc22 (-1) 4000 rfl v22_2_4)) | (have a2 := (inv_F hIc22 (-1) 4000 rfl v22_2_4); unfold In at a2)); (first | have a3 := in_u i28 | (have a3 := i28; unfold In at a3)); (first | have a4 := in_u j22_3 | (have a4 := j22_3; unfold In at a4)))); omega)
        refine g_callv (X := _) (As := [.int y22_2]) (r := []) (b := A 56) (q := 56) 36 (gd rfl) rfl rfl rfl rfl rfl (ww_o rfl) (Nat.le_of_ble_eq_true rfl) (Nat.zero_le _) (Nat.zero_le _) (k_149_56 (by first | exact dq1 hd rfl | exact dq0 hd rfl | exact dq2 hd rfl | exact dq3 hd rfl | omega) hIc22 nz33) (fun e u h => h) (fun v u h => ?_)
        obtain ⟨z33, rfl, rfl, i33, p33⟩ := h
        show GG _ _ _ _ _ _ _ _ [.int z33] _ _ _
        refine g_istore 38 (gd rfl) rfl (Nat.le_of_ble_eq_true rfl) ?_
        refine g_iload_n 39 (gd rfl) rfl rfl ?_
        refine g_aload_n 40 (gd rfl) rfl rfl ?_
        refine g_getA (q2 := 59) 43 (gd rfl) rfl rfl rfl rfl ?_
        refine g_iload 45 (gd rfl) rfl rfl ?_
        refine g_iaload 46 (gd rfl) rfl (n := 32) rfl (in_ix i33 rfl) (fun z45 e45 => ?_)
        refine g_calls (As := [.int y22_3, .int z45]) (r := []) 49 (gd rfl) rfl rfl rfl rfl rfl (Nat.le_of_ble_eq_true rfl) (mc := 0) (ms := 0) (Nat.zero_le _) (Nat.zero_le _) (P := fun v u => _) ?_ (fun v u h => h)
        intro po46 xx46 hp46 hx46
        refine g_enter2 (k := 422) (N := 300) (by first | exact dq1 hd rfl | exact dq0 hd rfl | exact dq2 hd rfl | exact dq3 hd rfl | omega) rfl (Nat.le_of_ble_eq_true rfl) ?_
        refine g_iload_n 1 (gd rfl) rfl rfl ?_
        refine g_iload_n 2 (gd rfl) rfl rfl ?_
        refine g_cmp_lt 5 9 (gd rfl) rfl rfl (fun c46x2 => ?_) (fun c46x2 => ?_)
        · skip
          have i46x2 := r_lt1 0 2147483646 c46x2 j22_3 (i_rng z45) rfl
          have i46x2a := r_lt2 1 2147483647 c46x2 j22_3 (i_rng z45) rfl
          refine g_iload_n 10 (gd rfl) rfl rfl ?_
          refine g_ireturn (gd rfl) rfl rfl (hp46 _ _ ?_)
          show GG _ _ _ _ _ _ _ _ [.int z45] _ _ _
          refine g_istore_n 50 (gd rfl) rfl (Nat.le_of_ble_eq_true rfl) ?_
          refine g_aload_n 51 (gd rfl) rfl rfl ?_
          refine g_getA (q2 := 58) 54 (gd rfl) rfl rfl rfl rfl ?_
          refine g_iload 56 (gd rfl) rfl rfl ?_
          refine g_iload_n 57 (gd rfl) rfl rfl ?_
          refine g_iastore 58 (gd rfl) rfl (n := 32) rfl (in_ix i33 rfl) ?_
          have hI57 := inv_sI (q := 58) (j := z33.toNatClampNeg) hIc22 rfl (in_w (-2147483648) 2147483647 i46x2a rfl)
          refine g_iload_n 59 (gd rfl) rfl rfl ?_
          refine g_iconst 1 60 (gd rfl) rfl rfl ?_
          refine g_iload 62 (gd rfl) rfl rfl ?_
          refine g_ishl 63 (gd rfl) rfl (fun z62 e62 => ?_)
          refine g_iconst (-1) 64 (gd rfl) rfl rfl ?_
          refine g_ixor 65 (gd rfl) rfl (fun z64 e64 => ?_)
          refine g_iand 66 (gd rfl) rfl (fun z65 e65 => ?_)
          have hcb := cb_clr e62 e64 e65 i33 p33
          refine g_istore_n 67 (gd rfl) rfl (Nat.le_of_ble_eq_true rfl) ?_
          refine g_aload_n 68 (gd rfl) rfl rfl ?_
          refine g_aload_n 69 (gd rfl) rfl rfl ?_
          refine g_iload 71 (gd rfl) rfl rfl ?_
          have v71 : w22_2_4 = (sI sc22 58 z33.toNatClampNeg z45).2.2.1 2 4 := sI_F (v22_2_4)
          have v71a : w22_2_0 = (sI sc22 58 z33.toNatClampNeg z45).2.2.1 2 0 := sI_F (v22_2_0)
          have n71 : (w22_2_4).toInt = (w22_2_0).toInt := by first | exact n22_0 | ((first | have a0 := oa6 i28a ((inv_F hIc22 0 4000 rfl v22_2_0)) ((inv_F hIc22 (-1) 4000 rfl v22_2_4)) i28 i33 i46x2a | ((first | have a0 := in_u i28a | (have a0 := i28a; unfold In at a0)); (first | have a1 := in_u ((inv_F hIc22 0 4000 rfl v22_2_0)) | (have a1 := (inv_F hIc22 0 4000 rfl v22_2_0); unfold In at a1)); (first | have a2 := in_u ((inv_F hIc22 (-1) 4000 rfl v22_2_4)) | (have a2 := (inv_F hIc22 (-1) 4000 rfl v22_2_4); unfold In at a2)); (first | have a3 := in_u i28 | (have a3 := i28; unfold In at a3)); (first | have a4 := in_u i33 | (have a4 := i33; unfold In at a4)); (first | have a5 := in_u i46x2a | (have a5 := i46x2a; unfold In at a5)))); omega)
          refine g_callv (X := _) (As := [.ref (A 2), .int z33]) (r := []) (b := A 56) (q := 56) 74 (gd rfl) rfl rfl rfl rfl rfl (ww_o rfl) (Nat.le_of_ble_eq_true rfl) (Nat.zero_le _) (Nat.zero_le _) (k_150_56_2 (by first | exact dq1 hd rfl | exact dq0 hd rfl | exact dq2 hd rfl | exact dq3 hd rfl | omega) hI57 (in_w 0 31 i33 rfl) v71 v71a n71) (fun e u h => h) (fun v u h => ?_)
          obtain ⟨s71, hI71, hF71, rfl, rfl⟩ := h
          show GG _ _ _ _ _ _ _ _ [] _ _ _
          refine g_iinc 77 (gd rfl) rfl rfl (Nat.le_of_ble_eq_true rfl) (fun z74 e74 => ?_)
          have i74 := in_add 1 32 e74 i28 (in_c 1 rfl) rfl rfl
          refine g_goto 22 (gd rfl) rfl ?_
          have v22 : w22_2_4 = s71.2.2.1 2 4 := fr_F (s := (sI sc22 58 z33.toNatClampNeg z45)) (sI_F (v22_2_4)) hF71 rfl
          have v22a : w22_2_0 = s71.2.2.1 2 0 := fr_F (s := (sI sc22 58 z33.toNatClampNeg z45)) (sI_F (v22_2_0)) hF71 rfl
          have n22 : (w22_2_4).toInt = (w22_2_0).toInt := by first | exact n22_0 | ((first | have a0 := oa6 i28a ((inv_F hIc22 0 4000 rfl v22_2_0)) ((inv_F hIc22 (-1) 4000 rfl v22_2_4)) i28 i33 i74 | ((first | have a0 := in_u i28a | (have a0 := i28a; unfold In at a0)); (first | have a1 := in_u ((inv_F hIc22 0 4000 rfl v22_2_0)) | (have a1 := (inv_F hIc22 0 4000 rfl v22_2_0); unfold In at a1)); (first | have a2 := in_u ((inv_F hIc22 (-1) 4000 rfl v22_2_4)) | (have a2 := (inv_F hIc22 (-1) 4000 rfl v22_2_4); unfold In at a2)); (first | have a3 := in_u i28 | (have a3 := i28; unfold In at a3)); (first | have a4 := in_u i33 | (have a4 := i33; unfold In at a4)); (first | have a5 := in_u i74 | (have a5 := i74; unfold In at a5)))); have a6 := t_add e74 i28 (in_c 1 rfl) rfl; (first | have a7 := oa2 ((in_c 1 rfl)) i46x2a | ((first | have a7 := in_u ((in_c 1 rfl)) | (have a7 := (in_c 1 rfl); unfold In at a7)); (first | have a8 := in_u i46x2a | (have a8 := i46x2a; unfold In at a8)))); omega)
          have n22a : (cb z65 : Int) = (u_2_1).toInt - (z74).toInt := by first | (have hcb := cb_m1; (first | have a0 := oa6 i28a ((inv_F hIc22 0 4000 rfl v22_2_0)) ((inv_F hIc22 (-1) 4000 rfl v22_2_4)) i28 i33 i74 | ((first | have a0 := in_u i28a | (have a0 := i28a; unfold In at a0)); (first | have a1 := in_u ((inv_F hIc22 0 4000 rfl v22_2_0)) | (have a1 := (inv_F hIc22 0 4000 rfl v22_2_0); unfold In at a1)); (first | have a2 := in_u ((inv_F hIc22 (-1) 4000 rfl v22_2_4)) | (have a2 := (inv_F hIc22 (-1) 4000 rfl v22_2_4); unfold In at a2)); (first | have a3 := in_u i28 | (have a3 := i28; unfold In at a3)); (first | have a4 := in_u i33 | (have a4 := i33; unfold In at a4)); (first | have a5 := in_u i74 | (have a5 := i74; unfold In at a5)))); have a6 := t_add e74 i28 (in_c 1 rfl) rfl; (first | have a7 := oa2 ((in_c 1 rfl)) i46x2a | ((first | have a7 := in_u ((in_c 1 rfl)) | (have a7 := (in_c 1 rfl); unfold In at a7)); (first | have a8 := in_u i46x2a | (have a8 := i46x2a; unfold In at a8)))); omega) | (have hcb := cb_all e5x18 e5x20 ‹_›; (first | have a0 := oa6 i28a ((inv_F hIc22 0 4000 rfl v22_2_0)) ((inv_F hIc22 (-1) 4000 rfl v22_2_4)) i28 i33 i74 | ((first | have a0 := in_u i28a | (have a0 := i28a; unfold In at a0)); (first | have a1 := in_u ((inv_F hIc22 0 4000 rfl v22_2_0)) | (have a1 := (inv_F hIc22 0 4000 rfl v22_2_0); unfold In at a1)); (first | have a2 := in_u ((inv_F hIc22 (-1) 4000 rfl v22_2_4)) | (have a2 := (inv_F hIc22 (-1) 4000 rfl v22_2_4); unfold In at a2)); (first | have a3 := in_u i28 | (have a3 := i28; unfold In at a3)); (first | have a4 := in_u i33 | (have a4 := i33; unfold In at a4)); (first | have a5 := in_u i74 | (have a5 := i74; unfold In at a5)))); have a6 := t_add e74 i28 (in_c 1 rfl) rfl; (first | have a7 := oa2 ((in_c 1 rfl)) i46x2a | ((first | have a7 := in_u ((in_c 1 rfl)) | (have a7 := (in_c 1 rfl); unfold In at a7)); (first | have a8 := in_u i46x2a | (have a8 := i46x2a; unfold In at a8)))); omega) | ((first | have a0 := oa6 i28a ((inv_F hIc22 0 4000 rfl v22_2_0)) ((inv_F hIc22 (-1) 4000 rfl v22_2_4)) i28 i33 i74 | ((first | have a0 := in_u i28a | (have a0 := i28a; unfold In at a0)); (first | have a1 := in_u ((inv_F hIc22 0 4000 rfl v22_2_0)) | (have a1 := (inv_F hIc22 0 4000 rfl v22_2_0); unfold In at a1)); (first | have a2 := in_u ((inv_F hIc22 (-1) 4000 rfl v22_2_4)) | (have a2 := (inv_F hIc22 (-1) 4000 rfl v22_2_4); unfold In at a2)); (first | have a3 := in_u i28 | (have a3 := i28; unfold In at a3)); (first | have a4 := in_u i33 | (have a4 := i33; unfold In at a4)); (first | have a5 := in_u i74 | (have a5 := i74; unfold In at a5)))); have a6 := t_add e74 i28 (in_c 1 rfl) rfl; (first | have a7 := oa2 ((in_c 1 rfl)) i46x2a | ((first | have a7 := in_u ((in_c 1 rfl)) | (have a7 := (in_c 1 rfl); unfold In at a7)); (first | have a8 := in_u i46x2a | (have a8 := i46x2a; unfold In at a8)))); omega)
          exact gg_w (by first | exact Nat.le_add_right _ _ | exact gw2 | exact gw3 | exact gwe rfl | exact gwf rfl | exact gwg rfl | exact gwh rfl | omega) (gg_f (gf_cons rfl (gf_cons rfl (gf_cons rfl (gf_cons rfl (gf_cons rfl gf_nil))))) (ih22 s71 z65 z45 z74 w22_2_4 w22_2_0 hI71 (fr_tr rfl (fr_sI rfl hFc22) hF71) (in_w 0 2147483647 i46x2a rfl) (in_w 0 32 i74 rfl) v22 v22a n22 n22a (m_up mm22 (t_add e74 i28 (in_c 1 rfl) rfl) (in_w 1 1 (in_c 1 rfl) rfl))))
        · skip
          refine g_iload_n 6 (gd rfl) rfl rfl ?_
          refine g_goto 10 (gd rfl) rfl ?_
          refine g_ireturn (gd rfl) rfl rfl (hp46 _ _ ?_)
          show GG _ _ _ _ _ _ _ _ [.int y22_3] _ _ _
          refine g_istore_n 50 (gd rfl) rfl (Nat.le_of_ble_eq_true rfl) ?_
          refine g_aload_n 51 (gd rfl) rfl rfl ?_
          refine g_getA (q2 := 58) 54 (gd rfl) rfl rfl rfl rfl ?_
          refine g_iload 56 (gd rfl) rfl rfl ?_
          refine g_iload_n 57 (gd rfl) rfl rfl ?_
          refine g_iastore 58 (gd rfl) rfl (n := 32) rfl (in_ix i33 rfl) ?_
          have hI57 := inv_sI (q := 58) (j := z33.toNatClampNeg) hIc22 rfl (in_w (-2147483648) 2147483647 j22_3 rfl)
          refine g_iload_n 59 (gd rfl) rfl rfl ?_
          refine g_iconst 1 60 (gd rfl) rfl rfl ?_
          refine g_iload 62 (gd rfl) rfl rfl ?_
          refine g_ishl 63 (gd rfl) rfl (fun z62 e62 => ?_)
          refine g_iconst (-1) 64 (gd rfl) rfl rfl ?_
          refine g_ixor 65 (gd rfl) rfl (fun z64 e64 => ?_)
          refine g_iand 66 (gd rfl) rfl (fun z65 e65 => ?_)
          have hcb := cb_clr e62 e64 e65 i33 p33
          refine g_istore_n 67 (gd rfl) rfl (Nat.le_of_ble_eq_true rfl) ?_
          refine g_aload_n 68 (gd rfl) rfl rfl ?_
          refine g_aload_n 69 (gd rfl) rfl rfl ?_
          refine g_iload 71 (gd rfl) rfl rfl ?_
          have v71 : w22_2_4 = (sI sc22 58 z33.toNatClampNeg y22_3).2.2.1 2 4 := sI_F (v22_2_4)
          have v71a : w22_2_0 = (sI sc22 58 z33.toNatClampNeg y22_3).2.2.1 2 0 := sI_F (v22_2_0)
          have n71 : (w22_2_4).toInt = (w22_2_0).toInt := by first | exact n22_0 | ((first | have a0 := oa6 i28a ((inv_F hIc22 0 4000 rfl v22_2_0)) ((inv_F hIc22 (-1) 4000 rfl v22_2_4)) i28 i33 j22_3 | ((first | have a0 := in_u i28a | (have a0 := i28a; unfold In at a0)); (first | have a1 := in_u ((inv_F hIc22 0 4000 rfl v22_2_0)) | (have a1 := (inv_F hIc22 0 4000 rfl v22_2_0); unfold In at a1)); (first | have a2 := in_u ((inv_F hIc22 (-1) 4000 rfl v22_2_4)) | (have a2 := (inv_F hIc22 (-1) 4000 rfl v22_2_4); unfold In at a2)); (first | have a3 := in_u i28 | (have a3 := i28; unfold In at a3)); (first | have a4 := in_u i33 | (have a4 := i33; unfold In at a4)); (first | have a5 := in_u j22_3 | (have a5 := j22_3; unfold In at a5)))); omega)
          refine g_callv (X := _) (As := [.ref (A 2), .int z33]) (r := []) (b := A 56) (q := 56) 74 (gd rfl) rfl rfl rfl rfl rfl (ww_o rfl) (Nat.le_of_ble_eq_true rfl) (Nat.zero_le _) (Nat.zero_le _) (k_150_56_2 (by first | exact dq1 hd rfl | exact dq0 hd rfl | exact dq2 hd rfl | exact dq3 hd rfl | omega) hI57 (in_w 0 31 i33 rfl) v71 v71a n71) (fun e u h => h) (fun v u h => ?_)
          obtain ⟨s71, hI71, hF71, rfl, rfl⟩ := h
          show GG _ _ _ _ _ _ _ _ [] _ _ _
          refine g_iinc 77 (gd rfl) rfl rfl (Nat.le_of_ble_eq_true rfl) (fun z74 e74 => ?_)
          have i74 := in_add 1 32 e74 i28 (in_c 1 rfl) rfl rfl
          refine g_goto 22 (gd rfl) rfl ?_
          have v22 : w22_2_4 = s71.2.2.1 2 4 := fr_F (s := (sI sc22 58 z33.toNatClampNeg y22_3)) (sI_F (v22_2_4)) hF71 rfl
          have v22a : w22_2_0 = s71.2.2.1 2 0 := fr_F (s := (sI sc22 58 z33.toNatClampNeg y22_3)) (sI_F (v22_2_0)) hF71 rfl
          have n22 : (w22_2_4).toInt = (w22_2_0).toInt := by first | exact n22_0 | ((first | have a0 := oa6 i28a ((inv_F hIc22 0 4000 rfl v22_2_0)) ((inv_F hIc22 (-1) 4000 rfl v22_2_4)) i28 i33 i74 | ((first | have a0 := in_u i28a | (have a0 := i28a; unfold In at a0)); (first | have a1 := in_u ((inv_F hIc22 0 4000 rfl v22_2_0)) | (have a1 := (inv_F hIc22 0 4000 rfl v22_2_0); unfold In at a1)); (first | have a2 := in_u ((inv_F hIc22 (-1) 4000 rfl v22_2_4)) | (have a2 := (inv_F hIc22 (-1) 4000 rfl v22_2_4); unfold In at a2)); (first | have a3 := in_u i28 | (have a3 := i28; unfold In at a3)); (first | have a4 := in_u i33 | (have a4 := i33; unfold In at a4)); (first | have a5 := in_u i74 | (have a5 := i74; unfold In at a5)))); have a6 := t_add e74 i28 (in_c 1 rfl) rfl; (first | have a7 := oa2 ((in_c 1 rfl)) j22_3 | ((first | have a7 := in_u ((in_c 1 rfl)) | (have a7 := (in_c 1 rfl); unfold In at a7)); (first | have a8 := in_u j22_3 | (have a8 := j22_3; unfold In at a8)))); omega)
          have n22a : (cb z65 : Int) = (u_2_1).toInt - (z74).toInt := by first | (have hcb := cb_m1; (first | have a0 := oa6 i28a ((inv_F hIc22 0 4000 rfl v22_2_0)) ((inv_F hIc22 (-1) 4000 rfl v22_2_4)) i28 i33 i74 | ((first | have a0 := in_u i28a | (have a0 := i28a; unfold In at a0)); (first | have a1 := in_u ((inv_F hIc22 0 4000 rfl v22_2_0)) | (have a1 := (inv_F hIc22 0 4000 rfl v22_2_0); unfold In at a1)); (first | have a2 := in_u ((inv_F hIc22 (-1) 4000 rfl v22_2_4)) | (have a2 := (inv_F hIc22 (-1) 4000 rfl v22_2_4); unfold In at a2)); (first | have a3 := in_u i28 | (have a3 := i28; unfold In at a3)); (first | have a4 := in_u i33 | (have a4 := i33; unfold In at a4)); (first | have a5 := in_u i74 | (have a5 := i74; unfold In at a5)))); have a6 := t_add e74 i28 (in_c 1 rfl) rfl; (first | have a7 := oa2 ((in_c 1 rfl)) j22_3 | ((first | have a7 := in_u ((in_c 1 rfl)) | (have a7 := (in_c 1 rfl); unfold In at a7)); (first | have a8 := in_u j22_3 | (have a8 := j22_3; unfold In at a8)))); omega) | (have hcb := cb_all e5x18 e5x20 ‹_›; (first | have a0 := oa6 i28a ((inv_F hIc22 0 4000 rfl v22_2_0)) ((inv_F hIc22 (-1) 4000 rfl v22_2_4)) i28 i33 i74 | ((first | have a0 := in_u i28a | (have a0 := i28a; unfold In at a0)); (first | have a1 := in_u ((inv_F hIc22 0 4000 rfl v22_2_0)) | (have a1 := (inv_F hIc22 0 4000 rfl v22_2_0); unfold In at a1)); (first | have a2 := in_u ((inv_F hIc22 (-1) 4000 rfl v22_2_4)) | (have a2 := (inv_F hIc22 (-1) 4000 rfl v22_2_4); unfold In at a2)); (first | have a3 := in_u i28 | (have a3 := i28; unfold In at a3)); (first | have a4 := in_u i33 | (have a4 := i33; unfold In at a4)); (first | have a5 := in_u i74 | (have a5 := i74; unfold In at a5)))); have a6 := t_add e74 i28 (in_c 1 rfl) rfl; (first | have a7 := oa2 ((in_c 1 rfl)) j22_3 | ((first | have a7 := in_u ((in_c 1 rfl)) | (have a7 := (in_c 1 rfl); unfold In at a7)); (first | have a8 := in_u j22_3 | (have a8 := j22_3; unfold In at a8)))); omega) | ((first | have a0 := oa6 i28a ((inv_F hIc22 0 4000 rfl v22_2_0)) ((inv_F hIc22 (-1) 4000 rfl v22_2_4)) i28 i33 i74 | ((first | have a0 := in_u i28a | (have a0 := i28a; unfold In at a0)); (first | have a1 := in_u ((inv_F hIc22 0 4000 rfl v22_2_0)) | (have a1 := (inv_F hIc22 0 4000 rfl v22_2_0); unfold In at a1)); (first | have a2 := in_u ((inv_F hIc22 (-1) 4000 rfl v22_2_4)) | (have a2 := (inv_F hIc22 (-1) 4000 rfl v22_2_4); unfold In at a2)); (first | have a3 := in_u i28 | (have a3 := i28; unfold In at a3)); (first | have a4 := in_u i33 | (have a4 := i33; unfold In at a4)); (first | have a5 := in_u i74 | (have a5 := i74; unfold In at a5)))); have a6 := t_add e74 i28 (in_c 1 rfl) rfl; (first | have a7 := oa2 ((in_c 1 rfl)) j22_3 | ((first | have a7 := in_u ((in_c 1 rfl)) | (have a7 := (in_c 1 rfl); unfold In at a7)); (first | have a8 := in_u j22_3 | (have a8 := j22_3; unfold In at a8)))); omega)
          exact gg_w (by first | exact Nat.le_add_right _ _ | exact gw2 | exact gw3 | exact gwe rfl | exact gwf rfl | exact gwg rfl | exact gwh rfl | omega) (gg_f (gf_cons rfl (gf_cons rfl (gf_cons rfl (gf_cons rfl (gf_cons rfl gf_nil))))) (ih22 s71 z65 y22_3 z74 w22_2_4 w22_2_0 hI71 (fr_tr rfl (fr_sI rfl hFc22) hF71) (in_w 0 2147483647 j22_3 rfl) (in_w 0 32 i74 rfl) v22 v22a n22 n22a (m_up mm22 (t_add e74 i28 (in_c 1 rfl) rfl) (in_w 1 1 (in_c 1 rfl) rfl))))
  refine g_enter2 (k := 148) (N := 30601) (by first | exact dq1 hd rfl | exact dq0 hd rfl | exact dq2 hd rfl | exact dq3 hd rfl | omega) rfl (Nat.le_of_ble_eq_true rfl) ?_
  refine g_aload_n 1 (gd rfl) rfl rfl ?_
  refine g_callv (X := _) (As := []) (r := []) (b := A 2) (q := 2) 4 (gd rfl) rfl rfl rfl rfl rfl (ww_o rfl) (Nat.le_of_ble_eq_true rfl) (Nat.zero_le _) (Nat.zero_le _) (k_106_2 (by first | exact dq1 hd rfl | exact dq0 hd rfl | exact dq2 hd rfl | exact dq3 hd rfl | omega) hI ) (fun e u h => h) (fun v u h => ?_)
  obtain ⟨s1, hI1, hF1, n1, rfl, rfl⟩ := h
  obtain ⟨z1a, e1⟩ : ∃ w, w = s1.2.2.1 2 4 := ⟨_, rfl⟩
  have i1a := inv_F hI1 (-1) 4000 rfl e1
  obtain ⟨z1b, e1a⟩ : ∃ w, w = s1.2.2.1 2 0 := ⟨_, rfl⟩
  have i1b := inv_F hI1 0 4000 rfl e1a
  rw [← (show z1a = s1.2.2.1 2 4 from e1)] at n1
  rw [← (show z1b = s1.2.2.1 2 0 from e1a)] at n1
  show GG _ _ _ _ _ _ _ _ [] _ _ _
  refine g_aload_n 5 (gd rfl) rfl rfl ?_
  refine g_callv (X := _) (As := []) (r := []) (b := A 2) (q := 2) 8 (gd rfl) rfl rfl rfl rfl rfl (ww_o rfl) (Nat.le_of_ble_eq_true rfl) (mc := 0) (ms := 0) (Nat.zero_le _) (Nat.zero_le _) (P := fun v u => _) ?_ (fun e u h => h) (fun v u h => h)
  intro po5 xx5 hp5 hx5
  refine g_enter2 (k := 102) (N := 300) (by first | exact dq1 hd rfl | exact dq0 hd rfl | exact dq2 hd rfl | exact dq3 hd rfl | omega) rfl (Nat.le_of_ble_eq_true rfl) ?_
  refine g_aload_n 1 (gd rfl) rfl rfl ?_
  refine g_getI 4 (gd rfl) rfl rfl rfl (fun z5x1 e5x1 => ?_)
  have q5x1 : u_2_1 = z5x1 := (fr_F (e_2_1) hF1 rfl).trans e5x1.symm
  subst q5x1
  refine g_bipush 32 6 (gd rfl) rfl rfl ?_
  refine g_cmp_lt 9 13 (gd rfl) rfl rfl (fun c5x6 => ?_) (fun c5x6 => ?_)
  · skip
    have i5x6 := r_lt1 0 31 c5x6 ro_2_1 (in_c 32 rfl) rfl
    refine g_iconst 1 14 (gd rfl) rfl rfl ?_
    refine g_aload_n 15 (gd rfl) rfl rfl ?_
    refine g_getI 18 (gd rfl) rfl rfl rfl (fun z5x15 e5x15 => ?_)
    have q5x15 : u_2_1 = z5x15 := (fr_F (e_2_1) hF1 rfl).trans e5x15.symm
    subst q5x15
    refine g_ishl 19 (gd rfl) rfl (fun z5x18 e5x18 => ?_)
    refine g_iconst 1 20 (gd rfl) rfl rfl ?_
    refine g_isub 21 (gd rfl) rfl (fun z5x20 e5x20 => ?_)
    refine g_ireturn (gd rfl) rfl rfl (hp5 _ _ ?_)
    show GG _ _ _ _ _ _ _ _ [.int z5x20] _ _ _
    refine g_istore_n 9 (gd rfl) rfl (Nat.le_of_ble_eq_true rfl) ?_
    refine g_iconst 0 10 (gd rfl) rfl rfl ?_
    refine g_istore_n 11 (gd rfl) rfl (Nat.le_of_ble_eq_true rfl) ?_
    refine g_aload_n 12 (gd rfl) rfl rfl ?_
    refine g_aload_n 13 (gd rfl) rfl rfl ?_
    refine g_getA (q2 := 59) 16 (gd rfl) rfl rfl rfl rfl ?_
    refine g_callv (X := _) (As := [.ref (A 59)]) (r := []) (b := A 2) (q := 2) 19 (gd rfl) rfl rfl rfl rfl rfl (ww_o rfl) (Nat.le_of_ble_eq_true rfl) (Nat.zero_le _) (Nat.zero_le _) (k_99_2_59 (by first | exact dq1 hd rfl | exact dq0 hd rfl | exact dq2 hd rfl | exact dq3 hd rfl | omega) hI1 ) (fun e u h => h) (fun v u h => ?_)
    obtain ⟨s16, hI16, hF16, rfl, rfl⟩ := h
    show GG _ _ _ _ _ _ _ _ [] _ _ _
    refine g_iconst 0 20 (gd rfl) rfl rfl ?_
    refine g_istore 22 (gd rfl) rfl (Nat.le_of_ble_eq_true rfl) ?_
    have v22 : z1a = s16.2.2.1 2 4 := fr_F (e1) hF16 rfl
    have v22a : z1b = s16.2.2.1 2 0 := fr_F (e1a) hF16 rfl
    have n22 : (z1a).toInt = (z1b).toInt := by (first | have a0 := oa4 i5x6 ((in_c 0 rfl)) i1b i1a | ((first | have a0 := in_u i5x6 | (have a0 := i5x6; unfold In at a0)); (first | have a1 := in_u ((in_c 0 rfl)) | (have a1 := (in_c 0 rfl); unfold In at a1)); (first | have a2 := in_u i1b | (have a2 := i1b; unfold In at a2)); (first | have a3 := in_u i1a | (have a3 := i1a; unfold In at a3)))); omega
    have n22a : (cb z5x20 : Int) = (u_2_1).toInt - ((Int32.ofInt 0)).toInt := by first | (have hcb := cb_m1; (first | have a0 := oa4 i5x6 ((in_c 0 rfl)) i1b i1a | ((first | have a0 := in_u i5x6 | (have a0 := i5x6; unfold In at a0)); (first | have a1 := in_u ((in_c 0 rfl)) | (have a1 := (in_c 0 rfl); unfold In at a1)); (first | have a2 := in_u i1b | (have a2 := i1b; unfold In at a2)); (first | have a3 := in_u i1a | (have a3 := i1a; unfold In at a3)))); omega) | (have hcb := cb_all e5x18 e5x20 ‹_›; (first | have a0 := oa4 i5x6 ((in_c 0 rfl)) i1b i1a | ((first | have a0 := in_u i5x6 | (have a0 := i5x6; unfold In at a0)); (first | have a1 := in_u ((in_c 0 rfl)) | (have a1 := (in_c 0 rfl); unfold In at a1)); (first | have a2 := in_u i1b | (have a2 := i1b; unfold In at a2)); (first | have a3 := in_u i1a | (have a3 := i1a; unfold In at a3)))); omega) | ((first | have a0 := oa4 i5x6 ((in_c 0 rfl)) i1b i1a | ((first | have a0 := in_u i5x6 | (have a0 := i5x6; unfold In at a0)); (first | have a1 := in_u ((in_c 0 rfl)) | (have a1 := (in_c 0 rfl); unfold In at a1)); (first | have a2 := in_u i1b | (have a2 := i1b; unfold In at a2)); (first | have a3 := in_u i1a | (have a3 := i1a; unfold In at a3)))); omega)
    exact gg_w (by first | exact Nat.le_of_ble_eq_true rfl | omega) (gg_f (gf_cons rfl (gf_cons rfl (gf_cons rfl (gf_cons rfl (gf_cons rfl gf_nil))))) (ct22 33 s16 z5x20 (Int32.ofInt 0) (Int32.ofInt 0) z1a z1b hI16 (fr_tr rfl (fr_tr rfl fr_rf hF1) hF16) (in_w 0 2147483647 (in_c 0 rfl) rfl) (in_w 0 32 (in_c 0 rfl) rfl) v22 v22a n22 n22a (m_in 33 (in_w 0 32 (in_c 0 rfl) rfl) rfl)))
  · skip
    have i5x6 := r_le2 32 32 c5x6 (in_c 32 rfl) ro_2_1 rfl
    refine g_iconst (-1) 10 (gd rfl) rfl rfl ?_
    refine g_goto 21 (gd rfl) rfl ?_
    refine g_ireturn (gd rfl) rfl rfl (hp5 _ _ ?_)
    show GG _ _ _ _ _ _ _ _ [.int (Int32.ofInt (-1))] _ _ _
    refine g_istore_n 9 (gd rfl) rfl (Nat.le_of_ble_eq_true rfl) ?_
    refine g_iconst 0 10 (gd rfl) rfl rfl ?_
    refine g_istore_n 11 (gd rfl) rfl (Nat.le_of_ble_eq_true rfl) ?_
    refine g_aload_n 12 (gd rfl) rfl rfl ?_
    refine g_aload_n 13 (gd rfl) rfl rfl ?_
    refine g_getA (q2 := 59) 16 (gd rfl) rfl rfl rfl rfl ?_
    refine g_callv (X := _) (As := [.ref (A 59)]) (r := []) (b := A 2) (q := 2) 19 (gd rfl) rfl rfl rfl rfl rfl (ww_o rfl) (Nat.le_of_ble_eq_true rfl) (Nat.zero_le _) (Nat.zero_le _) (k_99_2_59 (by first | exact dq1 hd rfl | exact dq0 hd rfl | exact dq2 hd rfl | exact dq3 hd rfl | omega) hI1 ) (fun e u h => h) (fun v u h => ?_)
    obtain ⟨s16, hI16, hF16, rfl, rfl⟩ := h
    show GG _ _ _ _ _ _ _ _ [] _ _ _
    refine g_iconst 0 20 (gd rfl) rfl rfl ?_
    refine g_istore 22 (gd rfl) rfl (Nat.le_of_ble_eq_true rfl) ?_
    have v22 : z1a = s16.2.2.1 2 4 := fr_F (e1) hF16 rfl
    have v22a : z1b = s16.2.2.1 2 0 := fr_F (e1a) hF16 rfl
    have n22 : (z1a).toInt = (z1b).toInt := by (first | have a0 := oa5 i5x6 ((in_c 0 rfl)) ((in_c (-1) rfl)) i1b i1a | ((first | have a0 := in_u i5x6 | (have a0 := i5x6; unfold In at a0)); (first | have a1 := in_u ((in_c 0 rfl)) | (have a1 := (in_c 0 rfl); unfold In at a1)); (first | have a2 := in_u ((in_c (-1) rfl)) | (have a2 := (in_c (-1) rfl); unfold In at a2)); (first | have a3 := in_u i1b | (have a3 := i1b; unfold In at a3)); (first | have a4 := in_u i1a | (have a4 := i1a; unfold In at a4)))); omega
    have n22a : (cb (Int32.ofInt (-1)) : Int) = (u_2_1).toInt - ((Int32.ofInt 0)).toInt := by first | (have hcb := cb_m1; (first | have a0 := oa5 i5x6 ((in_c 0 rfl)) ((in_c (-1) rfl)) i1b i1a | ((first | have a0 := in_u i5x6 | (have a0 := i5x6; unfold In at a0)); (first | have a1 := in_u ((in_c 0 rfl)) | (have a1 := (in_c 0 rfl); unfold In at a1)); (first | have a2 := in_u ((in_c (-1) rfl)) | (have a2 := (in_c (-1) rfl); unfold In at a2)); (first | have a3 := in_u i1b | (have a3 := i1b; unfold In at a3)); (first | have a4 := in_u i1a | (have a4 := i1a; unfold In at a4)))); omega) | (have hcb := cb_all e5x18 e5x20 ‹_›; (first | have a0 := oa5 i5x6 ((in_c 0 rfl)) ((in_c (-1) rfl)) i1b i1a | ((first | have a0 := in_u i5x6 | (have a0 := i5x6; unfold In at a0)); (first | have a1 := in_u ((in_c 0 rfl)) | (have a1 := (in_c 0 rfl); unfold In at a1)); (first | have a2 := in_u ((in_c (-1) rfl)) | (have a2 := (in_c (-1) rfl); unfold In at a2)); (first | have a3 := in_u i1b | (have a3 := i1b; unfold In at a3)); (first | have a4 := in_u i1a | (have a4 := i1a; unfold In at a4)))); omega) | ((first | have a0 := oa5 i5x6 ((in_c 0 rfl)) ((in_c (-1) rfl)) i1b i1a | ((first | have a0 := in_u i5x6 | (have a0 := i5x6; unfold In at a0)); (first | have a1 := in_u ((in_c 0 rfl)) | (have a1 := (in_c 0 rfl); unfold In at a1)); (first | have a2 := in_u ((in_c (-1) rfl)) | (have a2 := (in_c (-1) rfl); unfold In at a2)); (first | have a3 := in_u i1b | (have a3 := i1b; unfold In at a3)); (first | have a4 := in_u i1a | (have a4 := i1a; unfold In at a4)))); omega)
    exact gg_w (by first | exact Nat.le_of_ble_eq_true rfl | omega) (gg_f (gf_cons rfl (gf_cons rfl (gf_cons rfl (gf_cons rfl (gf_cons rfl gf_nil))))) (ct22 33 s16 (Int32.ofInt (-1)) (Int32.ofInt 0) (Int32.ofInt 0) z1a z1b hI16 (fr_tr rfl (fr_tr rfl fr_rf hF1) hF16) (in_w 0 2147483647 (in_c 0 rfl) rfl) (in_w 0 32 (in_c 0 rfl) rfl) v22 v22a n22 n22a (m_in 33 (in_w 0 32 (in_c 0 rfl) rfl) rfl)))

def fm_148_56_32 : FM := ([39, 40, 41, 42, 43, 44, 45, 58, 59], [], [(32, 4)], [])
/-- GraphHouse$Parts.peel -/
theorem k_148_56_32 {Z : AmZ} {A : Nat → Nat} {s : GS} {ex : va_W} {d : Nat} {X : AmX}  (hd : 5 ≤ d) (hI : Inv s)  : GC Z d 148 [.ref (A 56), .ref (A 32)] (WW Z A s ++ ex) 0 0 (fun v u => ∃ t : GS, Inv t ∧ Fr fm_148_56_32 s t ∧ v = none ∧ u = WW Z A t ++ ex) X := by
  intro post xp hP hX
  obtain ⟨u_32_1, e_32_1⟩ : ∃ w, w = s.2.2.1 32 1 := ⟨_, rfl⟩
  have ro_32_1 := inv_F hI 0 32 rfl e_32_1
  have ct22 : ∀ (k22 : Nat) (sc22 : GS) (y22_2 : Int32) (y22_3 : Int32) (y22_4 : Int32) (w22_32_4 : Int32) (w22_32_0 : Int32), Inv sc22 → Fr fm_148_56_32 s sc22 → (In y22_3 0 2147483647) → (In y22_4 0 32) → (w22_32_4 = sc22.2.2.1 32 4) → (w22_32_0 = sc22.2.2.1 32 0) → ((w22_32_4).toInt = (w22_32_0).toInt) → ((cb y22_2 : Int) = (u_32_1).toInt - (y22_4).toInt) → 32 - (y22_4).toInt < (k22 : Int) → GG Z (d - 1) 148 post (gx xp) (1 + k22 * 900) 22 (fun j => xlook j [(0, .ref (A 56)), (1, .ref (A 32)), (2, .int y22_2), (3, .int y22_3), (4, .int y22_4)]) [] (WW Z A sc22 ++ ex) 0 0 := by
    intro k22
    induction k22 with
    | zero => intro sc22 y22_2 y22_3 y22_4 w22_32_4 w22_32_0 hIc22 hFc22 j22_3 j22_4 v22_32_4 v22_32_0 n22_0 g22_0 mm22; exact m_no mm22 j22_4 rfl
    | succ k22 ih22 =>
      intro sc22 y22_2 y22_3 y22_4 w22_32_4 w22_32_0 hIc22 hFc22 j22_3 j22_4 v22_32_4 v22_32_0 n22_0 g22_0 mm22
      refine gg_w (M := 1 + k22 * 900 + 900) gws ?_
      refine g_iload 24 (gd rfl) rfl rfl ?_
      refine g_aload_n 25 (gd rfl) rfl rfl ?_
      refine g_getI 28 (gd rfl) rfl rfl rfl (fun z25 e25 => ?_)
      have q25 : u_32_1 = z25 := (fr_F e_32_1 hFc22 rfl).trans e25.symm
      subst q25
      refine g_cmp_ge 31 80 (gd rfl) rfl rfl (fun c28 => ?_) (fun c28 => ?_)
      · skip
        exact g_return (gd rfl) rfl (hP _ _ ⟨sc22, hIc22, hFc22, rfl, rfl⟩)
      · skip
        have i28 := r_lt1 0 31 c28 j22_4 ro_32_1 rfl
        have i28a := r_lt2 1 32 c28 j22_4 ro_32_1 rfl
        refine g_aload_n 32 (gd rfl) rfl rfl ?_
        refine g_iload_n 33 (gd rfl) rfl rfl ?_
        have nz33 : (y22_2).toInt ≠ 0 := by exact cb_nz (by (first | have a0 := oa5 i28a ((inv_F hIc22 0 4000 rfl v22_32_0)) ((inv_F hIc22 (-1) 4000 rfl v22_32_4)) i28 j22_3 | ((first | have a0 := in_u i28a | (have a0 := i28a; unfold In at a0)); (first | have a1 := in_u ((inv_F hIc22 0 4000 rfl v22_32_0)) | (have a1 := (inv_F hIc22 0 4000 rfl v22_32_0); unfold In at a1)); (first | have a2 := in_u ((inv_F hIc22 (-1) 4000 rfl v22_32_4)) | (have a2 := (inv_F hIc22 (-1) 4000 rfl v22_32_4); unfold In at a2)); (first | have a3 := in_u i28 | (have a3 := i28; unfold In at a3)); (first | have a4 := in_u j22_3 | (have a4 := j22_3; unfold In at a4)))); omega)
        refine g_callv (X := _) (As := [.int y22_2]) (r := []) (b := A 56) (q := 56) 36 (gd rfl) rfl rfl rfl rfl rfl (ww_o rfl) (Nat.le_of_ble_eq_true rfl) (Nat.zero_le _) (Nat.zero_le _) (k_149_56 (by first | exact dq1 hd rfl | exact dq0 hd rfl | exact dq2 hd rfl | exact dq3 hd rfl | omega) hIc22 nz33) (fun e u h => h) (fun v u h => ?_)
        obtain ⟨z33, rfl, rfl, i33, p33⟩ := h
        show GG _ _ _ _ _ _ _ _ [.int z33] _ _ _
        refine g_istore 38 (gd rfl) rfl (Nat.le_of_ble_eq_true rfl) ?_
        refine g_iload_n 39 (gd rfl) rfl rfl ?_
        refine g_aload_n 40 (gd rfl) rfl rfl ?_
        refine g_getA (q2 := 59) 43 (gd rfl) rfl rfl rfl rfl ?_
        refine g_iload 45 (gd rfl) rfl rfl ?_
        refine g_iaload 46 (gd rfl) rfl (n := 32) rfl (in_ix i33 rfl) (fun z45 e45 => ?_)
        refine g_calls (As := [.int y22_3, .int z45]) (r := []) 49 (gd rfl) rfl rfl rfl rfl rfl (Nat.le_of_ble_eq_true rfl) (mc := 0) (ms := 0) (Nat.zero_le _) (Nat.zero_le _) (P := fun v u => _) ?_ (fun v u h => h)
        intro po46 xx46 hp46 hx46
        refine g_enter2 (k := 422) (N := 300) (by first | exact dq1 hd rfl | exact dq0 hd rfl | exact dq2 hd rfl | exact dq3 hd rfl | omega) rfl (Nat.le_of_ble_eq_true rfl) ?_
        refine g_iload_n 1 (gd rfl) rfl rfl ?_
        refine g_iload_n 2 (gd rfl) rfl rfl ?_
        refine g_cmp_lt 5 9 (gd rfl) rfl rfl (fun c46x2 => ?_) (fun c46x2 => ?_)
        · skip
          have i46x2 := r_lt1 0 2147483646 c46x2 j22_3 (i_rng z45) rfl
          have i46x2a := r_lt2 1 2147483647 c46x2 j22_3 (i_rng z45) rfl
          refine g_iload_n 10 (gd rfl) rfl rfl ?_
          refine g_ireturn (gd rfl) rfl rfl (hp46 _ _ ?_)
          show GG _ _ _ _ _ _ _ _ [.int z45] _ _ _
          refine g_istore_n 50 (gd rfl) rfl (Nat.le_of_ble_eq_true rfl) ?_
          refine g_aload_n 51 (gd rfl) rfl rfl ?_
          refine g_getA (q2 := 58) 54 (gd rfl) rfl rfl rfl rfl ?_
          refine g_iload 56 (gd rfl) rfl rfl ?_
          refine g_iload_n 57 (gd rfl) rfl rfl ?_
          refine g_iastore 58 (gd rfl) rfl (n := 32) rfl (in_ix i33 rfl) ?_
          have hI57 := inv_sI (q := 58) (j := z33.toNatClampNeg) hIc22 rfl (in_w (-2147483648) 2147483647 i46x2a rfl)
          refine g_iload_n 59 (gd rfl) rfl rfl ?_
          refine g_iconst 1 60 (gd rfl) rfl rfl ?_
          refine g_iload 62 (gd rfl) rfl rfl ?_
          refine g_ishl 63 (gd rfl) rfl (fun z62 e62 => ?_)
          refine g_iconst (-1) 64 (gd rfl) rfl rfl ?_
          refine g_ixor 65 (gd rfl) rfl (fun z64 e64 => ?_)
          refine g_iand 66 (gd rfl) rfl (fun z65 e65 => ?_)
          have hcb := cb_clr e62 e64 e65 i33 p33
          refine g_istore_n 67 (gd rfl) rfl (Nat.le_of_ble_eq_true rfl) ?_
          refine g_aload_n 68 (gd rfl) rfl rfl ?_
          refine g_aload_n 69 (gd rfl) rfl rfl ?_
          refine g_iload 71 (gd rfl) rfl rfl ?_
          have v71 : w22_32_4 = (sI sc22 58 z33.toNatClampNeg z45).2.2.1 32 4 := sI_F (v22_32_4)
          have v71a : w22_32_0 = (sI sc22 58 z33.toNatClampNeg z45).2.2.1 32 0 := sI_F (v22_32_0)
          have n71 : (w22_32_4).toInt = (w22_32_0).toInt := by first | exact n22_0 | ((first | have a0 := oa6 i28a ((inv_F hIc22 0 4000 rfl v22_32_0)) ((inv_F hIc22 (-1) 4000 rfl v22_32_4)) i28 i33 i46x2a | ((first | have a0 := in_u i28a | (have a0 := i28a; unfold In at a0)); (first | have a1 := in_u ((inv_F hIc22 0 4000 rfl v22_32_0)) | (have a1 := (inv_F hIc22 0 4000 rfl v22_32_0); unfold In at a1)); (first | have a2 := in_u ((inv_F hIc22 (-1) 4000 rfl v22_32_4)) | (have a2 := (inv_F hIc22 (-1) 4000 rfl v22_32_4); unfold In at a2)); (first | have a3 := in_u i28 | (have a3 := i28; unfold In at a3)); (first | have a4 := in_u i33 | (have a4 := i33; unfold In at a4)); (first | have a5 := in_u i46x2a | (have a5 := i46x2a; unfold In at a5)))); omega)
          refine g_callv (X := _) (As := [.ref (A 32), .int z33]) (r := []) (b := A 56) (q := 56) 74 (gd rfl) rfl rfl rfl rfl rfl (ww_o rfl) (Nat.le_of_ble_eq_true rfl) (Nat.zero_le _) (Nat.zero_le _) (k_150_56_32 (by first | exact dq1 hd rfl | exact dq0 hd rfl | exact dq2 hd rfl | exact dq3 hd rfl | omega) hI57 (in_w 0 31 i33 rfl) v71 v71a n71) (fun e u h => h) (fun v u h => ?_)
          obtain ⟨s71, hI71, hF71, rfl, rfl⟩ := h
          show GG _ _ _ _ _ _ _ _ [] _ _ _
          refine g_iinc 77 (gd rfl) rfl rfl (Nat.le_of_ble_eq_true rfl) (fun z74 e74 => ?_)
          have i74 := in_add 1 32 e74 i28 (in_c 1 rfl) rfl rfl
          refine g_goto 22 (gd rfl) rfl ?_
          have v22 : w22_32_4 = s71.2.2.1 32 4 := fr_F (s := (sI sc22 58 z33.toNatClampNeg z45)) (sI_F (v22_32_4)) hF71 rfl
          have v22a : w22_32_0 = s71.2.2.1 32 0 := fr_F (s := (sI sc22 58 z33.toNatClampNeg z45)) (sI_F (v22_32_0)) hF71 rfl
          have n22 : (w22_32_4).toInt = (w22_32_0).toInt := by first | exact n22_0 | ((first | have a0 := oa6 i28a ((inv_F hIc22 0 4000 rfl v22_32_0)) ((inv_F hIc22 (-1) 4000 rfl v22_32_4)) i28 i33 i74 | ((first | have a0 := in_u i28a | (have a0 := i28a; unfold In at a0)); (first | have a1 := in_u ((inv_F hIc22 0 4000 rfl v22_32_0)) | (have a1 := (inv_F hIc22 0 4000 rfl v22_32_0); unfold In at a1)); (first | have a2 := in_u ((inv_F hIc22 (-1) 4000 rfl v22_32_4)) | (have a2 := (inv_F hIc22 (-1) 4000 rfl v22_32_4); unfold In at a2)); (first | have a3 := in_u i28 | (have a3 := i28; unfold In at a3)); (first | have a4 := in_u i33 | (have a4 := i33; unfold In at a4)); (first | have a5 := in_u i74 | (have a5 := i74; unfold In at a5)))); have a6 := t_add e74 i28 (in_c 1 rfl) rfl; (first | have a7 := oa2 ((in_c 1 rfl)) i46x2a | ((first | have a7 := in_u ((in_c 1 rfl)) | (have a7 := (in_c 1 rfl); unfold In at a7)); (first | have a8 := in_u i46x2a | (have a8 := i46x2a; unfold In at a8)))); omega)
          have n22a : (cb z65 : Int) = (u_32_1).toInt - (z74).toInt := by first | (have hcb := cb_m1; (first | have a0 := oa6 i28a ((inv_F hIc22 0 4000 rfl v22_32_0)) ((inv_F hIc22 (-1) 4000 rfl v22_32_4)) i28 i33 i74 | ((first | have a0 := in_u i28a | (have a0 := i28a; unfold In at a0)); (first | have a1 := in_u ((inv_F hIc22 0 4000 rfl v22_32_0)) | (have a1 := (inv_F hIc22 0 4000 rfl v22_32_0); unfold In at a1)); (first | have a2 := in_u ((inv_F hIc22 (-1) 4000 rfl v22_32_4)) | (have a2 := (inv_F hIc22 (-1) 4000 rfl v22_32_4); unfold In at a2)); (first | have a3 := in_u i28 | (have a3 := i28; unfold In at a3)); (first | have a4 := in_u i33 | (have a4 := i33; unfold In at a4)); (first | have a5 := in_u i74 | (have a5 := i74; unfold In at a5)))); have a6 := t_add e74 i28 (in_c 1 rfl) rfl; (first | have a7 := oa2 ((in_c 1 rfl)) i46x2a | ((first | have a7 := in_u ((in_c 1 rfl)) | (have a7 := (in_c 1 rfl); unfold In at a7)); (first | have a8 := in_u i46x2a | (have a8 := i46x2a; unfold In at a8)))); omega) | (have hcb := cb_all e5x18 e5x20 ‹_›; (first | have a0 := oa6 i28a ((inv_F hIc22 0 4000 rfl v22_32_0)) ((inv_F hIc22 (-1) 4000 rfl v22_32_4)) i28 i33 i74 | ((first | have a0 := in_u i28a | (have a0 := i28a; unfold In at a0)); (first | have a1 := in_u ((inv_F hIc22 0 4000 rfl v22_32_0)) | (have a1 := (inv_F hIc22 0 4000 rfl v22_32_0); unfold In at a1)); (first | have a2 := in_u ((inv_F hIc22 (-1) 4000 rfl v22_32_4)) | (have a2 := (inv_F hIc22 (-1) 4000 rfl v22_32_4); unfold In at a2)); (first | have a3 := in_u i28 | (have a3 := i28; unfold In at a3)); (first | have a4 := in_u i33 | (have a4 := i33; unfold In at a4)); (first | have a5 := in_u i74 | (have a5 := i74; unfold In at a5)))); have a6 := t_add e74 i28 (in_c 1 rfl) rfl; (first | have a7 := oa2 ((in_c 1 rfl)) i46x2a | ((first | have a7 := in_u ((in_c 1 rfl)) | (have a7 := (in_c 1 rfl); unfold In at a7)); (first | have a8 := in_u i46x2a | (have a8 := i46x2a; unfold In at a8)))); omega) | ((first | have a0 := oa6 i28a ((inv_F hIc22 0 4000 rfl v22_32_0)) ((inv_F hIc22 (-1) 4000 rfl v22_32_4)) i28 i33 i74 | ((first | have a0 := in_u i28a | (have a0 := i28a; unfold In at a0)); (first | have a1 := in_u ((inv_F hIc22 0 4000 rfl v22_32_0)) | (have a1 := (inv_F hIc22 0 4000 rfl v22_32_0); unfold In at a1)); (first | have a2 := in_u ((inv_F hIc22 (-1) 4000 rfl v22_32_4)) | (have a2 := (inv_F hIc22 (-1) 4000 rfl v22_32_4); unfold In at a2)); (first | have a3 := in_u i28 | (have a3 := i28; unfold In at a3)); (first | have a4 := in_u i33 | (have a4 := i33; unfold In at a4)); (first | have a5 := in_u i74 | (have a5 := i74; unfold In at a5)))); have a6 := t_add e74 i28 (in_c 1 rfl) rfl; (first | have a7 := oa2 ((in_c 1 rfl)) i46x2a | ((first | have a7 := in_u ((in_c 1 rfl)) | (have a7 := (in_c 1 rfl); unfold In at a7)); (first | have a8 := in_u i46x2a | (have a8 := i46x2a; unfold In at a8)))); omega)
          exact gg_w (by first | exact Nat.le_add_right _ _ | exact gw2 | exact gw3 | exact gwe rfl | exact gwf rfl | exact gwg rfl | exact gwh rfl | omega) (gg_f (gf_cons rfl (gf_cons rfl (gf_cons rfl (gf_cons rfl (gf_cons rfl gf_nil))))) (ih22 s71 z65 z45 z74 w22_32_4 w22_32_0 hI71 (fr_tr rfl (fr_sI rfl hFc22) hF71) (in_w 0 2147483647 i46x2a rfl) (in_w 0 32 i74 rfl) v22 v22a n22 n22a (m_up mm22 (t_add e74 i28 (in_c 1 rfl) rfl) (in_w 1 1 (in_c 1 rfl) rfl))))
        · skip
          refine g_iload_n 6 (gd rfl) rfl rfl ?_
          refine g_goto 10 (gd rfl) rfl ?_
          refine g_ireturn (gd rfl) rfl rfl (hp46 _ _ ?_)
          show GG _ _ _ _ _ _ _ _ [.int y22_3] _ _ _
          refine g_istore_n 50 (gd rfl) rfl (Nat.le_of_ble_eq_true rfl) ?_
          refine g_aload_n 51 (gd rfl) rfl rfl ?_
          refine g_getA (q2 := 58) 54 (gd rfl) rfl rfl rfl rfl ?_
          refine g_iload 56 (gd rfl) rfl rfl ?_
          refine g_iload_n 57 (gd rfl) rfl rfl ?_
          refine g_iastore 58 (gd rfl) rfl (n := 32) rfl (in_ix i33 rfl) ?_
          have hI57 := inv_sI (q := 58) (j := z33.toNatClampNeg) hIc22 rfl (in_w (-2147483648) 2147483647 j22_3 rfl)
          refine g_iload_n 59 (gd rfl) rfl rfl ?_
          refine g_iconst 1 60 (gd rfl) rfl rfl ?_
          refine g_iload 62 (gd rfl) rfl rfl ?_
          refine g_ishl 63 (gd rfl) rfl (fun z62 e62 => ?_)
          refine g_iconst (-1) 64 (gd rfl) rfl rfl ?_
          refine g_ixor 65 (gd rfl) rfl (fun z64 e64 => ?_)
          refine g_iand 66 (gd rfl) rfl (fun z65 e65 => ?_)
          have hcb := cb_clr e62 e64 e65 i33 p33
          refine g_istore_n 67 (gd rfl) rfl (Nat.le_of_ble_eq_true rfl) ?_
          refine g_aload_n 68 (gd rfl) rfl rfl ?_
          refine g_aload_n 69 (gd rfl) rfl rfl ?_
          refine g_iload 71 (gd rfl) rfl rfl ?_
          have v71 : w22_32_4 = (sI sc22 58 z33.toNatClampNeg y22_3).2.2.1 32 4 := sI_F (v22_32_4)
          have v71a : w22_32_0 = (sI sc22 58 z33.toNatClampNeg y22_3).2.2.1 32 0 := sI_F (v22_32_0)
          have n71 : (w22_32_4).toInt = (w22_32_0).toInt := by first | exact n22_0 | ((first | have a0 := oa6 i28a ((inv_F hIc22 0 4000 rfl v22_32_0)) ((inv_F hIc22 (-1) 4000 rfl v22_32_4)) i28 i33 j22_3 | ((first | have a0 := in_u i28a | (have a0 := i28a; unfold In at a0)); (first | have a1 := in_u ((inv_F hIc22 0 4000 rfl v22_32_0)) | (have a1 := (inv_F hIc22 0 4000 rfl v22_32_0); unfold In at a1)); (first | have a2 := in_u ((inv_F hIc22 (-1) 4000 rfl v22_32_4)) | (have a2 := (inv_F hIc22 (-1) 4000 rfl v22_32_4); unfold In at a2)); (first | have a3 := in_u i28 | (have a3 := i28; unfold In at a3)); (first | have a4 := in_u i33 | (have a4 := i33; unfold In at a4)); (first | have a5 := in_u j22_3 | (have a5 := j22_3; unfold In at a5)))); omega)
          refine g_callv (X := _) (As := [.ref (A 32), .int z33]) (r := []) (b := A 56) (q := 56) 74 (gd rfl) rfl rfl rfl rfl rfl (ww_o rfl) (Nat.le_of_ble_eq_true rfl) (Nat.zero_le _) (Nat.zero_le _) (k_150_56_32 (by first | exact dq1 hd rfl | exact dq0 hd rfl | exact dq2 hd rfl | exact dq3 hd rfl | omega) hI57 (in_w 0 31 i33 rfl) v71 v71a n71) (fun e u h => h) (fun v u h => ?_)
          obtain ⟨s71, hI71, hF71, rfl, rfl⟩ := h
          show GG _ _ _ _ _ _ _ _ [] _ _ _
          refine g_iinc 77 (gd rfl) rfl rfl (Nat.le_of_ble_eq_true rfl) (fun z74 e74 => ?_)
          have i74 := in_add 1 32 e74 i28 (in_c 1 rfl) rfl rfl
          refine g_goto 22 (gd rfl) rfl ?_
          have v22 : w22_32_4 = s71.2.2.1 32 4 := fr_F (s := (sI sc22 58 z33.toNatClampNeg y22_3)) (sI_F (v22_32_4)) hF71 rfl
          have v22a : w22_32_0 = s71.2.2.1 32 0 := fr_F (s := (sI sc22 58 z33.toNatClampNeg y22_3)) (sI_F (v22_32_0)) hF71 rfl
          have n22 : (w22_32_4).toInt = (w22_32_0).toInt := by first | exact n22_0 | ((first | have a0 := oa6 i28a ((inv_F hIc22 0 4000 rfl v22_32_0)) ((inv_F hIc22 (-1) 4000 rfl v22_32_4)) i28 i33 i74 | ((first | have a0 := in_u i28a | (have a0 := i28a; unfold In at a0)); (first | have a1 := in_u ((inv_F hIc22 0 4000 rfl v22_32_0)) | (have a1 := (inv_F hIc22 0 4000 rfl v22_32_0); unfold In at a1)); (first | have a2 := in_u ((inv_F hIc22 (-1) 4000 rfl v22_32_4)) | (have a2 := (inv_F hIc22 (-1) 4000 rfl v22_32_4); unfold In at a2)); (first | have a3 := in_u i28 | (have a3 := i28; unfold In at a3)); (first | have a4 := in_u i33 | (have a4 := i33; unfold In at a4)); (first | have a5 := in_u i74 | (have a5 := i74; unfold In at a5)))); have a6 := t_add e74 i28 (in_c 1 rfl) rfl; (first | have a7 := oa2 ((in_c 1 rfl)) j22_3 | ((first | have a7 := in_u ((in_c 1 rfl)) | (have a7 := (in_c 1 rfl); unfold In at a7)); (first | have a8 := in_u j22_3 | (have a8 := j22_3; unfold In at a8)))); omega)
          have n22a : (cb z65 : Int) = (u_32_1).toInt - (z74).toInt := by first | (have hcb := cb_m1; (first | have a0 := oa6 i28a ((inv_F hIc22 0 4000 rfl v22_32_0)) ((inv_F hIc22 (-1) 4000 rfl v22_32_4)) i28 i33 i74 | ((first | have a0 := in_u i28a | (have a0 := i28a; unfold In at a0)); (first | have a1 := in_u ((inv_F hIc22 0 4000 rfl v22_32_0)) | (have a1 := (inv_F hIc22 0 4000 rfl v22_32_0); unfold In at a1)); (first | have a2 := in_u ((inv_F hIc22 (-1) 4000 rfl v22_32_4)) | (have a2 := (inv_F hIc22 (-1) 4000 rfl v22_32_4); unfold In at a2)); (first | have a3 := in_u i28 | (have a3 := i28; unfold In at a3)); (first | have a4 := in_u i33 | (have a4 := i33; unfold In at a4)); (first | have a5 := in_u i74 | (have a5 := i74; unfold In at a5)))); have a6 := t_add e74 i28 (in_c 1 rfl) rfl; (first | have a7 := oa2 ((in_c 1 rfl)) j22_3 | ((first | have a7 := in_u ((in_c 1 rfl)) | (have a7 := (in_c 1 rfl); unfold In at a7)); (first | have a8 := in_u j22_3 | (have a8 := j22_3; unfold In at a8)))); omega) | (have hcb := cb_all e5x18 e5x20 ‹_›; (first | have a0 := oa6 i28a ((inv_F hIc22 0 4000 rfl v22_32_0)) ((inv_F hIc22 (-1) 4000 rfl v22_32_4)) i28 i33 i74 | ((first | have a0 := in_u i28a | (have a0 := i28a; unfold In at a0)); (first | have a1 := in_u ((inv_F hIc22 0 4000 rfl v22_32_0)) | (have a1 := (inv_F hIc22 0 4000 rfl v22_32_0); unfold In at a1)); (first | have a2 := in_u ((inv_F hIc22 (-1) 4000 rfl v22_32_4)) | (have a2 := (inv_F hIc22 (-1) 4000 rfl v22_32_4); unfold In at a2)); (first | have a3 := in_u i28 | (have a3 := i28; unfold In at a3)); (first | have a4 := in_u i33 | (have a4 := i33; unfold In at a4)); (first | have a5 := in_u i74 | (have a5 := i74; unfold In at a5)))); have a6 := t_add e74 i28 (in_c 1 rfl) rfl; (first | have a7 := oa2 ((in_c 1 rfl)) j22_3 | ((first | have a7 := in_u ((in_c 1 rfl)) | (have a7 := (in_c 1 rfl); unfold In at a7)); (first | have a8 := in_u j22_3 | (have a8 := j22_3; unfold In at a8)))); omega) | ((first | have a0 := oa6 i28a ((inv_F hIc22 0 4000 rfl v22_32_0)) ((inv_F hIc22 (-1) 4000 rfl v22_32_4)) i28 i33 i74 | ((first | have a0 := in_u i28a | (have a0 := i28a; unfold In at a0)); (first | have a1 := in_u ((inv_F hIc22 0 4000 rfl v22_32_0)) | (have a1 := (inv_F hIc22 0 4000 rfl v22_32_0); unfold In at a1)); (first | have a2 := in_u ((inv_F hIc22 (-1) 4000 rfl v22_32_4)) | (have a2 := (inv_F hIc22 (-1) 4000 rfl v22_32_4); unfold In at a2)); (first | have a3 := in_u i28 | (have a3 := i28; unfold In at a3)); (first | have a4 := in_u i33 | (have a4 := i33; unfold In at a4)); (first | have a5 := in_u i74 | (have a5 := i74; unfold In at a5)))); have a6 := t_add e74 i28 (in_c 1 rfl) rfl; (first | have a7 := oa2 ((in_c 1 rfl)) j22_3 | ((first | have a7 := in_u ((in_c 1 rfl)) | (have a7 := (in_c 1 rfl); unfold In at a7)); (first | have a8 := in_u j22_3 | (have a8 := j22_3; unfold In at a8)))); omega)
          exact gg_w (by first | exact Nat.le_add_right _ _ | exact gw2 | exact gw3 | exact gwe rfl | exact gwf rfl | exact gwg rfl | exact gwh rfl | omega) (gg_f (gf_cons rfl (gf_cons rfl (gf_cons rfl (gf_cons rfl (gf_cons rfl gf_nil))))) (ih22 s71 z65 y22_3 z74 w22_32_4 w22_32_0 hI71 (fr_tr rfl (fr_sI rfl hFc22) hF71) (in_w 0 2147483647 j22_3 rfl) (in_w 0 32 i74 rfl) v22 v22a n22 n22a (m_up mm22 (t_add e74 i28 (in_c 1 rfl) rfl) (in_w 1 1 (in_c 1 rfl) rfl))))
  refine g_enter2 (k := 148) (N := 30601) (by first | exact dq1 hd rfl | exact dq0 hd rfl | exact dq2 hd rfl | exact dq3 hd rfl | omega) rfl (Nat.le_of_ble_eq_true rfl) ?_
  refine g_aload_n 1 (gd rfl) rfl rfl ?_
  refine g_callv (X := _) (As := []) (r := []) (b := A 32) (q := 32) 4 (gd rfl) rfl rfl rfl rfl rfl (ww_o rfl) (Nat.le_of_ble_eq_true rfl) (Nat.zero_le _) (Nat.zero_le _) (k_106_32 (by first | exact dq1 hd rfl | exact dq0 hd rfl | exact dq2 hd rfl | exact dq3 hd rfl | omega) hI ) (fun e u h => h) (fun v u h => ?_)
  obtain ⟨s1, hI1, hF1, n1, rfl, rfl⟩ := h
  obtain ⟨z1a, e1⟩ : ∃ w, w = s1.2.2.1 32 4 := ⟨_, rfl⟩
  have i1a := inv_F hI1 (-1) 4000 rfl e1
  obtain ⟨z1b, e1a⟩ : ∃ w, w = s1.2.2.1 32 0 := ⟨_, rfl⟩
  have i1b := inv_F hI1 0 4000 rfl e1a
  rw [← (show z1a = s1.2.2.1 32 4 from e1)] at n1
  rw [← (show z1b = s1.2.2.1 32 0 from e1a)] at n1
  show GG _ _ _ _ _ _ _ _ [] _ _ _
  refine g_aload_n 5 (gd rfl) rfl rfl ?_
  refine g_callv (X := _) (As := []) (r := []) (b := A 32) (q := 32) 8 (gd rfl) rfl rfl rfl rfl rfl (ww_o rfl) (Nat.le_of_ble_eq_true rfl) (mc := 0) (ms := 0) (Nat.zero_le _) (Nat.zero_le _) (P := fun v u => _) ?_ (fun e u h => h) (fun v u h => h)
  intro po5 xx5 hp5 hx5
  refine g_enter2 (k := 102) (N := 300) (by first | exact dq1 hd rfl | exact dq0 hd rfl | exact dq2 hd rfl | exact dq3 hd rfl | omega) rfl (Nat.le_of_ble_eq_true rfl) ?_
  refine g_aload_n 1 (gd rfl) rfl rfl ?_
  refine g_getI 4 (gd rfl) rfl rfl rfl (fun z5x1 e5x1 => ?_)
  have q5x1 : u_32_1 = z5x1 := (fr_F (e_32_1) hF1 rfl).trans e5x1.symm
  subst q5x1
  refine g_bipush 32 6 (gd rfl) rfl rfl ?_
  refine g_cmp_lt 9 13 (gd rfl) rfl rfl (fun c5x6 => ?_) (fun c5x6 => ?_)
  · skip
    have i5x6 := r_lt1 0 31 c5x6 ro_32_1 (in_c 32 rfl) rfl
    refine g_iconst 1 14 (gd rfl) rfl rfl ?_
    refine g_aload_n 15 (gd rfl) rfl rfl ?_
    refine g_getI 18 (gd rfl) rfl rfl rfl (fun z5x15 e5x15 => ?_)
    have q5x15 : u_32_1 = z5x15 := (fr_F (e_32_1) hF1 rfl).trans e5x15.symm
    subst q5x15
    refine g_ishl 19 (gd rfl) rfl (fun z5x18 e5x18 => ?_)
    refine g_iconst 1 20 (gd rfl) rfl rfl ?_
    refine g_isub 21 (gd rfl) rfl (fun z5x20 e5x20 => ?_)
    refine g_ireturn (gd rfl) rfl rfl (hp5 _ _ ?_)
    show GG _ _ _ _ _ _ _ _ [.int z5x20] _ _ _
    refine g_istore_n 9 (gd rfl) rfl (Nat.le_of_ble_eq_true rfl) ?_
    refine g_iconst 0 10 (gd rfl) rfl rfl ?_
    refine g_istore_n 11 (gd rfl) rfl (Nat.le_of_ble_eq_true rfl) ?_
    refine g_aload_n 12 (gd rfl) rfl rfl ?_
    refine g_aload_n 13 (gd rfl) rfl rfl ?_
    refine g_getA (q2 := 59) 16 (gd rfl) rfl rfl rfl rfl ?_
    refine g_callv (X := _) (As := [.ref (A 59)]) (r := []) (b := A 32) (q := 32) 19 (gd rfl) rfl rfl rfl rfl rfl (ww_o rfl) (Nat.le_of_ble_eq_true rfl) (Nat.zero_le _) (Nat.zero_le _) (k_99_32_59 (by first | exact dq1 hd rfl | exact dq0 hd rfl | exact dq2 hd rfl | exact dq3 hd rfl | omega) hI1 ) (fun e u h => h) (fun v u h => ?_)
    obtain ⟨s16, hI16, hF16, rfl, rfl⟩ := h
    show GG _ _ _ _ _ _ _ _ [] _ _ _
    refine g_iconst 0 20 (gd rfl) rfl rfl ?_
    refine g_istore 22 (gd rfl) rfl (Nat.le_of_ble_eq_true rfl) ?_
    have v22 : z1a = s16.2.2.1 32 4 := fr_F (e1) hF16 rfl
    have v22a : z1b = s16.2.2.1 32 0 := fr_F (e1a) hF16 rfl
    have n22 : (z1a).toInt = (z1b).toInt := by (first | have a0 := oa4 i5x6 ((in_c 0 rfl)) i1b i1a | ((first | have a0 := in_u i5x6 | (have a0 := i5x6; unfold In at a0)); (first | have a1 := in_u ((in_c 0 rfl)) | (have a1 := (in_c 0 rfl); unfold In at a1)); (first | have a2 := in_u i1b | (have a2 := i1b; unfold In at a2)); (first | have a3 := in_u i1a | (have a3 := i1a; unfold In at a3)))); omega
    have n22a : (cb z5x20 : Int) = (u_32_1).toInt - ((Int32.ofInt 0)).toInt := by first | (have hcb := cb_m1; (first | have a0 := oa4 i5x6 ((in_c 0 rfl)) i1b i1a | ((first | have a0 := in_u i5x6 | (have a0 := i5x6; unfold In at a0)); (first | have a1 := in_u ((in_c 0 rfl)) | (have a1 := (in_c 0 rfl); unfold In at a1)); (first | have a2 := in_u i1b | (have a2 := i1b; unfold In at a2)); (first | have a3 := in_u i1a | (have a3 := i1a; unfold In at a3)))); omega) | (have hcb := cb_all e5x18 e5x20 ‹_›; (first | have a0 := oa4 i5x6 ((in_c 0 rfl)) i1b i1a | ((first | have a0 := in_u i5x6 | (have a0 := i5x6; unfold In at a0)); (first | have a1 := in_u ((in_c 0 rfl)) | (have a1 := (in_c 0 rfl); unfold In at a1)); (first | have a2 := in_u i1b | (have a2 := i1b; unfold In at a2)); (first | have a3 := in_u i1a | (have a3 := i1a; unfold In at a3)))); omega) | ((first | have a0 := oa4 i5x6 ((in_c 0 rfl)) i1b i1a | ((first | have a0 := in_u i5x6 | (have a0 := i5x6; unfold In at a0)); (first | have a1 := in_u ((in_c 0 rfl)) | (have a1 := (in_c 0 rfl); unfold In at a1)); (first | have a2 := in_u i1b | (have a2 := i1b; unfold In at a2)); (first | have a3 := in_u i1a | (have a3 := i1a; unfold In at a3)))); omega)
    exact gg_w (by first | exact Nat.le_of_ble_eq_true rfl | omega) (gg_f (gf_cons rfl (gf_cons rfl (gf_cons rfl (gf_cons rfl (gf_cons rfl gf_nil))))) (ct22 33 s16 z5x20 (Int32.ofInt 0) (Int32.ofInt 0) z1a z1b hI16 (fr_tr rfl (fr_tr rfl fr_rf hF1) hF16) (in_w 0 2147483647 (in_c 0 rfl) rfl) (in_w 0 32 (in_c 0 rfl) rfl) v22 v22a n22 n22a (m_in 33 (in_w 0 32 (in_c 0 rfl) rfl) rfl)))
  · skip
    have i5x6 := r_le2 32 32 c5x6 (in_c 32 rfl) ro_32_1 rfl
    refine g_iconst (-1) 10 (gd rfl) rfl rfl ?_
    refine g_goto 21 (gd rfl) rfl ?_
    refine g_ireturn (gd rfl) rfl rfl (hp5 _ _ ?_)
    show GG _ _ _ _ _ _ _ _ [.int (Int32.ofInt (-1))] _ _ _
    refine g_istore_n 9 (gd rfl) rfl (Nat.le_of_ble_eq_true rfl) ?_
    refine g_iconst 0 10 (gd rfl) rfl rfl ?_
    refine g_istore_n 11 (gd rfl) rfl (Nat.le_of_ble_eq_true rfl) ?_
    refine g_aload_n 12 (gd rfl) rfl rfl ?_
    refine g_aload_n 13 (gd rfl) rfl rfl ?_
    refine g_getA (q2 := 59) 16 (gd rfl) rfl rfl rfl rfl ?_
    refine g_callv (X := _) (As := [.ref (A 59)]) (r := []) (b := A 32) (q := 32) 19 (gd rfl) rfl rfl rfl rfl rfl (ww_o rfl) (Nat.le_of_ble_eq_true rfl) (Nat.zero_le _) (Nat.zero_le _) (k_99_32_59 (by first | exact dq1 hd rfl | exact dq0 hd rfl | exact dq2 hd rfl | exact dq3 hd rfl | omega) hI1 ) (fun e u h => h) (fun v u h => ?_)
    obtain ⟨s16, hI16, hF16, rfl, rfl⟩ := h
    show GG _ _ _ _ _ _ _ _ [] _ _ _
    refine g_iconst 0 20 (gd rfl) rfl rfl ?_
    refine g_istore 22 (gd rfl) rfl (Nat.le_of_ble_eq_true rfl) ?_
    have v22 : z1a = s16.2.2.1 32 4 := fr_F (e1) hF16 rfl
    have v22a : z1b = s16.2.2.1 32 0 := fr_F (e1a) hF16 rfl
    have n22 : (z1a).toInt = (z1b).toInt := by (first | have a0 := oa5 i5x6 ((in_c 0 rfl)) ((in_c (-1) rfl)) i1b i1a | ((first | have a0 := in_u i5x6 | (have a0 := i5x6; unfold In at a0)); (first | have a1 := in_u ((in_c 0 rfl)) | (have a1 := (in_c 0 rfl); unfold In at a1)); (first | have a2 := in_u ((in_c (-1) rfl)) | (have a2 := (in_c (-1) rfl); unfold In at a2)); (first | have a3 := in_u i1b | (have a3 := i1b; unfold In at a3)); (first | have a4 := in_u i1a | (have a4 := i1a; unfold In at a4)))); omega
    have n22a : (cb (Int32.ofInt (-1)) : Int) = (u_32_1).toInt - ((Int32.ofInt 0)).toInt := by first | (have hcb := cb_m1; (first | have a0 := oa5 i5x6 ((in_c 0 rfl)) ((in_c (-1) rfl)) i1b i1a | ((first | have a0 := in_u i5x6 | (have a0 := i5x6; unfold In at a0)); (first | have a1 := in_u ((in_c 0 rfl)) | (have a1 := (in_c 0 rfl); unfold In at a1)); (first | have a2 := in_u ((in_c (-1) rfl)) | (have a2 := (in_c (-1) rfl); unfold In at a2)); (first | have a3 := in_u i1b | (have a3 := i1b; unfold In at a3)); (first | have a4 := in_u i1a | (have a4 := i1a; unfold In at a4)))); omega) | (have hcb := cb_all e5x18 e5x20 ‹_›; (first | have a0 := oa5 i5x6 ((in_c 0 rfl)) ((in_c (-1) rfl)) i1b i1a | ((first | have a0 := in_u i5x6 | (have a0 := i5x6; unfold In at a0)); (first | have a1 := in_u ((in_c 0 rfl)) | (have a1 := (in_c 0 rfl); unfold In at a1)); (first | have a2 := in_u ((in_c (-1) rfl)) | (have a2 := (in_c (-1) rfl); unfold In at a2)); (first | have a3 := in_u i1b | (have a3 := i1b; unfold In at a3)); (first | have a4 := in_u i1a | (have a4 := i1a; unfold In at a4)))); omega) | ((first | have a0 := oa5 i5x6 ((in_c 0 rfl)) ((in_c (-1) rfl)) i1b i1a | ((first | have a0 := in_u i5x6 | (have a0 := i5x6; unfold In at a0)); (first | have a1 := in_u ((in_c 0 rfl)) | (have a1 := (in_c 0 rfl); unfold In at a1)); (first | have a2 := in_u ((in_c (-1) rfl)) | (have a2 := (in_c (-1) rfl); unfold In at a2)); (first | have a3 := in_u i1b | (have a3 := i1b; unfold In at a3)); (first | have a4 := in_u i1a | (have a4 := i1a; unfold In at a4)))); omega)
    exact gg_w (by first | exact Nat.le_of_ble_eq_true rfl | omega) (gg_f (gf_cons rfl (gf_cons rfl (gf_cons rfl (gf_cons rfl (gf_cons rfl gf_nil))))) (ct22 33 s16 (Int32.ofInt (-1)) (Int32.ofInt 0) (Int32.ofInt 0) z1a z1b hI16 (fr_tr rfl (fr_tr rfl fr_rf hF1) hF16) (in_w 0 2147483647 (in_c 0 rfl) rfl) (in_w 0 32 (in_c 0 rfl) rfl) v22 v22a n22 n22a (m_in 33 (in_w 0 32 (in_c 0 rfl) rfl) rfl)))

def fm_155_46 : FM := ([], [], [(46, 6), (46, 7)], [])
/-- GraphHouse$Question.isGood -/
theorem k_155_46 {Z : AmZ} {A : Nat → Nat} {s : GS} {ex : va_W} {d : Nat} {X : AmX}  (hd : 4 ≤ d) (hI : Inv s)  : GC Z d 155 [.ref (A 46)] (WW Z A s ++ ex) 0 0 (fun v u => ∃ t : GS, Inv t ∧ Fr fm_155_46 s t ∧ ∃ z : Int32, v = some (.int z) ∧ u = WW Z A t ++ ex ∧ In z 0 1) X := by
  intro post xp hP hX
  obtain ⟨u_46_1, e_46_1⟩ : ∃ w, w = s.2.2.1 46 1 := ⟨_, rfl⟩
  have ro_46_1 := inv_F hI 0 1000 rfl e_46_1
  have ct108 : ∀ (sc108 : GS) (y108_1 : Int32) (y108_2 : Int32) (y108_3 : Int32), Inv sc108 → Fr fm_155_46 s sc108 → (In y108_1 0 0) → (In y108_2 0 1) → (In y108_3 0 2001) → GG Z (d - 1) 155 post (gx xp) (901) 108 (fun j => xlook j [(0, .ref (A 46)), (1, .int y108_1), (2, .int y108_2), (3, .int y108_3)]) [] (WW Z A sc108 ++ ex) 0 0 := by
    intro sc108 y108_1 y108_2 y108_3 hIc108 hFc108 j108_1 j108_2 j108_3
    refine g_iconst 1 109 (gd rfl) rfl rfl ?_
    refine g_goto 113 (gd rfl) rfl ?_
    exact g_ireturn (gd rfl) rfl (nb01 (in_w 0 1 (in_c 1 rfl) rfl)) (hP _ _ ⟨sc108, hIc108, hFc108, (Int32.ofInt 1), rfl, rfl, in_w 0 1 (in_c 1 rfl) rfl⟩)
  have ct6 : ∀ (k6 : Nat) (sc6 : GS) (y6_1 : Int32) (y6_2 : Int32) (y6_3 : Int32), Inv sc6 → Fr fm_155_46 s sc6 → (In y6_2 0 1) → (In y6_3 0 2001) → 2001 - (y6_3).toInt < (k6 : Int) → GG Z (d - 1) 155 post (gx xp) (902 + k6 * 3603) 6 (fun j => xlook j [(0, .ref (A 46)), (1, .int y6_1), (2, .int y6_2), (3, .int y6_3)]) [] (WW Z A sc6 ++ ex) 0 0 := by
    intro k6
    induction k6 with
    | zero => intro sc6 y6_1 y6_2 y6_3 hIc6 hFc6 j6_2 j6_3 mm6; exact m_no mm6 j6_3 rfl
    | succ k6 ih6 =>
      intro sc6 y6_1 y6_2 y6_3 hIc6 hFc6 j6_2 j6_3 mm6
      refine gg_w (M := 902 + k6 * 3603 + 3603) gws ?_
      have ct80 : ∀ (sc80 : GS) (y80_1 : Int32) (y80_4 : Int32) (y80_5 : Int32), Inv sc80 → Fr fm_155_46 s sc80 → (In y6_3 0 1000) → (In y80_4 41 122) → (In y80_5 (-1) (-1)) → GG Z (d - 1) 155 post (gx xp) (902 + k6 * 3603 + 901) 80 (fun j => xlook j [(0, .ref (A 46)), (1, .int y80_1), (2, .int y6_2), (3, .int y6_3), (4, .int y80_4), (5, .int y80_5)]) [] (WW Z A sc80 ++ ex) 0 0 := by
        intro sc80 y80_1 y80_4 y80_5 hIc80 hFc80 j80_3 j80_4 j80_5
        refine g_iconst 1 81 (gd rfl) rfl rfl ?_
        refine g_goto 85 (gd rfl) rfl ?_
        refine g_istore_n 86 (gd rfl) rfl (Nat.le_of_ble_eq_true rfl) ?_
        refine g_iinc 89 (gd rfl) rfl rfl (Nat.le_of_ble_eq_true rfl) (fun z86 e86 => ?_)
        have i86 := in_add 1 1001 e86 j80_3 (in_c 1 rfl) rfl rfl
        refine g_goto 6 (gd rfl) rfl ?_
        exact gg_w (by first | exact Nat.le_add_right _ _ | exact gw2 | exact gw3 | exact gwe rfl | exact gwf rfl | exact gwg rfl | exact gwh rfl | omega) (gg_f (gf_cons rfl (gf_cons rfl (gf_cons rfl (gf_cons rfl gf_nil)))) (ih6 sc80 y80_1 (Int32.ofInt 1) z86 hIc80 hFc80 (in_w 0 1 (in_c 1 rfl) rfl) (in_w 0 2001 i86 rfl) (m_up mm6 (t_add e86 j80_3 (in_c 1 rfl) rfl) (in_w 1 1 (in_c 1 rfl) rfl))))
      have ct65 : ∀ (sc65 : GS) (y65_1 : Int32) (y65_4 : Int32) (y65_5 : Int32), Inv sc65 → Fr fm_155_46 s sc65 → (In y6_3 0 1000) → (In y65_4 40 124) → (In y65_5 (-1) (-1)) → GG Z (d - 1) 155 post (gx xp) (902 + k6 * 3603 + 1802) 65 (fun j => xlook j [(0, .ref (A 46)), (1, .int y65_1), (2, .int y6_2), (3, .int y6_3), (4, .int y65_4), (5, .int y65_5)]) [] (WW Z A sc65 ++ ex) 0 0 := by
        intro sc65 y65_1 y65_4 y65_5 hIc65 hFc65 j65_3 j65_4 j65_5
        refine g_iload 67 (gd rfl) rfl rfl ?_
        refine g_bipush 41 69 (gd rfl) rfl rfl ?_
        refine g_cmp_eq 72 80 (gd rfl) rfl rfl (fun c69 => ?_) (fun c69 => ?_)
        · skip
          have i69 := r_eq1 41 41 c69 j65_4 (in_c 41 rfl) rfl
          exact gg_w (by first | exact Nat.le_add_right _ _ | exact gw2 | exact gw3 | exact gwe rfl | exact gwf rfl | exact gwg rfl | exact gwh rfl | omega) (gg_f (gf_cons rfl (gf_cons rfl (gf_cons rfl (gf_cons rfl (gf_cons rfl (gf_cons rfl gf_nil)))))) (ct80 sc65 y65_1 y65_4 y65_5 hIc65 hFc65 (in_w 0 1000 j65_3 rfl) (in_w 41 122 i69 rfl) (in_w (-1) (-1) j65_5 rfl)))
        · skip
          refine g_iload 74 (gd rfl) rfl rfl ?_
          refine g_calls (As := [.int y65_4]) (r := []) 77 (gd rfl) rfl rfl rfl rfl rfl (Nat.le_of_ble_eq_true rfl) (mc := 0) (ms := 0) (Nat.zero_le _) (Nat.zero_le _) (P := fun v u => _) ?_ (fun v u h => h)
          intro po74 xx74 hp74 hx74
          refine g_enter2 (k := 157) (N := 300) (by first | exact dq1 hd rfl | exact dq0 hd rfl | exact dq2 hd rfl | exact dq3 hd rfl | omega) rfl (Nat.le_of_ble_eq_true rfl) ?_
          refine g_iload_n 1 (gd rfl) rfl rfl ?_
          refine g_bipush 46 3 (gd rfl) rfl rfl ?_
          refine g_cmp_eq 6 18 (gd rfl) rfl rfl (fun c74x3 => ?_) (fun c74x3 => ?_)
          · skip
            have i74x3 := r_eq1 46 46 c74x3 j65_4 (in_c 46 rfl) rfl
            refine g_iconst 1 19 (gd rfl) rfl rfl ?_
            refine g_goto 23 (gd rfl) rfl ?_
            refine g_ireturn (gd rfl) rfl (nb01 (in_w 0 1 (in_c 1 rfl) rfl)) (hp74 _ _ ?_)
            show GG _ _ _ _ _ _ _ _ [.int (Int32.ofInt 1)] _ _ _
            refine g_if_eq 80 84 (gd rfl) rfl rfl (fun c77 => ?_) (fun c77 => ?_)
            · skip
              exact zn_eq c77 (in_c 1 rfl) rfl
            · skip
              exact gg_w (by first | exact Nat.le_add_right _ _ | exact gw2 | exact gw3 | exact gwe rfl | exact gwf rfl | exact gwg rfl | exact gwh rfl | omega) (gg_f (gf_cons rfl (gf_cons rfl (gf_cons rfl (gf_cons rfl (gf_cons rfl (gf_cons rfl gf_nil)))))) (ct80 sc65 y65_1 y65_4 y65_5 hIc65 hFc65 (in_w 0 1000 j65_3 rfl) (in_w 41 122 i74x3 rfl) (in_w (-1) (-1) j65_5 rfl)))
          · skip
            refine g_iload_n 7 (gd rfl) rfl rfl ?_
            refine g_bipush 97 9 (gd rfl) rfl rfl ?_
            refine g_cmp_lt 12 22 (gd rfl) rfl rfl (fun c74x9 => ?_) (fun c74x9 => ?_)
            · skip
              have i74x9 := r_lt1 40 96 c74x9 j65_4 (in_c 97 rfl) rfl
              refine g_iconst 0 23 (gd rfl) rfl rfl ?_
              refine g_ireturn (gd rfl) rfl (nb01 (in_w 0 1 (in_c 0 rfl) rfl)) (hp74 _ _ ?_)
              show GG _ _ _ _ _ _ _ _ [.int (Int32.ofInt 0)] _ _ _
              refine g_if_eq 80 84 (gd rfl) rfl rfl (fun c77 => ?_) (fun c77 => ?_)
              · skip
                refine g_iconst 0 85 (gd rfl) rfl rfl ?_
                refine g_istore_n 86 (gd rfl) rfl (Nat.le_of_ble_eq_true rfl) ?_
                refine g_iinc 89 (gd rfl) rfl rfl (Nat.le_of_ble_eq_true rfl) (fun z86 e86 => ?_)
                have i86 := in_add 1 1001 e86 j65_3 (in_c 1 rfl) rfl rfl
                refine g_goto 6 (gd rfl) rfl ?_
                exact gg_w (by first | exact Nat.le_add_right _ _ | exact gw2 | exact gw3 | exact gwe rfl | exact gwf rfl | exact gwg rfl | exact gwh rfl | omega) (gg_f (gf_cons rfl (gf_cons rfl (gf_cons rfl (gf_cons rfl gf_nil)))) (ih6 sc65 y65_1 (Int32.ofInt 0) z86 hIc65 hFc65 (in_w 0 1 (in_c 0 rfl) rfl) (in_w 0 2001 i86 rfl) (m_up mm6 (t_add e86 j65_3 (in_c 1 rfl) rfl) (in_w 1 1 (in_c 1 rfl) rfl))))
              · skip
                exact zn_ne c77 (in_c 0 rfl) rfl
            · skip
              have i74x9 := r_le2 97 124 c74x9 (in_c 97 rfl) j65_4 rfl
              refine g_iload_n 13 (gd rfl) rfl rfl ?_
              refine g_bipush 122 15 (gd rfl) rfl rfl ?_
              refine g_cmp_gt 18 22 (gd rfl) rfl rfl (fun c74x15 => ?_) (fun c74x15 => ?_)
              · skip
                have i74x15 := r_lt2 123 124 c74x15 (in_c 122 rfl) i74x9 rfl
                refine g_iconst 0 23 (gd rfl) rfl rfl ?_
                refine g_ireturn (gd rfl) rfl (nb01 (in_w 0 1 (in_c 0 rfl) rfl)) (hp74 _ _ ?_)
                show GG _ _ _ _ _ _ _ _ [.int (Int32.ofInt 0)] _ _ _
                refine g_if_eq 80 84 (gd rfl) rfl rfl (fun c77 => ?_) (fun c77 => ?_)
                · skip
                  refine g_iconst 0 85 (gd rfl) rfl rfl ?_
                  refine g_istore_n 86 (gd rfl) rfl (Nat.le_of_ble_eq_true rfl) ?_
                  refine g_iinc 89 (gd rfl) rfl rfl (Nat.le_of_ble_eq_true rfl) (fun z86 e86 => ?_)
                  have i86 := in_add 1 1001 e86 j65_3 (in_c 1 rfl) rfl rfl
                  refine g_goto 6 (gd rfl) rfl ?_
                  exact gg_w (by first | exact Nat.le_add_right _ _ | exact gw2 | exact gw3 | exact gwe rfl | exact gwf rfl | exact gwg rfl | exact gwh rfl | omega) (gg_f (gf_cons rfl (gf_cons rfl (gf_cons rfl (gf_cons rfl gf_nil)))) (ih6 sc65 y65_1 (Int32.ofInt 0) z86 hIc65 hFc65 (in_w 0 1 (in_c 0 rfl) rfl) (in_w 0 2001 i86 rfl) (m_up mm6 (t_add e86 j65_3 (in_c 1 rfl) rfl) (in_w 1 1 (in_c 1 rfl) rfl))))
                · skip
                  exact zn_ne c77 (in_c 0 rfl) rfl
              · skip
                have i74x15 := r_le1 97 122 c74x15 i74x9 (in_c 122 rfl) rfl
                refine g_iconst 1 19 (gd rfl) rfl rfl ?_
                refine g_goto 23 (gd rfl) rfl ?_
                refine g_ireturn (gd rfl) rfl (nb01 (in_w 0 1 (in_c 1 rfl) rfl)) (hp74 _ _ ?_)
                show GG _ _ _ _ _ _ _ _ [.int (Int32.ofInt 1)] _ _ _
                refine g_if_eq 80 84 (gd rfl) rfl rfl (fun c77 => ?_) (fun c77 => ?_)
                · skip
                  exact zn_eq c77 (in_c 1 rfl) rfl
                · skip
                  exact gg_w (by first | exact Nat.le_add_right _ _ | exact gw2 | exact gw3 | exact gwe rfl | exact gwf rfl | exact gwg rfl | exact gwh rfl | omega) (gg_f (gf_cons rfl (gf_cons rfl (gf_cons rfl (gf_cons rfl (gf_cons rfl (gf_cons rfl gf_nil)))))) (ct80 sc65 y65_1 y65_4 y65_5 hIc65 hFc65 (in_w 0 1000 j65_3 rfl) (in_w 41 122 i74x15 rfl) (in_w (-1) (-1) j65_5 rfl)))
      have ct55 : ∀ (sc55 : GS) (y55_1 : Int32) (y55_4 : Int32) (y55_5 : Int32), Inv sc55 → Fr fm_155_46 s sc55 → (In y6_3 0 1000) → (In y55_4 40 124) → (In y55_5 (-1) (-1)) → GG Z (d - 1) 155 post (gx xp) (902 + k6 * 3603 + 2703) 55 (fun j => xlook j [(0, .ref (A 46)), (1, .int y55_1), (2, .int y6_2), (3, .int y6_3), (4, .int y55_4), (5, .int y55_5)]) [] (WW Z A sc55 ++ ex) 0 0 := by
        intro sc55 y55_1 y55_4 y55_5 hIc55 hFc55 j55_3 j55_4 j55_5
        refine g_iload 57 (gd rfl) rfl rfl ?_
        refine g_bipush 41 59 (gd rfl) rfl rfl ?_
        refine g_cmp_ne 62 65 (gd rfl) rfl rfl (fun c59 => ?_) (fun c59 => ?_)
        · skip
          exact gg_w (by first | exact Nat.le_add_right _ _ | exact gw2 | exact gw3 | exact gwe rfl | exact gwf rfl | exact gwg rfl | exact gwh rfl | omega) (gg_f (gf_cons rfl (gf_cons rfl (gf_cons rfl (gf_cons rfl (gf_cons rfl (gf_cons rfl gf_nil)))))) (ct65 sc55 y55_1 y55_4 y55_5 hIc55 hFc55 (in_w 0 1000 j55_3 rfl) (in_w 40 124 j55_4 rfl) (in_w (-1) (-1) j55_5 rfl)))
        · skip
          have i59 := r_eq1 41 41 c59 j55_4 (in_c 41 rfl) rfl
          refine g_iinc 65 (gd rfl) rfl rfl (Nat.le_of_ble_eq_true rfl) (fun z62 e62 => ?_)
          exact gg_w (by first | exact Nat.le_add_right _ _ | exact gw2 | exact gw3 | exact gwe rfl | exact gwf rfl | exact gwg rfl | exact gwh rfl | omega) (gg_f (gf_cons rfl (gf_cons rfl (gf_cons rfl (gf_cons rfl (gf_cons rfl (gf_cons rfl gf_nil)))))) (ct65 sc55 z62 y55_4 y55_5 hIc55 hFc55 (in_w 0 1000 j55_3 rfl) (in_w 40 124 i59 rfl) (in_w (-1) (-1) j55_5 rfl)))
      refine g_iload_n 7 (gd rfl) rfl rfl ?_
      refine g_aload_n 8 (gd rfl) rfl rfl ?_
      refine g_getI 11 (gd rfl) rfl rfl rfl (fun z8 e8 => ?_)
      have q8 : u_46_1 = z8 := (fr_F e_46_1 hFc6 rfl).trans e8.symm
      subst q8
      refine g_cmp_ge 14 92 (gd rfl) rfl rfl (fun c11 => ?_) (fun c11 => ?_)
      · skip
        refine g_iload_n 93 (gd rfl) rfl rfl ?_
        refine g_if_eq 96 108 (gd rfl) rfl rfl (fun c93 => ?_) (fun c93 => ?_)
        · skip
          have i93 := z_eq 0 0 c93 (i_rng y6_1) rfl
          exact gg_w (by first | exact Nat.le_add_right _ _ | exact gw2 | exact gw3 | exact gwe rfl | exact gwf rfl | exact gwg rfl | exact gwh rfl | omega) (gg_f (gf_cons rfl (gf_cons rfl (gf_cons rfl (gf_cons rfl gf_nil)))) (ct108 sc6 y6_1 y6_2 y6_3 hIc6 hFc6 (in_w 0 0 i93 rfl) (in_w 0 1 j6_2 rfl) (in_w 0 2001 j6_3 rfl)))
        · skip
          refine g_aload_n 97 (gd rfl) rfl rfl ?_
          refine g_iconst 2 98 (gd rfl) rfl rfl ?_
          refine g_aload_n 99 (gd rfl) rfl rfl ?_
          refine g_getI 102 (gd rfl) rfl rfl rfl (fun z99 e99 => ?_)
          have q99 : u_46_1 = z99 := (fr_F e_46_1 hFc6 rfl).trans e99.symm
          subst q99
          refine g_callv (X := _) (As := [.int (Int32.ofInt 2), .int u_46_1]) (r := []) (b := A 46) (q := 46) 105 (gd rfl) rfl rfl rfl rfl rfl (ww_o rfl) (Nat.le_of_ble_eq_true rfl) (Nat.zero_le _) (Nat.zero_le _) (k_168_46 (by first | exact dq1 hd rfl | exact dq0 hd rfl | exact dq2 hd rfl | exact dq3 hd rfl | omega) hIc6 (in_w 1 5 (in_c 2 rfl) rfl) (in_w 0 1000 ro_46_1 rfl)) (fun e u h => h) (fun v u h => ?_)
          obtain ⟨s102, hI102, hF102, z102, rfl, rfl, i102⟩ := h
          show GG _ _ _ _ _ _ _ _ [.int z102] _ _ _
          refine g_if_eq 108 112 (gd rfl) rfl rfl (fun c105 => ?_) (fun c105 => ?_)
          · skip
            refine g_iconst 0 113 (gd rfl) rfl rfl ?_
            exact g_ireturn (gd rfl) rfl (nb01 (in_w 0 1 (in_c 0 rfl) rfl)) (hP _ _ ⟨s102, hI102, (fr_tr rfl hFc6 hF102), (Int32.ofInt 0), rfl, rfl, in_w 0 1 (in_c 0 rfl) rfl⟩)
          · skip
            exact zn_ne c105 i102 rfl
      · skip
        have i11 := r_lt1 0 999 c11 j6_3 ro_46_1 rfl
        have i11a := r_lt2 1 1000 c11 j6_3 ro_46_1 rfl
        refine g_aload_n 15 (gd rfl) rfl rfl ?_
        refine g_getA (q2 := 47) 18 (gd rfl) rfl rfl rfl rfl ?_
        refine g_iload_n 19 (gd rfl) rfl rfl ?_
        refine g_caload 20 (gd rfl) rfl (n := 1000) rfl (in_ix i11 rfl) (fun z19 e19 => ?_)
        have i19 := inv_I hIc6 (n := 1000) (t := 2) 0 65535 rfl (in_ix i11 rfl) rfl e19
        refine g_istore 22 (gd rfl) rfl (Nat.le_of_ble_eq_true rfl) ?_
        refine g_iload 24 (gd rfl) rfl rfl ?_
        refine g_iload_n 25 (gd rfl) rfl rfl ?_
        refine g_iload_n 26 (gd rfl) rfl rfl ?_
        refine g_calls (As := [.int z19, .int y6_2, .int y6_1]) (r := []) 29 (gd rfl) rfl rfl rfl rfl rfl (Nat.le_of_ble_eq_true rfl) (mc := 0) (ms := 0) (Nat.zero_le _) (Nat.zero_le _) (P := fun v u => _) ?_ (fun v u h => h)
        intro po26 xx26 hp26 hx26
        refine g_enter2 (k := 156) (N := 300) (by first | exact dq1 hd rfl | exact dq0 hd rfl | exact dq2 hd rfl | exact dq3 hd rfl | omega) rfl (Nat.le_of_ble_eq_true rfl) ?_
        refine g_iload_n 1 (gd rfl) rfl rfl ?_
        refine g_lsw [(40, 70), (41, 82), (42, 60), (43, 60), (63, 60), (124, 92)] 94 (gd rfl) rfl rfl rfl ⟨fun c26x1 => ?_, fun c26x1_0 => ⟨fun c26x1 => ?_, fun c26x1_1 => ⟨fun c26x1 => ?_, fun c26x1_2 => ⟨fun c26x1 => ?_, fun c26x1_3 => ⟨fun c26x1 => ?_, fun c26x1_4 => ⟨fun c26x1 => ?_, fun c26x1_5 => ?_⟩⟩⟩⟩⟩⟩
        · skip
          have i26x1 := sw_eq c26x1
          refine g_iload_n 71 (gd rfl) rfl rfl ?_
          refine g_bipush 10 73 (gd rfl) rfl rfl ?_
          refine g_cmp_ge 76 80 (gd rfl) rfl rfl (fun c26x73 => ?_) (fun c26x73 => ?_)
          · skip
            have i26x73 := r_le2 10 2147483647 c26x73 (in_c 10 rfl) (i_rng y6_1) rfl
            refine g_iconst 3 81 (gd rfl) rfl rfl ?_
            refine g_ireturn (gd rfl) rfl rfl (hp26 _ _ ?_)
            show GG _ _ _ _ _ _ _ _ [.int (Int32.ofInt 3)] _ _ _
            refine g_istore 31 (gd rfl) rfl (Nat.le_of_ble_eq_true rfl) ?_
            refine g_iload 33 (gd rfl) rfl rfl ?_
            refine g_iconst (-1) 34 (gd rfl) rfl rfl ?_
            refine g_cmp_eq 37 45 (gd rfl) rfl rfl (fun c34 => ?_) (fun c34 => ?_)
            · skip
              exact n_eq c34 (in_c 3 rfl) (in_c (-1) rfl) rfl
            · skip
              refine g_aload_n 38 (gd rfl) rfl rfl ?_
              refine g_iload 40 (gd rfl) rfl rfl ?_
              refine g_iload_n 41 (gd rfl) rfl rfl ?_
              refine g_callv (X := _) (As := [.int (Int32.ofInt 3), .int y6_3]) (r := []) (b := A 46) (q := 46) 44 (gd rfl) rfl rfl rfl rfl rfl (ww_o rfl) (Nat.le_of_ble_eq_true rfl) (Nat.zero_le _) (Nat.zero_le _) (k_168_46 (by first | exact dq1 hd rfl | exact dq0 hd rfl | exact dq2 hd rfl | exact dq3 hd rfl | omega) hIc6 (in_w 1 5 (in_c 3 rfl) rfl) (in_w 0 1000 i11 rfl)) (fun e u h => h) (fun v u h => ?_)
              obtain ⟨s41, hI41, hF41, z41, rfl, rfl, i41⟩ := h
              show GG _ _ _ _ _ _ _ _ [.int z41] _ _ _
              exact g_ireturn (gd rfl) rfl (nb01 (in_w 0 1 i41 rfl)) (hP _ _ ⟨s41, hI41, (fr_tr rfl hFc6 hF41), z41, rfl, rfl, in_w 0 1 i41 rfl⟩)
          · skip
            have i26x73 := r_lt1 (-2147483648) 9 c26x73 (i_rng y6_1) (in_c 10 rfl) rfl
            refine g_iconst (-1) 77 (gd rfl) rfl rfl ?_
            refine g_goto 81 (gd rfl) rfl ?_
            refine g_ireturn (gd rfl) rfl rfl (hp26 _ _ ?_)
            show GG _ _ _ _ _ _ _ _ [.int (Int32.ofInt (-1))] _ _ _
            refine g_istore 31 (gd rfl) rfl (Nat.le_of_ble_eq_true rfl) ?_
            refine g_iload 33 (gd rfl) rfl rfl ?_
            refine g_iconst (-1) 34 (gd rfl) rfl rfl ?_
            refine g_cmp_eq 37 45 (gd rfl) rfl rfl (fun c34 => ?_) (fun c34 => ?_)
            · skip
              refine g_iload 47 (gd rfl) rfl rfl ?_
              refine g_bipush 40 49 (gd rfl) rfl rfl ?_
              refine g_cmp_ne 52 55 (gd rfl) rfl rfl (fun c49 => ?_) (fun c49 => ?_)
              · skip
                exact n_ne c49 i26x1 (in_c 40 rfl) rfl
              · skip
                refine g_iinc 55 (gd rfl) rfl rfl (Nat.le_of_ble_eq_true rfl) (fun z52 e52 => ?_)
                have i52 := in_add (-2147483647) 10 e52 i26x73 (in_c 1 rfl) rfl rfl
                exact gg_w (by first | exact Nat.le_add_right _ _ | exact gw2 | exact gw3 | exact gwe rfl | exact gwf rfl | exact gwg rfl | exact gwh rfl | omega) (gg_f (gf_cons rfl (gf_cons rfl (gf_cons rfl (gf_cons rfl (gf_cons rfl (gf_cons rfl gf_nil)))))) (ct55 sc6 z52 z19 (Int32.ofInt (-1)) hIc6 hFc6 (in_w 0 1000 i11 rfl) (in_w 40 124 i26x1 rfl) (in_w (-1) (-1) (in_c (-1) rfl) rfl)))
            · skip
              exact n_ne c34 (in_c (-1) rfl) (in_c (-1) rfl) rfl
        · skip
          have i26x1 := sw_eq c26x1
          refine g_iload_n 83 (gd rfl) rfl rfl ?_
          refine g_if_le 86 90 (gd rfl) rfl rfl (fun c26x83 => ?_) (fun c26x83 => ?_)
          · skip
            have i26x83 := z_le (-2147483648) 0 c26x83 (i_rng y6_1) rfl
            refine g_iconst 2 91 (gd rfl) rfl rfl ?_
            refine g_ireturn (gd rfl) rfl rfl (hp26 _ _ ?_)
            show GG _ _ _ _ _ _ _ _ [.int (Int32.ofInt 2)] _ _ _
            refine g_istore 31 (gd rfl) rfl (Nat.le_of_ble_eq_true rfl) ?_
            refine g_iload 33 (gd rfl) rfl rfl ?_
            refine g_iconst (-1) 34 (gd rfl) rfl rfl ?_
            refine g_cmp_eq 37 45 (gd rfl) rfl rfl (fun c34 => ?_) (fun c34 => ?_)
            · skip
              exact n_eq c34 (in_c 2 rfl) (in_c (-1) rfl) rfl
            · skip
              refine g_aload_n 38 (gd rfl) rfl rfl ?_
              refine g_iload 40 (gd rfl) rfl rfl ?_
              refine g_iload_n 41 (gd rfl) rfl rfl ?_
              refine g_callv (X := _) (As := [.int (Int32.ofInt 2), .int y6_3]) (r := []) (b := A 46) (q := 46) 44 (gd rfl) rfl rfl rfl rfl rfl (ww_o rfl) (Nat.le_of_ble_eq_true rfl) (Nat.zero_le _) (Nat.zero_le _) (k_168_46 (by first | exact dq1 hd rfl | exact dq0 hd rfl | exact dq2 hd rfl | exact dq3 hd rfl | omega) hIc6 (in_w 1 5 (in_c 2 rfl) rfl) (in_w 0 1000 i11 rfl)) (fun e u h => h) (fun v u h => ?_)
              obtain ⟨s41, hI41, hF41, z41, rfl, rfl, i41⟩ := h
              show GG _ _ _ _ _ _ _ _ [.int z41] _ _ _
              exact g_ireturn (gd rfl) rfl (nb01 (in_w 0 1 i41 rfl)) (hP _ _ ⟨s41, hI41, (fr_tr rfl hFc6 hF41), z41, rfl, rfl, in_w 0 1 i41 rfl⟩)
          · skip
            have i26x83 := z_gt 1 2147483647 c26x83 (i_rng y6_1) rfl
            refine g_iconst (-1) 87 (gd rfl) rfl rfl ?_
            refine g_goto 91 (gd rfl) rfl ?_
            refine g_ireturn (gd rfl) rfl rfl (hp26 _ _ ?_)
            show GG _ _ _ _ _ _ _ _ [.int (Int32.ofInt (-1))] _ _ _
            refine g_istore 31 (gd rfl) rfl (Nat.le_of_ble_eq_true rfl) ?_
            refine g_iload 33 (gd rfl) rfl rfl ?_
            refine g_iconst (-1) 34 (gd rfl) rfl rfl ?_
            refine g_cmp_eq 37 45 (gd rfl) rfl rfl (fun c34 => ?_) (fun c34 => ?_)
            · skip
              refine g_iload 47 (gd rfl) rfl rfl ?_
              refine g_bipush 40 49 (gd rfl) rfl rfl ?_
              refine g_cmp_ne 52 55 (gd rfl) rfl rfl (fun c49 => ?_) (fun c49 => ?_)
              · skip
                exact gg_w (by first | exact Nat.le_add_right _ _ | exact gw2 | exact gw3 | exact gwe rfl | exact gwf rfl | exact gwg rfl | exact gwh rfl | omega) (gg_f (gf_cons rfl (gf_cons rfl (gf_cons rfl (gf_cons rfl (gf_cons rfl (gf_cons rfl gf_nil)))))) (ct55 sc6 y6_1 z19 (Int32.ofInt (-1)) hIc6 hFc6 (in_w 0 1000 i11 rfl) (in_w 40 124 i26x1 rfl) (in_w (-1) (-1) (in_c (-1) rfl) rfl)))
              · skip
                exact n_eq c49 i26x1 (in_c 40 rfl) rfl
            · skip
              exact n_ne c34 (in_c (-1) rfl) (in_c (-1) rfl) rfl
        · skip
          have i26x1 := sw_eq c26x1
          refine g_iload_n 61 (gd rfl) rfl rfl ?_
          refine g_if_eq 64 68 (gd rfl) rfl rfl (fun c26x61 => ?_) (fun c26x61 => ?_)
          · skip
            have i26x61 := z_eq 0 0 c26x61 j6_2 rfl
            refine g_iconst 2 69 (gd rfl) rfl rfl ?_
            refine g_ireturn (gd rfl) rfl rfl (hp26 _ _ ?_)
            show GG _ _ _ _ _ _ _ _ [.int (Int32.ofInt 2)] _ _ _
            refine g_istore 31 (gd rfl) rfl (Nat.le_of_ble_eq_true rfl) ?_
            refine g_iload 33 (gd rfl) rfl rfl ?_
            refine g_iconst (-1) 34 (gd rfl) rfl rfl ?_
            refine g_cmp_eq 37 45 (gd rfl) rfl rfl (fun c34 => ?_) (fun c34 => ?_)
            · skip
              exact n_eq c34 (in_c 2 rfl) (in_c (-1) rfl) rfl
            · skip
              refine g_aload_n 38 (gd rfl) rfl rfl ?_
              refine g_iload 40 (gd rfl) rfl rfl ?_
              refine g_iload_n 41 (gd rfl) rfl rfl ?_
              refine g_callv (X := _) (As := [.int (Int32.ofInt 2), .int y6_3]) (r := []) (b := A 46) (q := 46) 44 (gd rfl) rfl rfl rfl rfl rfl (ww_o rfl) (Nat.le_of_ble_eq_true rfl) (Nat.zero_le _) (Nat.zero_le _) (k_168_46 (by first | exact dq1 hd rfl | exact dq0 hd rfl | exact dq2 hd rfl | exact dq3 hd rfl | omega) hIc6 (in_w 1 5 (in_c 2 rfl) rfl) (in_w 0 1000 i11 rfl)) (fun e u h => h) (fun v u h => ?_)
              obtain ⟨s41, hI41, hF41, z41, rfl, rfl, i41⟩ := h
              show GG _ _ _ _ _ _ _ _ [.int z41] _ _ _
              exact g_ireturn (gd rfl) rfl (nb01 (in_w 0 1 i41 rfl)) (hP _ _ ⟨s41, hI41, (fr_tr rfl hFc6 hF41), z41, rfl, rfl, in_w 0 1 i41 rfl⟩)
          · skip
            have i26x61 := z_ne 1 1 c26x61 j6_2 rfl
            refine g_iconst (-1) 65 (gd rfl) rfl rfl ?_
            refine g_goto 69 (gd rfl) rfl ?_
            refine g_ireturn (gd rfl) rfl rfl (hp26 _ _ ?_)
            show GG _ _ _ _ _ _ _ _ [.int (Int32.ofInt (-1))] _ _ _
            refine g_istore 31 (gd rfl) rfl (Nat.le_of_ble_eq_true rfl) ?_
            refine g_iload 33 (gd rfl) rfl rfl ?_
            refine g_iconst (-1) 34 (gd rfl) rfl rfl ?_
            refine g_cmp_eq 37 45 (gd rfl) rfl rfl (fun c34 => ?_) (fun c34 => ?_)
            · skip
              refine g_iload 47 (gd rfl) rfl rfl ?_
              refine g_bipush 40 49 (gd rfl) rfl rfl ?_
              refine g_cmp_ne 52 55 (gd rfl) rfl rfl (fun c49 => ?_) (fun c49 => ?_)
              · skip
                exact gg_w (by first | exact Nat.le_add_right _ _ | exact gw2 | exact gw3 | exact gwe rfl | exact gwf rfl | exact gwg rfl | exact gwh rfl | omega) (gg_f (gf_cons rfl (gf_cons rfl (gf_cons rfl (gf_cons rfl (gf_cons rfl (gf_cons rfl gf_nil)))))) (ct55 sc6 y6_1 z19 (Int32.ofInt (-1)) hIc6 hFc6 (in_w 0 1000 i11 rfl) (in_w 40 124 i26x1 rfl) (in_w (-1) (-1) (in_c (-1) rfl) rfl)))
              · skip
                exact n_eq c49 i26x1 (in_c 40 rfl) rfl
            · skip
              exact n_ne c34 (in_c (-1) rfl) (in_c (-1) rfl) rfl
        · skip
          have i26x1 := sw_eq c26x1
          refine g_iload_n 61 (gd rfl) rfl rfl ?_
          refine g_if_eq 64 68 (gd rfl) rfl rfl (fun c26x61 => ?_) (fun c26x61 => ?_)
          · skip
            have i26x61 := z_eq 0 0 c26x61 j6_2 rfl
            refine g_iconst 2 69 (gd rfl) rfl rfl ?_
            refine g_ireturn (gd rfl) rfl rfl (hp26 _ _ ?_)
            show GG _ _ _ _ _ _ _ _ [.int (Int32.ofInt 2)] _ _ _
            refine g_istore 31 (gd rfl) rfl (Nat.le_of_ble_eq_true rfl) ?_
            refine g_iload 33 (gd rfl) rfl rfl ?_
            refine g_iconst (-1) 34 (gd rfl) rfl rfl ?_
            refine g_cmp_eq 37 45 (gd rfl) rfl rfl (fun c34 => ?_) (fun c34 => ?_)
            · skip
              exact n_eq c34 (in_c 2 rfl) (in_c (-1) rfl) rfl
            · skip
              refine g_aload_n 38 (gd rfl) rfl rfl ?_
              refine g_iload 40 (gd rfl) rfl rfl ?_
              refine g_iload_n 41 (gd rfl) rfl rfl ?_
              refine g_callv (X := _) (As := [.int (Int32.ofInt 2), .int y6_3]) (r := []) (b := A 46) (q := 46) 44 (gd rfl) rfl rfl rfl rfl rfl (ww_o rfl) (Nat.le_of_ble_eq_true rfl) (Nat.zero_le _) (Nat.zero_le _) (k_168_46 (by first | exact dq1 hd rfl | exact dq0 hd rfl | exact dq2 hd rfl | exact dq3 hd rfl | omega) hIc6 (in_w 1 5 (in_c 2 rfl) rfl) (in_w 0 1000 i11 rfl)) (fun e u h => h) (fun v u h => ?_)
              obtain ⟨s41, hI41, hF41, z41, rfl, rfl, i41⟩ := h
              show GG _ _ _ _ _ _ _ _ [.int z41] _ _ _
              exact g_ireturn (gd rfl) rfl (nb01 (in_w 0 1 i41 rfl)) (hP _ _ ⟨s41, hI41, (fr_tr rfl hFc6 hF41), z41, rfl, rfl, in_w 0 1 i41 rfl⟩)
          · skip
            have i26x61 := z_ne 1 1 c26x61 j6_2 rfl
            refine g_iconst (-1) 65 (gd rfl) rfl rfl ?_
            refine g_goto 69 (gd rfl) rfl ?_
            refine g_ireturn (gd rfl) rfl rfl (hp26 _ _ ?_)
            show GG _ _ _ _ _ _ _ _ [.int (Int32.ofInt (-1))] _ _ _
            refine g_istore 31 (gd rfl) rfl (Nat.le_of_ble_eq_true rfl) ?_
            refine g_iload 33 (gd rfl) rfl rfl ?_
            refine g_iconst (-1) 34 (gd rfl) rfl rfl ?_
            refine g_cmp_eq 37 45 (gd rfl) rfl rfl (fun c34 => ?_) (fun c34 => ?_)
            · skip
              refine g_iload 47 (gd rfl) rfl rfl ?_
              refine g_bipush 40 49 (gd rfl) rfl rfl ?_
              refine g_cmp_ne 52 55 (gd rfl) rfl rfl (fun c49 => ?_) (fun c49 => ?_)
              · skip
                exact gg_w (by first | exact Nat.le_add_right _ _ | exact gw2 | exact gw3 | exact gwe rfl | exact gwf rfl | exact gwg rfl | exact gwh rfl | omega) (gg_f (gf_cons rfl (gf_cons rfl (gf_cons rfl (gf_cons rfl (gf_cons rfl (gf_cons rfl gf_nil)))))) (ct55 sc6 y6_1 z19 (Int32.ofInt (-1)) hIc6 hFc6 (in_w 0 1000 i11 rfl) (in_w 40 124 i26x1 rfl) (in_w (-1) (-1) (in_c (-1) rfl) rfl)))
              · skip
                exact n_eq c49 i26x1 (in_c 40 rfl) rfl
            · skip
              exact n_ne c34 (in_c (-1) rfl) (in_c (-1) rfl) rfl
        · skip
          have i26x1 := sw_eq c26x1
          refine g_iload_n 61 (gd rfl) rfl rfl ?_
          refine g_if_eq 64 68 (gd rfl) rfl rfl (fun c26x61 => ?_) (fun c26x61 => ?_)
          · skip
            have i26x61 := z_eq 0 0 c26x61 j6_2 rfl
            refine g_iconst 2 69 (gd rfl) rfl rfl ?_
            refine g_ireturn (gd rfl) rfl rfl (hp26 _ _ ?_)
            show GG _ _ _ _ _ _ _ _ [.int (Int32.ofInt 2)] _ _ _
            refine g_istore 31 (gd rfl) rfl (Nat.le_of_ble_eq_true rfl) ?_
            refine g_iload 33 (gd rfl) rfl rfl ?_
            refine g_iconst (-1) 34 (gd rfl) rfl rfl ?_
            refine g_cmp_eq 37 45 (gd rfl) rfl rfl (fun c34 => ?_) (fun c34 => ?_)
            · skip
              exact n_eq c34 (in_c 2 rfl) (in_c (-1) rfl) rfl
            · skip
              refine g_aload_n 38 (gd rfl) rfl rfl ?_
              refine g_iload 40 (gd rfl) rfl rfl ?_
              refine g_iload_n 41 (gd rfl) rfl rfl ?_
              refine g_callv (X := _) (As := [.int (Int32.ofInt 2), .int y6_3]) (r := []) (b := A 46) (q := 46) 44 (gd rfl) rfl rfl rfl rfl rfl (ww_o rfl) (Nat.le_of_ble_eq_true rfl) (Nat.zero_le _) (Nat.zero_le _) (k_168_46 (by first | exact dq1 hd rfl | exact dq0 hd rfl | exact dq2 hd rfl | exact dq3 hd rfl | omega) hIc6 (in_w 1 5 (in_c 2 rfl) rfl) (in_w 0 1000 i11 rfl)) (fun e u h => h) (fun v u h => ?_)
              obtain ⟨s41, hI41, hF41, z41, rfl, rfl, i41⟩ := h
              show GG _ _ _ _ _ _ _ _ [.int z41] _ _ _
              exact g_ireturn (gd rfl) rfl (nb01 (in_w 0 1 i41 rfl)) (hP _ _ ⟨s41, hI41, (fr_tr rfl hFc6 hF41), z41, rfl, rfl, in_w 0 1 i41 rfl⟩)
          · skip
            have i26x61 := z_ne 1 1 c26x61 j6_2 rfl
            refine g_iconst (-1) 65 (gd rfl) rfl rfl ?_
            refine g_goto 69 (gd rfl) rfl ?_
            refine g_ireturn (gd rfl) rfl rfl (hp26 _ _ ?_)
            show GG _ _ _ _ _ _ _ _ [.int (Int32.ofInt (-1))] _ _ _
            refine g_istore 31 (gd rfl) rfl (Nat.le_of_ble_eq_true rfl) ?_
            refine g_iload 33 (gd rfl) rfl rfl ?_
            refine g_iconst (-1) 34 (gd rfl) rfl rfl ?_
            refine g_cmp_eq 37 45 (gd rfl) rfl rfl (fun c34 => ?_) (fun c34 => ?_)
            · skip
              refine g_iload 47 (gd rfl) rfl rfl ?_
              refine g_bipush 40 49 (gd rfl) rfl rfl ?_
              refine g_cmp_ne 52 55 (gd rfl) rfl rfl (fun c49 => ?_) (fun c49 => ?_)
              · skip
                exact gg_w (by first | exact Nat.le_add_right _ _ | exact gw2 | exact gw3 | exact gwe rfl | exact gwf rfl | exact gwg rfl | exact gwh rfl | omega) (gg_f (gf_cons rfl (gf_cons rfl (gf_cons rfl (gf_cons rfl (gf_cons rfl (gf_cons rfl gf_nil)))))) (ct55 sc6 y6_1 z19 (Int32.ofInt (-1)) hIc6 hFc6 (in_w 0 1000 i11 rfl) (in_w 40 124 i26x1 rfl) (in_w (-1) (-1) (in_c (-1) rfl) rfl)))
              · skip
                exact n_eq c49 i26x1 (in_c 40 rfl) rfl
            · skip
              exact n_ne c34 (in_c (-1) rfl) (in_c (-1) rfl) rfl
        · skip
          have i26x1 := sw_eq c26x1
          refine g_iconst (-1) 93 (gd rfl) rfl rfl ?_
          refine g_ireturn (gd rfl) rfl rfl (hp26 _ _ ?_)
          show GG _ _ _ _ _ _ _ _ [.int (Int32.ofInt (-1))] _ _ _
          refine g_istore 31 (gd rfl) rfl (Nat.le_of_ble_eq_true rfl) ?_
          refine g_iload 33 (gd rfl) rfl rfl ?_
          refine g_iconst (-1) 34 (gd rfl) rfl rfl ?_
          refine g_cmp_eq 37 45 (gd rfl) rfl rfl (fun c34 => ?_) (fun c34 => ?_)
          · skip
            refine g_iload 47 (gd rfl) rfl rfl ?_
            refine g_bipush 40 49 (gd rfl) rfl rfl ?_
            refine g_cmp_ne 52 55 (gd rfl) rfl rfl (fun c49 => ?_) (fun c49 => ?_)
            · skip
              exact gg_w (by first | exact Nat.le_add_right _ _ | exact gw2 | exact gw3 | exact gwe rfl | exact gwf rfl | exact gwg rfl | exact gwh rfl | omega) (gg_f (gf_cons rfl (gf_cons rfl (gf_cons rfl (gf_cons rfl (gf_cons rfl (gf_cons rfl gf_nil)))))) (ct55 sc6 y6_1 z19 (Int32.ofInt (-1)) hIc6 hFc6 (in_w 0 1000 i11 rfl) (in_w 40 124 i26x1 rfl) (in_w (-1) (-1) (in_c (-1) rfl) rfl)))
            · skip
              exact n_eq c49 i26x1 (in_c 40 rfl) rfl
          · skip
            exact n_ne c34 (in_c (-1) rfl) (in_c (-1) rfl) rfl
        · skip
          refine g_iload_n 95 (gd rfl) rfl rfl ?_
          refine g_calls (As := [.int z19]) (r := []) 98 (gd rfl) rfl rfl rfl rfl rfl (Nat.le_of_ble_eq_true rfl) (mc := 0) (ms := 0) (Nat.zero_le _) (Nat.zero_le _) (P := fun v u => _) ?_ (fun v u h => h)
          intro po26x95 xx26x95 hp26x95 hx26x95
          refine g_enter2 (k := 157) (N := 300) (by first | exact dq1 hd rfl | exact dq0 hd rfl | exact dq2 hd rfl | exact dq3 hd rfl | omega) rfl (Nat.le_of_ble_eq_true rfl) ?_
          refine g_iload_n 1 (gd rfl) rfl rfl ?_
          refine g_bipush 46 3 (gd rfl) rfl rfl ?_
          refine g_cmp_eq 6 18 (gd rfl) rfl rfl (fun c26x95x3 => ?_) (fun c26x95x3 => ?_)
          · skip
            have i26x95x3 := r_eq1 46 46 c26x95x3 i19 (in_c 46 rfl) rfl
            refine g_iconst 1 19 (gd rfl) rfl rfl ?_
            refine g_goto 23 (gd rfl) rfl ?_
            refine g_ireturn (gd rfl) rfl (nb01 (in_w 0 1 (in_c 1 rfl) rfl)) (hp26x95 _ _ ?_)
            show GG _ _ _ _ _ _ _ _ [.int (Int32.ofInt 1)] _ _ _
            refine g_if_eq 101 105 (gd rfl) rfl rfl (fun c26x98 => ?_) (fun c26x98 => ?_)
            · skip
              exact zn_eq c26x98 (in_c 1 rfl) rfl
            · skip
              refine g_iconst (-1) 102 (gd rfl) rfl rfl ?_
              refine g_goto 106 (gd rfl) rfl ?_
              refine g_ireturn (gd rfl) rfl rfl (hp26 _ _ ?_)
              show GG _ _ _ _ _ _ _ _ [.int (Int32.ofInt (-1))] _ _ _
              refine g_istore 31 (gd rfl) rfl (Nat.le_of_ble_eq_true rfl) ?_
              refine g_iload 33 (gd rfl) rfl rfl ?_
              refine g_iconst (-1) 34 (gd rfl) rfl rfl ?_
              refine g_cmp_eq 37 45 (gd rfl) rfl rfl (fun c34 => ?_) (fun c34 => ?_)
              · skip
                refine g_iload 47 (gd rfl) rfl rfl ?_
                refine g_bipush 40 49 (gd rfl) rfl rfl ?_
                refine g_cmp_ne 52 55 (gd rfl) rfl rfl (fun c49 => ?_) (fun c49 => ?_)
                · skip
                  exact gg_w (by first | exact Nat.le_add_right _ _ | exact gw2 | exact gw3 | exact gwe rfl | exact gwf rfl | exact gwg rfl | exact gwh rfl | omega) (gg_f (gf_cons rfl (gf_cons rfl (gf_cons rfl (gf_cons rfl (gf_cons rfl (gf_cons rfl gf_nil)))))) (ct55 sc6 y6_1 z19 (Int32.ofInt (-1)) hIc6 hFc6 (in_w 0 1000 i11 rfl) (in_w 40 124 i26x95x3 rfl) (in_w (-1) (-1) (in_c (-1) rfl) rfl)))
                · skip
                  exact n_eq c49 i26x95x3 (in_c 40 rfl) rfl
              · skip
                exact n_ne c34 (in_c (-1) rfl) (in_c (-1) rfl) rfl
          · skip
            refine g_iload_n 7 (gd rfl) rfl rfl ?_
            refine g_bipush 97 9 (gd rfl) rfl rfl ?_
            refine g_cmp_lt 12 22 (gd rfl) rfl rfl (fun c26x95x9 => ?_) (fun c26x95x9 => ?_)
            · skip
              have i26x95x9 := r_lt1 0 96 c26x95x9 i19 (in_c 97 rfl) rfl
              refine g_iconst 0 23 (gd rfl) rfl rfl ?_
              refine g_ireturn (gd rfl) rfl (nb01 (in_w 0 1 (in_c 0 rfl) rfl)) (hp26x95 _ _ ?_)
              show GG _ _ _ _ _ _ _ _ [.int (Int32.ofInt 0)] _ _ _
              refine g_if_eq 101 105 (gd rfl) rfl rfl (fun c26x98 => ?_) (fun c26x98 => ?_)
              · skip
                refine g_iconst 1 106 (gd rfl) rfl rfl ?_
                refine g_ireturn (gd rfl) rfl rfl (hp26 _ _ ?_)
                show GG _ _ _ _ _ _ _ _ [.int (Int32.ofInt 1)] _ _ _
                refine g_istore 31 (gd rfl) rfl (Nat.le_of_ble_eq_true rfl) ?_
                refine g_iload 33 (gd rfl) rfl rfl ?_
                refine g_iconst (-1) 34 (gd rfl) rfl rfl ?_
                refine g_cmp_eq 37 45 (gd rfl) rfl rfl (fun c34 => ?_) (fun c34 => ?_)
                · skip
                  exact n_eq c34 (in_c 1 rfl) (in_c (-1) rfl) rfl
                · skip
                  refine g_aload_n 38 (gd rfl) rfl rfl ?_
                  refine g_iload 40 (gd rfl) rfl rfl ?_
                  refine g_iload_n 41 (gd rfl) rfl rfl ?_
                  refine g_callv (X := _) (As := [.int (Int32.ofInt 1), .int y6_3]) (r := []) (b := A 46) (q := 46) 44 (gd rfl) rfl rfl rfl rfl rfl (ww_o rfl) (Nat.le_of_ble_eq_true rfl) (Nat.zero_le _) (Nat.zero_le _) (k_168_46 (by first | exact dq1 hd rfl | exact dq0 hd rfl | exact dq2 hd rfl | exact dq3 hd rfl | omega) hIc6 (in_w 1 5 (in_c 1 rfl) rfl) (in_w 0 1000 i11 rfl)) (fun e u h => h) (fun v u h => ?_)
                  obtain ⟨s41, hI41, hF41, z41, rfl, rfl, i41⟩ := h
                  show GG _ _ _ _ _ _ _ _ [.int z41] _ _ _
                  exact g_ireturn (gd rfl) rfl (nb01 (in_w 0 1 i41 rfl)) (hP _ _ ⟨s41, hI41, (fr_tr rfl hFc6 hF41), z41, rfl, rfl, in_w 0 1 i41 rfl⟩)
              · skip
                exact zn_ne c26x98 (in_c 0 rfl) rfl
            · skip
              have i26x95x9 := r_le2 97 65535 c26x95x9 (in_c 97 rfl) i19 rfl
              refine g_iload_n 13 (gd rfl) rfl rfl ?_
              refine g_bipush 122 15 (gd rfl) rfl rfl ?_
              refine g_cmp_gt 18 22 (gd rfl) rfl rfl (fun c26x95x15 => ?_) (fun c26x95x15 => ?_)
              · skip
                have i26x95x15 := r_lt2 123 65535 c26x95x15 (in_c 122 rfl) i26x95x9 rfl
                refine g_iconst 0 23 (gd rfl) rfl rfl ?_
                refine g_ireturn (gd rfl) rfl (nb01 (in_w 0 1 (in_c 0 rfl) rfl)) (hp26x95 _ _ ?_)
                show GG _ _ _ _ _ _ _ _ [.int (Int32.ofInt 0)] _ _ _
                refine g_if_eq 101 105 (gd rfl) rfl rfl (fun c26x98 => ?_) (fun c26x98 => ?_)
                · skip
                  refine g_iconst 1 106 (gd rfl) rfl rfl ?_
                  refine g_ireturn (gd rfl) rfl rfl (hp26 _ _ ?_)
                  show GG _ _ _ _ _ _ _ _ [.int (Int32.ofInt 1)] _ _ _
                  refine g_istore 31 (gd rfl) rfl (Nat.le_of_ble_eq_true rfl) ?_
                  refine g_iload 33 (gd rfl) rfl rfl ?_
                  refine g_iconst (-1) 34 (gd rfl) rfl rfl ?_
                  refine g_cmp_eq 37 45 (gd rfl) rfl rfl (fun c34 => ?_) (fun c34 => ?_)
                  · skip
                    exact n_eq c34 (in_c 1 rfl) (in_c (-1) rfl) rfl
                  · skip
                    refine g_aload_n 38 (gd rfl) rfl rfl ?_
                    refine g_iload 40 (gd rfl) rfl rfl ?_
                    refine g_iload_n 41 (gd rfl) rfl rfl ?_
                    refine g_callv (X := _) (As := [.int (Int32.ofInt 1), .int y6_3]) (r := []) (b := A 46) (q := 46) 44 (gd rfl) rfl rfl rfl rfl rfl (ww_o rfl) (Nat.le_of_ble_eq_true rfl) (Nat.zero_le _) (Nat.zero_le _) (k_168_46 (by first | exact dq1 hd rfl | exact dq0 hd rfl | exact dq2 hd rfl | exact dq3 hd rfl | omega) hIc6 (in_w 1 5 (in_c 1 rfl) rfl) (in_w 0 1000 i11 rfl)) (fun e u h => h) (fun v u h => ?_)
                    obtain ⟨s41, hI41, hF41, z41, rfl, rfl, i41⟩ := h
                    show GG _ _ _ _ _ _ _ _ [.int z41] _ _ _
                    exact g_ireturn (gd rfl) rfl (nb01 (in_w 0 1 i41 rfl)) (hP _ _ ⟨s41, hI41, (fr_tr rfl hFc6 hF41), z41, rfl, rfl, in_w 0 1 i41 rfl⟩)
                · skip
                  exact zn_ne c26x98 (in_c 0 rfl) rfl
              · skip
                have i26x95x15 := r_le1 97 122 c26x95x15 i26x95x9 (in_c 122 rfl) rfl
                refine g_iconst 1 19 (gd rfl) rfl rfl ?_
                refine g_goto 23 (gd rfl) rfl ?_
                refine g_ireturn (gd rfl) rfl (nb01 (in_w 0 1 (in_c 1 rfl) rfl)) (hp26x95 _ _ ?_)
                show GG _ _ _ _ _ _ _ _ [.int (Int32.ofInt 1)] _ _ _
                refine g_if_eq 101 105 (gd rfl) rfl rfl (fun c26x98 => ?_) (fun c26x98 => ?_)
                · skip
                  exact zn_eq c26x98 (in_c 1 rfl) rfl
                · skip
                  refine g_iconst (-1) 102 (gd rfl) rfl rfl ?_
                  refine g_goto 106 (gd rfl) rfl ?_
                  refine g_ireturn (gd rfl) rfl rfl (hp26 _ _ ?_)
                  show GG _ _ _ _ _ _ _ _ [.int (Int32.ofInt (-1))] _ _ _
                  refine g_istore 31 (gd rfl) rfl (Nat.le_of_ble_eq_true rfl) ?_
                  refine g_iload 33 (gd rfl) rfl rfl ?_
                  refine g_iconst (-1) 34 (gd rfl) rfl rfl ?_
                  refine g_cmp_eq 37 45 (gd rfl) rfl rfl (fun c34 => ?_) (fun c34 => ?_)
                  · skip
                    refine g_iload 47 (gd rfl) rfl rfl ?_
                    refine g_bipush 40 49 (gd rfl) rfl rfl ?_
                    refine g_cmp_ne 52 55 (gd rfl) rfl rfl (fun c49 => ?_) (fun c49 => ?_)
                    · skip
                      exact gg_w (by first | exact Nat.le_add_right _ _ | exact gw2 | exact gw3 | exact gwe rfl | exact gwf rfl | exact gwg rfl | exact gwh rfl | omega) (gg_f (gf_cons rfl (gf_cons rfl (gf_cons rfl (gf_cons rfl (gf_cons rfl (gf_cons rfl gf_nil)))))) (ct55 sc6 y6_1 z19 (Int32.ofInt (-1)) hIc6 hFc6 (in_w 0 1000 i11 rfl) (in_w 40 124 i26x95x15 rfl) (in_w (-1) (-1) (in_c (-1) rfl) rfl)))
                    · skip
                      exact n_eq c49 i26x95x15 (in_c 40 rfl) rfl
                  · skip
                    exact n_ne c34 (in_c (-1) rfl) (in_c (-1) rfl) rfl
  refine g_enter2 (k := 155) (N := 7215008) (by first | exact dq1 hd rfl | exact dq0 hd rfl | exact dq2 hd rfl | exact dq3 hd rfl | omega) rfl (Nat.le_of_ble_eq_true rfl) ?_
  refine g_iconst 0 1 (gd rfl) rfl rfl ?_
  refine g_istore_n 2 (gd rfl) rfl (Nat.le_of_ble_eq_true rfl) ?_
  refine g_iconst 0 3 (gd rfl) rfl rfl ?_
  refine g_istore_n 4 (gd rfl) rfl (Nat.le_of_ble_eq_true rfl) ?_
  refine g_iconst 0 5 (gd rfl) rfl rfl ?_
  refine g_istore_n 6 (gd rfl) rfl (Nat.le_of_ble_eq_true rfl) ?_
  exact gg_w (by first | exact Nat.le_of_ble_eq_true rfl | omega) (gg_f (gf_cons rfl (gf_cons rfl (gf_cons rfl (gf_cons rfl gf_nil)))) (ct6 2002 s (Int32.ofInt 0) (Int32.ofInt 0) (Int32.ofInt 0) hI fr_rf (in_w 0 1 (in_c 0 rfl) rfl) (in_w 0 2001 (in_c 0 rfl) rfl) (m_in 2002 (in_w 0 2001 (in_c 0 rfl) rfl) rfl)))
end
section
/-! methods, by vc.py -/
def fm_158_94_46 : FM := ([97], [95, 96, 98], [], [(94, 0), (94, 1)])
/-- GraphHouse$Question.build -/
theorem k_158_94_46 {Z : AmZ} {A : Nat → Nat} {s : GS} {ex : va_W} {d : Nat} {X : AmX} {u_46_1 : Int32} (hd : 5 ≤ d) (hI : Inv s) (e_46_1 : u_46_1 = s.2.2.1 46 1) (r_46_1 : In u_46_1 0 60) : GC Z d 158 [.ref (A 94), .ref (A 46)] (WW Z A s ++ ex) 0 0 (fun v u => ∃ t : GS, Inv t ∧ Fr fm_158_94_46 s t ∧ v = none ∧ u = WW Z A t ++ ex) X := by
  intro post xp hP hX
  have ct42 : ∀ (k42 : Nat) (sc42 : GS) (y42_2 : Int32) (y42_3 : Int32), Inv sc42 → Fr fm_158_94_46 s sc42 → (In y42_2 0 10) → (In y42_3 0 60) → 60 - (y42_3).toInt < (k42 : Int) → GG Z (d - 1) 158 post (gx xp) (1 + k42 * 900) 42 (fun j => xlook j [(0, .ref (A 94)), (1, .ref (A 46)), (2, .int y42_2), (3, .int y42_3)]) [] (WW Z A sc42 ++ ex) 0 0 := by
    intro k42
    induction k42 with
    | zero => intro sc42 y42_2 y42_3 hIc42 hFc42 j42_2 j42_3 mm42; exact m_no mm42 j42_3 rfl
    | succ k42 ih42 =>
      intro sc42 y42_2 y42_3 hIc42 hFc42 j42_2 j42_3 mm42
      refine gg_w (M := 1 + k42 * 900 + 900) gws ?_
      refine g_iload_n 43 (gd rfl) rfl rfl ?_
      refine g_aload_n 44 (gd rfl) rfl rfl ?_
      refine g_getI 47 (gd rfl) rfl rfl rfl (fun z44 e44 => ?_)
      have q44 : u_46_1 = z44 := (fr_F e_46_1 hFc42 rfl).trans e44.symm
      subst q44
      refine g_cmp_ge 50 170 (gd rfl) rfl rfl (fun c47 => ?_) (fun c47 => ?_)
      · skip
        refine g_aload_n 171 (gd rfl) rfl rfl ?_
        refine g_aload_n 172 (gd rfl) rfl rfl ?_
        refine g_getA (q2 := 98) 175 (gd rfl) rfl rfl rfl rfl ?_
        refine g_iconst 0 176 (gd rfl) rfl rfl ?_
        refine g_laload 177 (gd rfl) rfl (n := 11) rfl (in_ix (in_c 0 rfl) rfl) (fun z176 e176 => ?_)
        have i176 := inv_L hIc42 (n := 11) 0 1152921504606846975 rfl (in_ix (in_c 0 rfl) rfl) rfl e176
        refine g_aload_n 178 (gd rfl) rfl rfl ?_
        refine g_getL 181 (gd rfl) rfl rfl rfl (fun z178 e178 => ?_)
        have i178 := inv_G hIc42 0 2305843009213693951 rfl e178
        have p181 : InL z176 0 1152921504606846975 := by exact lw 0 1152921504606846975 i176 rfl
        have p181a : InL z178 0 2305843009213693951 := by exact lw 0 2305843009213693951 i178 rfl
        refine g_callv (X := _) (As := [.long z176, .long z178]) (r := []) (b := A 94) (q := 94) 184 (gd rfl) rfl rfl rfl rfl rfl (ww_o rfl) (Nat.le_of_ble_eq_true rfl) (Nat.zero_le _) (Nat.zero_le _) (k_159_94 (by first | exact dq1 hd rfl | exact dq0 hd rfl | exact dq2 hd rfl | exact dq3 hd rfl | omega) hIc42 p181 p181a) (fun e u h => h) (fun v u h => ?_)
        obtain ⟨s181, hI181, hF181, rfl, rfl⟩ := h
        show GG _ _ _ _ _ _ _ _ [] _ _ _
        refine g_aload_n 185 (gd rfl) rfl rfl ?_
        refine g_aload_n 186 (gd rfl) rfl rfl ?_
        refine g_getI 189 (gd rfl) rfl rfl rfl (fun z186 e186 => ?_)
        have q186 : u_46_1 = z186 := (fr_F (fr_F e_46_1 hFc42 rfl) hF181 rfl).trans e186.symm
        subst q186
        refine g_callv (X := _) (As := [.int u_46_1]) (r := []) (b := A 94) (q := 94) 192 (gd rfl) rfl rfl rfl rfl rfl (ww_o rfl) (Nat.le_of_ble_eq_true rfl) (Nat.zero_le _) (Nat.zero_le _) (k_162_94 (by first | exact dq1 hd rfl | exact dq0 hd rfl | exact dq2 hd rfl | exact dq3 hd rfl | omega) hI181 (in_w 0 60 r_46_1 rfl)) (fun e u h => h) (fun v u h => ?_)
        obtain ⟨s189, hI189, hF189, rfl, rfl⟩ := h
        show GG _ _ _ _ _ _ _ _ [] _ _ _
        exact g_return (gd rfl) rfl (hP _ _ ⟨s189, hI189, (fr_tr rfl (fr_tr rfl hFc42 hF181) hF189), rfl, rfl⟩)
      · skip
        have i47 := r_lt1 0 59 c47 j42_3 r_46_1 rfl
        have i47a := r_lt2 1 60 c47 j42_3 r_46_1 rfl
        refine g_aload_n 51 (gd rfl) rfl rfl ?_
        refine g_getA (q2 := 47) 54 (gd rfl) rfl rfl rfl rfl ?_
        refine g_iload_n 55 (gd rfl) rfl rfl ?_
        refine g_caload 56 (gd rfl) rfl (n := 1000) rfl (in_ix i47 rfl) (fun z55 e55 => ?_)
        have i55 := inv_I hIc42 (n := 1000) (t := 2) 0 65535 rfl (in_ix i47 rfl) rfl e55
        refine g_istore 58 (gd rfl) rfl (Nat.le_of_ble_eq_true rfl) ?_
        refine g_iload_n 59 (gd rfl) rfl rfl ?_
        refine g_istore 61 (gd rfl) rfl (Nat.le_of_ble_eq_true rfl) ?_
        refine g_iload 63 (gd rfl) rfl rfl ?_
        refine g_bipush 40 65 (gd rfl) rfl rfl ?_
        refine g_cmp_ne 68 94 (gd rfl) rfl rfl (fun c65 => ?_) (fun c65 => ?_)
        · skip
          refine g_iload 96 (gd rfl) rfl rfl ?_
          refine g_bipush 41 98 (gd rfl) rfl rfl ?_
          refine g_cmp_ne 101 129 (gd rfl) rfl rfl (fun c98 => ?_) (fun c98 => ?_)
          · skip
            refine g_aload_n 130 (gd rfl) rfl rfl ?_
            refine g_iload 132 (gd rfl) rfl rfl ?_
            refine g_iload_n 133 (gd rfl) rfl rfl ?_
            refine g_iload_n 134 (gd rfl) rfl rfl ?_
            refine g_callv (X := _) (As := [.int z55, .int y42_3, .int y42_2]) (r := []) (b := A 94) (q := 94) 137 (gd rfl) rfl rfl rfl rfl rfl (ww_o rfl) (Nat.le_of_ble_eq_true rfl) (Nat.zero_le _) (Nat.zero_le _) (k_160_94 (by first | exact dq1 hd rfl | exact dq0 hd rfl | exact dq2 hd rfl | exact dq3 hd rfl | omega) hIc42 (in_w 0 65535 i55 rfl) (in_w 0 59 i47 rfl) (in_w 0 10 j42_2 rfl)) (fun e u h => h) (fun v u h => ?_)
            obtain ⟨s134, hI134, hF134, rfl, rfl⟩ := h
            show GG _ _ _ _ _ _ _ _ [] _ _ _
            refine g_iload_n 138 (gd rfl) rfl rfl ?_
            refine g_iconst 1 139 (gd rfl) rfl rfl ?_
            refine g_iadd 140 (gd rfl) rfl (fun z139 e139 => ?_)
            have i139 := in_add 1 60 e139 i47 (in_c 1 rfl) rfl rfl
            refine g_aload_n 141 (gd rfl) rfl rfl ?_
            refine g_getI 144 (gd rfl) rfl rfl rfl (fun z141 e141 => ?_)
            have q141 : u_46_1 = z141 := (fr_F (fr_F e_46_1 hFc42 rfl) hF134 rfl).trans e141.symm
            subst q141
            refine g_cmp_ge 147 164 (gd rfl) rfl rfl (fun c144 => ?_) (fun c144 => ?_)
            · skip
              refine g_iinc 167 (gd rfl) rfl rfl (Nat.le_of_ble_eq_true rfl) (fun z164 e164 => ?_)
              have i164 := in_add 1 60 e164 i47 (in_c 1 rfl) rfl rfl
              refine g_goto 42 (gd rfl) rfl ?_
              exact gg_w (by first | exact Nat.le_add_right _ _ | exact gw2 | exact gw3 | exact gwe rfl | exact gwf rfl | exact gwg rfl | exact gwh rfl | omega) (gg_f (gf_cons rfl (gf_cons rfl (gf_cons rfl (gf_cons rfl gf_nil)))) (ih42 s134 y42_2 z164 hI134 (fr_tr rfl hFc42 hF134) (in_w 0 10 j42_2 rfl) (in_w 0 60 i164 rfl) (m_up mm42 (t_add e164 i47 (in_c 1 rfl) rfl) (in_w 1 1 (in_c 1 rfl) rfl))))
            · skip
              have i144 := r_lt1 1 59 c144 i139 i47a rfl
              have i144a := r_lt2 2 60 c144 i139 i47a rfl
              refine g_aload_n 148 (gd rfl) rfl rfl ?_
              refine g_aload_n 149 (gd rfl) rfl rfl ?_
              refine g_getA (q2 := 47) 152 (gd rfl) rfl rfl rfl rfl ?_
              refine g_iload_n 153 (gd rfl) rfl rfl ?_
              refine g_iconst 1 154 (gd rfl) rfl rfl ?_
              refine g_iadd 155 (gd rfl) rfl (fun z154 e154 => ?_)
              have i154 := in_add 1 60 e154 i47 (in_c 1 rfl) rfl rfl
              refine g_caload 156 (gd rfl) rfl (n := 1000) rfl (in_ix i154 rfl) (fun z155 e155 => ?_)
              have i155 := inv_I hI134 (n := 1000) (t := 2) 0 65535 rfl (in_ix i154 rfl) rfl e155
              refine g_iload 158 (gd rfl) rfl rfl ?_
              refine g_iload_n 159 (gd rfl) rfl rfl ?_
              refine g_iconst 1 160 (gd rfl) rfl rfl ?_
              refine g_iadd 161 (gd rfl) rfl (fun z160 e160 => ?_)
              have i160 := in_add 1 60 e160 i47 (in_c 1 rfl) rfl rfl
              refine g_callv (X := _) (As := [.int z155, .int y42_3, .int z160]) (r := []) (b := A 94) (q := 94) 164 (gd rfl) rfl rfl rfl rfl rfl (ww_o rfl) (Nat.le_of_ble_eq_true rfl) (mc := 0) (ms := 0) (Nat.zero_le _) (Nat.zero_le _) (P := fun v u => _) ?_ (fun e u h => h) (fun v u h => h)
              intro po161 xx161 hp161 hx161
              refine g_enter2 (k := 161) (N := 300) (by first | exact dq1 hd rfl | exact dq0 hd rfl | exact dq2 hd rfl | exact dq3 hd rfl | omega) rfl (Nat.le_of_ble_eq_true rfl) ?_
              refine g_iload_n 1 (gd rfl) rfl rfl ?_
              refine g_bipush 42 3 (gd rfl) rfl rfl ?_
              refine g_cmp_eq 6 12 (gd rfl) rfl rfl (fun c161x3 => ?_) (fun c161x3 => ?_)
              · skip
                have i161x3 := r_eq1 42 42 c161x3 i155 (in_c 42 rfl) rfl
                refine g_aload_n 13 (gd rfl) rfl rfl ?_
                refine g_getA (q2 := 95) 16 (gd rfl) rfl rfl rfl rfl ?_
                refine g_iload_n 17 (gd rfl) rfl rfl ?_
                refine g_dup2 18 (gd rfl) rfl rfl rfl ?_
                refine g_laload 19 (gd rfl) rfl (n := 61) rfl (in_ix i160 rfl) (fun z161x18 e161x18 => ?_)
                have i161x18 := inv_L hI134 (n := 61) 0 2305843009213693951 rfl (in_ix i160 rfl) rfl e161x18
                refine g_lconst 1 20 (gd rfl) rfl rfl ?_
                refine g_iload_n 21 (gd rfl) rfl rfl ?_
                refine g_lshl 22 (gd rfl) rfl (fun z161x21 e161x21 => ?_)
                have i161x21 := l_shl 59 e161x21 i47 rfl
                refine g_lor 23 (gd rfl) rfl (fun z161x22 e161x22 => ?_)
                have i161x22 := inl_or 61 e161x22 (lw 0 2305843009213693951 i161x18 rfl) (lw 0 2305843009213693951 i161x21 rfl) rfl
                refine g_lastore 24 (gd rfl) rfl (n := 61) rfl (in_ix i160 rfl) ?_
                have hI161x23 := inv_sL (q := 95) (j := z160.toNatClampNeg) (x := z161x22) hI134 rfl (lw 0 2305843009213693951 i161x22 rfl)
                refine g_iload_n 25 (gd rfl) rfl rfl ?_
                refine g_bipush 42 27 (gd rfl) rfl rfl ?_
                refine g_cmp_eq 30 36 (gd rfl) rfl rfl (fun c161x27 => ?_) (fun c161x27 => ?_)
                · skip
                  refine g_aload_n 37 (gd rfl) rfl rfl ?_
                  refine g_getA (q2 := 95) 40 (gd rfl) rfl rfl rfl rfl ?_
                  refine g_iload_n 41 (gd rfl) rfl rfl ?_
                  refine g_dup2 42 (gd rfl) rfl rfl rfl ?_
                  refine g_laload 43 (gd rfl) rfl (n := 61) rfl (in_ix i47 rfl) (fun z161x42 e161x42 => ?_)
                  have i161x42 := inv_L hI161x23 (n := 61) 0 2305843009213693951 rfl (in_ix i47 rfl) rfl e161x42
                  refine g_lconst 1 44 (gd rfl) rfl rfl ?_
                  refine g_iload_n 45 (gd rfl) rfl rfl ?_
                  refine g_lshl 46 (gd rfl) rfl (fun z161x45 e161x45 => ?_)
                  have i161x45 := l_shl 60 e161x45 i160 rfl
                  refine g_lor 47 (gd rfl) rfl (fun z161x46 e161x46 => ?_)
                  have i161x46 := inl_or 61 e161x46 (lw 0 2305843009213693951 i161x42 rfl) (lw 0 2305843009213693951 i161x45 rfl) rfl
                  refine g_lastore 48 (gd rfl) rfl (n := 61) rfl (in_ix i47 rfl) ?_
                  have hI161x47 := inv_sL (q := 95) (j := y42_3.toNatClampNeg) (x := z161x46) hI161x23 rfl (lw 0 2305843009213693951 i161x46 rfl)
                  refine g_return (gd rfl) rfl (hp161 _ _ ?_)
                  show GG _ _ _ _ _ _ _ _ [] _ _ _
                  refine g_iinc 167 (gd rfl) rfl rfl (Nat.le_of_ble_eq_true rfl) (fun z164 e164 => ?_)
                  have i164 := in_add 1 60 e164 i47 (in_c 1 rfl) rfl rfl
                  refine g_goto 42 (gd rfl) rfl ?_
                  exact gg_w (by first | exact Nat.le_add_right _ _ | exact gw2 | exact gw3 | exact gwe rfl | exact gwf rfl | exact gwg rfl | exact gwh rfl | omega) (gg_f (gf_cons rfl (gf_cons rfl (gf_cons rfl (gf_cons rfl gf_nil)))) (ih42 (sL (sL s134 95 z160.toNatClampNeg z161x22) 95 y42_3.toNatClampNeg z161x46) y42_2 z164 hI161x47 (fr_sL rfl (fr_sL rfl (fr_tr rfl hFc42 hF134))) (in_w 0 10 j42_2 rfl) (in_w 0 60 i164 rfl) (m_up mm42 (t_add e164 i47 (in_c 1 rfl) rfl) (in_w 1 1 (in_c 1 rfl) rfl))))
                · skip
                  exact n_ne c161x27 i161x3 (in_c 42 rfl) rfl
              · skip
                refine g_iload_n 7 (gd rfl) rfl rfl ?_
                refine g_bipush 43 9 (gd rfl) rfl rfl ?_
                refine g_cmp_ne 12 24 (gd rfl) rfl rfl (fun c161x9 => ?_) (fun c161x9 => ?_)
                · skip
                  refine g_iload_n 25 (gd rfl) rfl rfl ?_
                  refine g_bipush 42 27 (gd rfl) rfl rfl ?_
                  refine g_cmp_eq 30 36 (gd rfl) rfl rfl (fun c161x27 => ?_) (fun c161x27 => ?_)
                  · skip
                    exact absurd c161x27 c161x3
                  · skip
                    refine g_iload_n 31 (gd rfl) rfl rfl ?_
                    refine g_bipush 63 33 (gd rfl) rfl rfl ?_
                    refine g_cmp_ne 36 48 (gd rfl) rfl rfl (fun c161x33 => ?_) (fun c161x33 => ?_)
                    · skip
                      refine g_return (gd rfl) rfl (hp161 _ _ ?_)
                      show GG _ _ _ _ _ _ _ _ [] _ _ _
                      refine g_iinc 167 (gd rfl) rfl rfl (Nat.le_of_ble_eq_true rfl) (fun z164 e164 => ?_)
                      have i164 := in_add 1 60 e164 i47 (in_c 1 rfl) rfl rfl
                      refine g_goto 42 (gd rfl) rfl ?_
                      exact gg_w (by first | exact Nat.le_add_right _ _ | exact gw2 | exact gw3 | exact gwe rfl | exact gwf rfl | exact gwg rfl | exact gwh rfl | omega) (gg_f (gf_cons rfl (gf_cons rfl (gf_cons rfl (gf_cons rfl gf_nil)))) (ih42 s134 y42_2 z164 hI134 (fr_tr rfl hFc42 hF134) (in_w 0 10 j42_2 rfl) (in_w 0 60 i164 rfl) (m_up mm42 (t_add e164 i47 (in_c 1 rfl) rfl) (in_w 1 1 (in_c 1 rfl) rfl))))
                    · skip
                      have i161x33 := r_eq1 63 63 c161x33 i155 (in_c 63 rfl) rfl
                      refine g_aload_n 37 (gd rfl) rfl rfl ?_
                      refine g_getA (q2 := 95) 40 (gd rfl) rfl rfl rfl rfl ?_
                      refine g_iload_n 41 (gd rfl) rfl rfl ?_
                      refine g_dup2 42 (gd rfl) rfl rfl rfl ?_
                      refine g_laload 43 (gd rfl) rfl (n := 61) rfl (in_ix i47 rfl) (fun z161x42 e161x42 => ?_)
                      have i161x42 := inv_L hI134 (n := 61) 0 2305843009213693951 rfl (in_ix i47 rfl) rfl e161x42
                      refine g_lconst 1 44 (gd rfl) rfl rfl ?_
                      refine g_iload_n 45 (gd rfl) rfl rfl ?_
                      refine g_lshl 46 (gd rfl) rfl (fun z161x45 e161x45 => ?_)
                      have i161x45 := l_shl 60 e161x45 i160 rfl
                      refine g_lor 47 (gd rfl) rfl (fun z161x46 e161x46 => ?_)
                      have i161x46 := inl_or 61 e161x46 (lw 0 2305843009213693951 i161x42 rfl) (lw 0 2305843009213693951 i161x45 rfl) rfl
                      refine g_lastore 48 (gd rfl) rfl (n := 61) rfl (in_ix i47 rfl) ?_
                      have hI161x47 := inv_sL (q := 95) (j := y42_3.toNatClampNeg) (x := z161x46) hI134 rfl (lw 0 2305843009213693951 i161x46 rfl)
                      refine g_return (gd rfl) rfl (hp161 _ _ ?_)
                      show GG _ _ _ _ _ _ _ _ [] _ _ _
                      refine g_iinc 167 (gd rfl) rfl rfl (Nat.le_of_ble_eq_true rfl) (fun z164 e164 => ?_)
                      have i164 := in_add 1 60 e164 i47 (in_c 1 rfl) rfl rfl
                      refine g_goto 42 (gd rfl) rfl ?_
                      exact gg_w (by first | exact Nat.le_add_right _ _ | exact gw2 | exact gw3 | exact gwe rfl | exact gwf rfl | exact gwg rfl | exact gwh rfl | omega) (gg_f (gf_cons rfl (gf_cons rfl (gf_cons rfl (gf_cons rfl gf_nil)))) (ih42 (sL s134 95 y42_3.toNatClampNeg z161x46) y42_2 z164 hI161x47 (fr_sL rfl (fr_tr rfl hFc42 hF134)) (in_w 0 10 j42_2 rfl) (in_w 0 60 i164 rfl) (m_up mm42 (t_add e164 i47 (in_c 1 rfl) rfl) (in_w 1 1 (in_c 1 rfl) rfl))))
                · skip
                  have i161x9 := r_eq1 43 43 c161x9 i155 (in_c 43 rfl) rfl
                  refine g_aload_n 13 (gd rfl) rfl rfl ?_
                  refine g_getA (q2 := 95) 16 (gd rfl) rfl rfl rfl rfl ?_
                  refine g_iload_n 17 (gd rfl) rfl rfl ?_
                  refine g_dup2 18 (gd rfl) rfl rfl rfl ?_
                  refine g_laload 19 (gd rfl) rfl (n := 61) rfl (in_ix i160 rfl) (fun z161x18 e161x18 => ?_)
                  have i161x18 := inv_L hI134 (n := 61) 0 2305843009213693951 rfl (in_ix i160 rfl) rfl e161x18
                  refine g_lconst 1 20 (gd rfl) rfl rfl ?_
                  refine g_iload_n 21 (gd rfl) rfl rfl ?_
                  refine g_lshl 22 (gd rfl) rfl (fun z161x21 e161x21 => ?_)
                  have i161x21 := l_shl 59 e161x21 i47 rfl
                  refine g_lor 23 (gd rfl) rfl (fun z161x22 e161x22 => ?_)
                  have i161x22 := inl_or 61 e161x22 (lw 0 2305843009213693951 i161x18 rfl) (lw 0 2305843009213693951 i161x21 rfl) rfl
                  refine g_lastore 24 (gd rfl) rfl (n := 61) rfl (in_ix i160 rfl) ?_
                  have hI161x23 := inv_sL (q := 95) (j := z160.toNatClampNeg) (x := z161x22) hI134 rfl (lw 0 2305843009213693951 i161x22 rfl)
                  refine g_iload_n 25 (gd rfl) rfl rfl ?_
                  refine g_bipush 42 27 (gd rfl) rfl rfl ?_
                  refine g_cmp_eq 30 36 (gd rfl) rfl rfl (fun c161x27 => ?_) (fun c161x27 => ?_)
                  · skip
                    exact absurd c161x27 c161x3
                  · skip
                    refine g_iload_n 31 (gd rfl) rfl rfl ?_
                    refine g_bipush 63 33 (gd rfl) rfl rfl ?_
                    refine g_cmp_ne 36 48 (gd rfl) rfl rfl (fun c161x33 => ?_) (fun c161x33 => ?_)
                    · skip
                      refine g_return (gd rfl) rfl (hp161 _ _ ?_)
                      show GG _ _ _ _ _ _ _ _ [] _ _ _
                      refine g_iinc 167 (gd rfl) rfl rfl (Nat.le_of_ble_eq_true rfl) (fun z164 e164 => ?_)
                      have i164 := in_add 1 60 e164 i47 (in_c 1 rfl) rfl rfl
                      refine g_goto 42 (gd rfl) rfl ?_
                      exact gg_w (by first | exact Nat.le_add_right _ _ | exact gw2 | exact gw3 | exact gwe rfl | exact gwf rfl | exact gwg rfl | exact gwh rfl | omega) (gg_f (gf_cons rfl (gf_cons rfl (gf_cons rfl (gf_cons rfl gf_nil)))) (ih42 (sL s134 95 z160.toNatClampNeg z161x22) y42_2 z164 hI161x23 (fr_sL rfl (fr_tr rfl hFc42 hF134)) (in_w 0 10 j42_2 rfl) (in_w 0 60 i164 rfl) (m_up mm42 (t_add e164 i47 (in_c 1 rfl) rfl) (in_w 1 1 (in_c 1 rfl) rfl))))
                    · skip
                      exact n_eq c161x33 i161x9 (in_c 63 rfl) rfl
          · skip
            have i98 := r_eq1 41 41 c98 i55 (in_c 41 rfl) rfl
            refine g_iload_n 102 (gd rfl) rfl rfl ?_
            refine g_if_le 105 129 (gd rfl) rfl rfl (fun c102 => ?_) (fun c102 => ?_)
            · skip
              have i102 := z_le 0 0 c102 j42_2 rfl
              refine g_aload_n 130 (gd rfl) rfl rfl ?_
              refine g_iload 132 (gd rfl) rfl rfl ?_
              refine g_iload_n 133 (gd rfl) rfl rfl ?_
              refine g_iload_n 134 (gd rfl) rfl rfl ?_
              refine g_callv (X := _) (As := [.int z55, .int y42_3, .int y42_2]) (r := []) (b := A 94) (q := 94) 137 (gd rfl) rfl rfl rfl rfl rfl (ww_o rfl) (Nat.le_of_ble_eq_true rfl) (Nat.zero_le _) (Nat.zero_le _) (k_160_94 (by first | exact dq1 hd rfl | exact dq0 hd rfl | exact dq2 hd rfl | exact dq3 hd rfl | omega) hIc42 (in_w 0 65535 i98 rfl) (in_w 0 59 i47 rfl) (in_w 0 10 i102 rfl)) (fun e u h => h) (fun v u h => ?_)
              obtain ⟨s134, hI134, hF134, rfl, rfl⟩ := h
              show GG _ _ _ _ _ _ _ _ [] _ _ _
              refine g_iload_n 138 (gd rfl) rfl rfl ?_
              refine g_iconst 1 139 (gd rfl) rfl rfl ?_
              refine g_iadd 140 (gd rfl) rfl (fun z139 e139 => ?_)
              have i139 := in_add 1 60 e139 i47 (in_c 1 rfl) rfl rfl
              refine g_aload_n 141 (gd rfl) rfl rfl ?_
              refine g_getI 144 (gd rfl) rfl rfl rfl (fun z141 e141 => ?_)
              have q141 : u_46_1 = z141 := (fr_F (fr_F e_46_1 hFc42 rfl) hF134 rfl).trans e141.symm
              subst q141
              refine g_cmp_ge 147 164 (gd rfl) rfl rfl (fun c144 => ?_) (fun c144 => ?_)
              · skip
                refine g_iinc 167 (gd rfl) rfl rfl (Nat.le_of_ble_eq_true rfl) (fun z164 e164 => ?_)
                have i164 := in_add 1 60 e164 i47 (in_c 1 rfl) rfl rfl
                refine g_goto 42 (gd rfl) rfl ?_
                exact gg_w (by first | exact Nat.le_add_right _ _ | exact gw2 | exact gw3 | exact gwe rfl | exact gwf rfl | exact gwg rfl | exact gwh rfl | omega) (gg_f (gf_cons rfl (gf_cons rfl (gf_cons rfl (gf_cons rfl gf_nil)))) (ih42 s134 y42_2 z164 hI134 (fr_tr rfl hFc42 hF134) (in_w 0 10 i102 rfl) (in_w 0 60 i164 rfl) (m_up mm42 (t_add e164 i47 (in_c 1 rfl) rfl) (in_w 1 1 (in_c 1 rfl) rfl))))
              · skip
                have i144 := r_lt1 1 59 c144 i139 i47a rfl
                have i144a := r_lt2 2 60 c144 i139 i47a rfl
                refine g_aload_n 148 (gd rfl) rfl rfl ?_
                refine g_aload_n 149 (gd rfl) rfl rfl ?_
                refine g_getA (q2 := 47) 152 (gd rfl) rfl rfl rfl rfl ?_
                refine g_iload_n 153 (gd rfl) rfl rfl ?_
                refine g_iconst 1 154 (gd rfl) rfl rfl ?_
                refine g_iadd 155 (gd rfl) rfl (fun z154 e154 => ?_)
                have i154 := in_add 1 60 e154 i47 (in_c 1 rfl) rfl rfl
                refine g_caload 156 (gd rfl) rfl (n := 1000) rfl (in_ix i154 rfl) (fun z155 e155 => ?_)
                have i155 := inv_I hI134 (n := 1000) (t := 2) 0 65535 rfl (in_ix i154 rfl) rfl e155
                refine g_iload 158 (gd rfl) rfl rfl ?_
                refine g_iload_n 159 (gd rfl) rfl rfl ?_
                refine g_iconst 1 160 (gd rfl) rfl rfl ?_
                refine g_iadd 161 (gd rfl) rfl (fun z160 e160 => ?_)
                have i160 := in_add 1 60 e160 i47 (in_c 1 rfl) rfl rfl
                refine g_callv (X := _) (As := [.int z155, .int y42_3, .int z160]) (r := []) (b := A 94) (q := 94) 164 (gd rfl) rfl rfl rfl rfl rfl (ww_o rfl) (Nat.le_of_ble_eq_true rfl) (mc := 0) (ms := 0) (Nat.zero_le _) (Nat.zero_le _) (P := fun v u => _) ?_ (fun e u h => h) (fun v u h => h)
                intro po161 xx161 hp161 hx161
                refine g_enter2 (k := 161) (N := 300) (by first | exact dq1 hd rfl | exact dq0 hd rfl | exact dq2 hd rfl | exact dq3 hd rfl | omega) rfl (Nat.le_of_ble_eq_true rfl) ?_
                refine g_iload_n 1 (gd rfl) rfl rfl ?_
                refine g_bipush 42 3 (gd rfl) rfl rfl ?_
                refine g_cmp_eq 6 12 (gd rfl) rfl rfl (fun c161x3 => ?_) (fun c161x3 => ?_)
                · skip
                  have i161x3 := r_eq1 42 42 c161x3 i155 (in_c 42 rfl) rfl
                  refine g_aload_n 13 (gd rfl) rfl rfl ?_
                  refine g_getA (q2 := 95) 16 (gd rfl) rfl rfl rfl rfl ?_
                  refine g_iload_n 17 (gd rfl) rfl rfl ?_
                  refine g_dup2 18 (gd rfl) rfl rfl rfl ?_
                  refine g_laload 19 (gd rfl) rfl (n := 61) rfl (in_ix i160 rfl) (fun z161x18 e161x18 => ?_)
                  have i161x18 := inv_L hI134 (n := 61) 0 2305843009213693951 rfl (in_ix i160 rfl) rfl e161x18
                  refine g_lconst 1 20 (gd rfl) rfl rfl ?_
                  refine g_iload_n 21 (gd rfl) rfl rfl ?_
                  refine g_lshl 22 (gd rfl) rfl (fun z161x21 e161x21 => ?_)
                  have i161x21 := l_shl 59 e161x21 i47 rfl
                  refine g_lor 23 (gd rfl) rfl (fun z161x22 e161x22 => ?_)
                  have i161x22 := inl_or 61 e161x22 (lw 0 2305843009213693951 i161x18 rfl) (lw 0 2305843009213693951 i161x21 rfl) rfl
                  refine g_lastore 24 (gd rfl) rfl (n := 61) rfl (in_ix i160 rfl) ?_
                  have hI161x23 := inv_sL (q := 95) (j := z160.toNatClampNeg) (x := z161x22) hI134 rfl (lw 0 2305843009213693951 i161x22 rfl)
                  refine g_iload_n 25 (gd rfl) rfl rfl ?_
                  refine g_bipush 42 27 (gd rfl) rfl rfl ?_
                  refine g_cmp_eq 30 36 (gd rfl) rfl rfl (fun c161x27 => ?_) (fun c161x27 => ?_)
                  · skip
                    refine g_aload_n 37 (gd rfl) rfl rfl ?_
                    refine g_getA (q2 := 95) 40 (gd rfl) rfl rfl rfl rfl ?_
                    refine g_iload_n 41 (gd rfl) rfl rfl ?_
                    refine g_dup2 42 (gd rfl) rfl rfl rfl ?_
                    refine g_laload 43 (gd rfl) rfl (n := 61) rfl (in_ix i47 rfl) (fun z161x42 e161x42 => ?_)
                    have i161x42 := inv_L hI161x23 (n := 61) 0 2305843009213693951 rfl (in_ix i47 rfl) rfl e161x42
                    refine g_lconst 1 44 (gd rfl) rfl rfl ?_
                    refine g_iload_n 45 (gd rfl) rfl rfl ?_
                    refine g_lshl 46 (gd rfl) rfl (fun z161x45 e161x45 => ?_)
                    have i161x45 := l_shl 60 e161x45 i160 rfl
                    refine g_lor 47 (gd rfl) rfl (fun z161x46 e161x46 => ?_)
                    have i161x46 := inl_or 61 e161x46 (lw 0 2305843009213693951 i161x42 rfl) (lw 0 2305843009213693951 i161x45 rfl) rfl
                    refine g_lastore 48 (gd rfl) rfl (n := 61) rfl (in_ix i47 rfl) ?_
                    have hI161x47 := inv_sL (q := 95) (j := y42_3.toNatClampNeg) (x := z161x46) hI161x23 rfl (lw 0 2305843009213693951 i161x46 rfl)
                    refine g_return (gd rfl) rfl (hp161 _ _ ?_)
                    show GG _ _ _ _ _ _ _ _ [] _ _ _
                    refine g_iinc 167 (gd rfl) rfl rfl (Nat.le_of_ble_eq_true rfl) (fun z164 e164 => ?_)
                    have i164 := in_add 1 60 e164 i47 (in_c 1 rfl) rfl rfl
                    refine g_goto 42 (gd rfl) rfl ?_
                    exact gg_w (by first | exact Nat.le_add_right _ _ | exact gw2 | exact gw3 | exact gwe rfl | exact gwf rfl | exact gwg rfl | exact gwh rfl | omega) (gg_f (gf_cons rfl (gf_cons rfl (gf_cons rfl (gf_cons rfl gf_nil)))) (ih42 (sL (sL s134 95 z160.toNatClampNeg z161x22) 95 y42_3.toNatClampNeg z161x46) y42_2 z164 hI161x47 (fr_sL rfl (fr_sL rfl (fr_tr rfl hFc42 hF134))) (in_w 0 10 i102 rfl) (in_w 0 60 i164 rfl) (m_up mm42 (t_add e164 i47 (in_c 1 rfl) rfl) (in_w 1 1 (in_c 1 rfl) rfl))))
                  · skip
                    exact n_ne c161x27 i161x3 (in_c 42 rfl) rfl
                · skip
                  refine g_iload_n 7 (gd rfl) rfl rfl ?_
                  refine g_bipush 43 9 (gd rfl) rfl rfl ?_
                  refine g_cmp_ne 12 24 (gd rfl) rfl rfl (fun c161x9 => ?_) (fun c161x9 => ?_)
                  · skip
                    refine g_iload_n 25 (gd rfl) rfl rfl ?_
                    refine g_bipush 42 27 (gd rfl) rfl rfl ?_
                    refine g_cmp_eq 30 36 (gd rfl) rfl rfl (fun c161x27 => ?_) (fun c161x27 => ?_)
                    · skip
                      exact absurd c161x27 c161x3
                    · skip
                      refine g_iload_n 31 (gd rfl) rfl rfl ?_
                      refine g_bipush 63 33 (gd rfl) rfl rfl ?_
                      refine g_cmp_ne 36 48 (gd rfl) rfl rfl (fun c161x33 => ?_) (fun c161x33 => ?_)
                      · skip
                        refine g_return (gd rfl) rfl (hp161 _ _ ?_)
                        show GG _ _ _ _ _ _ _ _ [] _ _ _
                        refine g_iinc 167 (gd rfl) rfl rfl (Nat.le_of_ble_eq_true rfl) (fun z164 e164 => ?_)
                        have i164 := in_add 1 60 e164 i47 (in_c 1 rfl) rfl rfl
                        refine g_goto 42 (gd rfl) rfl ?_
                        exact gg_w (by first | exact Nat.le_add_right _ _ | exact gw2 | exact gw3 | exact gwe rfl | exact gwf rfl | exact gwg rfl | exact gwh rfl | omega) (gg_f (gf_cons rfl (gf_cons rfl (gf_cons rfl (gf_cons rfl gf_nil)))) (ih42 s134 y42_2 z164 hI134 (fr_tr rfl hFc42 hF134) (in_w 0 10 i102 rfl) (in_w 0 60 i164 rfl) (m_up mm42 (t_add e164 i47 (in_c 1 rfl) rfl) (in_w 1 1 (in_c 1 rfl) rfl))))
                      · skip
                        have i161x33 := r_eq1 63 63 c161x33 i155 (in_c 63 rfl) rfl
                        refine g_aload_n 37 (gd rfl) rfl rfl ?_
                        refine g_getA (q2 := 95) 40 (gd rfl) rfl rfl rfl rfl ?_
                        refine g_iload_n 41 (gd rfl) rfl rfl ?_
                        refine g_dup2 42 (gd rfl) rfl rfl rfl ?_
                        refine g_laload 43 (gd rfl) rfl (n := 61) rfl (in_ix i47 rfl) (fun z161x42 e161x42 => ?_)
                        have i161x42 := inv_L hI134 (n := 61) 0 2305843009213693951 rfl (in_ix i47 rfl) rfl e161x42
                        refine g_lconst 1 44 (gd rfl) rfl rfl ?_
                        refine g_iload_n 45 (gd rfl) rfl rfl ?_
                        refine g_lshl 46 (gd rfl) rfl (fun z161x45 e161x45 => ?_)
                        have i161x45 := l_shl 60 e161x45 i160 rfl
                        refine g_lor 47 (gd rfl) rfl (fun z161x46 e161x46 => ?_)
                        have i161x46 := inl_or 61 e161x46 (lw 0 2305843009213693951 i161x42 rfl) (lw 0 2305843009213693951 i161x45 rfl) rfl
                        refine g_lastore 48 (gd rfl) rfl (n := 61) rfl (in_ix i47 rfl) ?_
                        have hI161x47 := inv_sL (q := 95) (j := y42_3.toNatClampNeg) (x := z161x46) hI134 rfl (lw 0 2305843009213693951 i161x46 rfl)
                        refine g_return (gd rfl) rfl (hp161 _ _ ?_)
                        show GG _ _ _ _ _ _ _ _ [] _ _ _
                        refine g_iinc 167 (gd rfl) rfl rfl (Nat.le_of_ble_eq_true rfl) (fun z164 e164 => ?_)
                        have i164 := in_add 1 60 e164 i47 (in_c 1 rfl) rfl rfl
                        refine g_goto 42 (gd rfl) rfl ?_
                        exact gg_w (by first | exact Nat.le_add_right _ _ | exact gw2 | exact gw3 | exact gwe rfl | exact gwf rfl | exact gwg rfl | exact gwh rfl | omega) (gg_f (gf_cons rfl (gf_cons rfl (gf_cons rfl (gf_cons rfl gf_nil)))) (ih42 (sL s134 95 y42_3.toNatClampNeg z161x46) y42_2 z164 hI161x47 (fr_sL rfl (fr_tr rfl hFc42 hF134)) (in_w 0 10 i102 rfl) (in_w 0 60 i164 rfl) (m_up mm42 (t_add e164 i47 (in_c 1 rfl) rfl) (in_w 1 1 (in_c 1 rfl) rfl))))
                  · skip
                    have i161x9 := r_eq1 43 43 c161x9 i155 (in_c 43 rfl) rfl
                    refine g_aload_n 13 (gd rfl) rfl rfl ?_
                    refine g_getA (q2 := 95) 16 (gd rfl) rfl rfl rfl rfl ?_
                    refine g_iload_n 17 (gd rfl) rfl rfl ?_
                    refine g_dup2 18 (gd rfl) rfl rfl rfl ?_
                    refine g_laload 19 (gd rfl) rfl (n := 61) rfl (in_ix i160 rfl) (fun z161x18 e161x18 => ?_)
                    have i161x18 := inv_L hI134 (n := 61) 0 2305843009213693951 rfl (in_ix i160 rfl) rfl e161x18
                    refine g_lconst 1 20 (gd rfl) rfl rfl ?_
                    refine g_iload_n 21 (gd rfl) rfl rfl ?_
                    refine g_lshl 22 (gd rfl) rfl (fun z161x21 e161x21 => ?_)
                    have i161x21 := l_shl 59 e161x21 i47 rfl
                    refine g_lor 23 (gd rfl) rfl (fun z161x22 e161x22 => ?_)
                    have i161x22 := inl_or 61 e161x22 (lw 0 2305843009213693951 i161x18 rfl) (lw 0 2305843009213693951 i161x21 rfl) rfl
                    refine g_lastore 24 (gd rfl) rfl (n := 61) rfl (in_ix i160 rfl) ?_
                    have hI161x23 := inv_sL (q := 95) (j := z160.toNatClampNeg) (x := z161x22) hI134 rfl (lw 0 2305843009213693951 i161x22 rfl)
                    refine g_iload_n 25 (gd rfl) rfl rfl ?_
                    refine g_bipush 42 27 (gd rfl) rfl rfl ?_
                    refine g_cmp_eq 30 36 (gd rfl) rfl rfl (fun c161x27 => ?_) (fun c161x27 => ?_)
                    · skip
                      exact absurd c161x27 c161x3
                    · skip
                      refine g_iload_n 31 (gd rfl) rfl rfl ?_
                      refine g_bipush 63 33 (gd rfl) rfl rfl ?_
                      refine g_cmp_ne 36 48 (gd rfl) rfl rfl (fun c161x33 => ?_) (fun c161x33 => ?_)
                      · skip
                        refine g_return (gd rfl) rfl (hp161 _ _ ?_)
                        show GG _ _ _ _ _ _ _ _ [] _ _ _
                        refine g_iinc 167 (gd rfl) rfl rfl (Nat.le_of_ble_eq_true rfl) (fun z164 e164 => ?_)
                        have i164 := in_add 1 60 e164 i47 (in_c 1 rfl) rfl rfl
                        refine g_goto 42 (gd rfl) rfl ?_
                        exact gg_w (by first | exact Nat.le_add_right _ _ | exact gw2 | exact gw3 | exact gwe rfl | exact gwf rfl | exact gwg rfl | exact gwh rfl | omega) (gg_f (gf_cons rfl (gf_cons rfl (gf_cons rfl (gf_cons rfl gf_nil)))) (ih42 (sL s134 95 z160.toNatClampNeg z161x22) y42_2 z164 hI161x23 (fr_sL rfl (fr_tr rfl hFc42 hF134)) (in_w 0 10 i102 rfl) (in_w 0 60 i164 rfl) (m_up mm42 (t_add e164 i47 (in_c 1 rfl) rfl) (in_w 1 1 (in_c 1 rfl) rfl))))
                      · skip
                        exact n_eq c161x33 i161x9 (in_c 63 rfl) rfl
            · skip
              have i102 := z_gt 1 10 c102 j42_2 rfl
              refine g_aload_n 106 (gd rfl) rfl rfl ?_
              refine g_getA (q2 := 97) 109 (gd rfl) rfl rfl rfl rfl ?_
              refine g_iload_n 110 (gd rfl) rfl rfl ?_
              refine g_iaload 111 (gd rfl) rfl (n := 11) rfl (in_ix i102 rfl) (fun z110 e110 => ?_)
              have i110 := inv_I hIc42 (n := 11) (t := 0) 0 60 rfl (in_ix i102 rfl) rfl e110
              refine g_istore 113 (gd rfl) rfl (Nat.le_of_ble_eq_true rfl) ?_
              refine g_aload_n 114 (gd rfl) rfl rfl ?_
              refine g_aload_n 115 (gd rfl) rfl rfl ?_
              refine g_getA (q2 := 98) 118 (gd rfl) rfl rfl rfl rfl ?_
              refine g_iload_n 119 (gd rfl) rfl rfl ?_
              refine g_laload 120 (gd rfl) rfl (n := 11) rfl (in_ix i102 rfl) (fun z119 e119 => ?_)
              have i119 := inv_L hIc42 (n := 11) 0 1152921504606846975 rfl (in_ix i102 rfl) rfl e119
              refine g_lconst 1 121 (gd rfl) rfl rfl ?_
              refine g_iload_n 122 (gd rfl) rfl rfl ?_
              refine g_lshl 123 (gd rfl) rfl (fun z122 e122 => ?_)
              have i122 := l_shl 59 e122 i47 rfl
              have p123 : InL z119 0 1152921504606846975 := by exact lw 0 1152921504606846975 i119 rfl
              have p123a : InL z122 0 2305843009213693951 := by exact lw 0 2305843009213693951 i122 rfl
              refine g_callv (X := _) (As := [.long z119, .long z122]) (r := []) (b := A 94) (q := 94) 126 (gd rfl) rfl rfl rfl rfl rfl (ww_o rfl) (Nat.le_of_ble_eq_true rfl) (Nat.zero_le _) (Nat.zero_le _) (k_159_94 (by first | exact dq1 hd rfl | exact dq0 hd rfl | exact dq2 hd rfl | exact dq3 hd rfl | omega) hIc42 p123 p123a) (fun e u h => h) (fun v u h => ?_)
              obtain ⟨s123, hI123, hF123, rfl, rfl⟩ := h
              show GG _ _ _ _ _ _ _ _ [] _ _ _
              refine g_iinc 129 (gd rfl) rfl rfl (Nat.le_of_ble_eq_true rfl) (fun z126 e126 => ?_)
              have i126 := in_add 0 9 e126 i102 (in_c (-1) rfl) rfl rfl
              refine g_aload_n 130 (gd rfl) rfl rfl ?_
              refine g_iload 132 (gd rfl) rfl rfl ?_
              refine g_iload_n 133 (gd rfl) rfl rfl ?_
              refine g_iload_n 134 (gd rfl) rfl rfl ?_
              refine g_callv (X := _) (As := [.int z55, .int y42_3, .int z126]) (r := []) (b := A 94) (q := 94) 137 (gd rfl) rfl rfl rfl rfl rfl (ww_o rfl) (Nat.le_of_ble_eq_true rfl) (Nat.zero_le _) (Nat.zero_le _) (k_160_94 (by first | exact dq1 hd rfl | exact dq0 hd rfl | exact dq2 hd rfl | exact dq3 hd rfl | omega) hI123 (in_w 0 65535 i98 rfl) (in_w 0 59 i47 rfl) (in_w 0 10 i126 rfl)) (fun e u h => h) (fun v u h => ?_)
              obtain ⟨s134, hI134, hF134, rfl, rfl⟩ := h
              show GG _ _ _ _ _ _ _ _ [] _ _ _
              refine g_iload_n 138 (gd rfl) rfl rfl ?_
              refine g_iconst 1 139 (gd rfl) rfl rfl ?_
              refine g_iadd 140 (gd rfl) rfl (fun z139 e139 => ?_)
              have i139 := in_add 1 60 e139 i47 (in_c 1 rfl) rfl rfl
              refine g_aload_n 141 (gd rfl) rfl rfl ?_
              refine g_getI 144 (gd rfl) rfl rfl rfl (fun z141 e141 => ?_)
              have q141 : u_46_1 = z141 := (fr_F (fr_F (fr_F e_46_1 hFc42 rfl) hF123 rfl) hF134 rfl).trans e141.symm
              subst q141
              refine g_cmp_ge 147 164 (gd rfl) rfl rfl (fun c144 => ?_) (fun c144 => ?_)
              · skip
                refine g_iinc 167 (gd rfl) rfl rfl (Nat.le_of_ble_eq_true rfl) (fun z164 e164 => ?_)
                have i164 := in_add 1 60 e164 i47 (in_c 1 rfl) rfl rfl
                refine g_goto 42 (gd rfl) rfl ?_
                exact gg_w (by first | exact Nat.le_add_right _ _ | exact gw2 | exact gw3 | exact gwe rfl | exact gwf rfl | exact gwg rfl | exact gwh rfl | omega) (gg_f (gf_cons rfl (gf_cons rfl (gf_cons rfl (gf_cons rfl gf_nil)))) (ih42 s134 z126 z164 hI134 (fr_tr rfl (fr_tr rfl hFc42 hF123) hF134) (in_w 0 10 i126 rfl) (in_w 0 60 i164 rfl) (m_up mm42 (t_add e164 i47 (in_c 1 rfl) rfl) (in_w 1 1 (in_c 1 rfl) rfl))))
              · skip
                have i144 := r_lt1 1 59 c144 i139 i47a rfl
                have i144a := r_lt2 2 60 c144 i139 i47a rfl
                refine g_aload_n 148 (gd rfl) rfl rfl ?_
                refine g_aload_n 149 (gd rfl) rfl rfl ?_
                refine g_getA (q2 := 47) 152 (gd rfl) rfl rfl rfl rfl ?_
                refine g_iload_n 153 (gd rfl) rfl rfl ?_
                refine g_iconst 1 154 (gd rfl) rfl rfl ?_
                refine g_iadd 155 (gd rfl) rfl (fun z154 e154 => ?_)
                have i154 := in_add 1 60 e154 i47 (in_c 1 rfl) rfl rfl
                refine g_caload 156 (gd rfl) rfl (n := 1000) rfl (in_ix i154 rfl) (fun z155 e155 => ?_)
                have i155 := inv_I hI134 (n := 1000) (t := 2) 0 65535 rfl (in_ix i154 rfl) rfl e155
                refine g_iload 158 (gd rfl) rfl rfl ?_
                refine g_iload_n 159 (gd rfl) rfl rfl ?_
                refine g_iconst 1 160 (gd rfl) rfl rfl ?_
                refine g_iadd 161 (gd rfl) rfl (fun z160 e160 => ?_)
                have i160 := in_add 1 60 e160 i47 (in_c 1 rfl) rfl rfl
                refine g_callv (X := _) (As := [.int z155, .int z110, .int z160]) (r := []) (b := A 94) (q := 94) 164 (gd rfl) rfl rfl rfl rfl rfl (ww_o rfl) (Nat.le_of_ble_eq_true rfl) (mc := 0) (ms := 0) (Nat.zero_le _) (Nat.zero_le _) (P := fun v u => _) ?_ (fun e u h => h) (fun v u h => h)
                intro po161 xx161 hp161 hx161
                refine g_enter2 (k := 161) (N := 300) (by first | exact dq1 hd rfl | exact dq0 hd rfl | exact dq2 hd rfl | exact dq3 hd rfl | omega) rfl (Nat.le_of_ble_eq_true rfl) ?_
                refine g_iload_n 1 (gd rfl) rfl rfl ?_
                refine g_bipush 42 3 (gd rfl) rfl rfl ?_
                refine g_cmp_eq 6 12 (gd rfl) rfl rfl (fun c161x3 => ?_) (fun c161x3 => ?_)
                · skip
                  have i161x3 := r_eq1 42 42 c161x3 i155 (in_c 42 rfl) rfl
                  refine g_aload_n 13 (gd rfl) rfl rfl ?_
                  refine g_getA (q2 := 95) 16 (gd rfl) rfl rfl rfl rfl ?_
                  refine g_iload_n 17 (gd rfl) rfl rfl ?_
                  refine g_dup2 18 (gd rfl) rfl rfl rfl ?_
                  refine g_laload 19 (gd rfl) rfl (n := 61) rfl (in_ix i160 rfl) (fun z161x18 e161x18 => ?_)
                  have i161x18 := inv_L hI134 (n := 61) 0 2305843009213693951 rfl (in_ix i160 rfl) rfl e161x18
                  refine g_lconst 1 20 (gd rfl) rfl rfl ?_
                  refine g_iload_n 21 (gd rfl) rfl rfl ?_
                  refine g_lshl 22 (gd rfl) rfl (fun z161x21 e161x21 => ?_)
                  have i161x21 := l_shl 60 e161x21 i110 rfl
                  refine g_lor 23 (gd rfl) rfl (fun z161x22 e161x22 => ?_)
                  have i161x22 := inl_or 61 e161x22 (lw 0 2305843009213693951 i161x18 rfl) (lw 0 2305843009213693951 i161x21 rfl) rfl
                  refine g_lastore 24 (gd rfl) rfl (n := 61) rfl (in_ix i160 rfl) ?_
                  have hI161x23 := inv_sL (q := 95) (j := z160.toNatClampNeg) (x := z161x22) hI134 rfl (lw 0 2305843009213693951 i161x22 rfl)
                  refine g_iload_n 25 (gd rfl) rfl rfl ?_
                  refine g_bipush 42 27 (gd rfl) rfl rfl ?_
                  refine g_cmp_eq 30 36 (gd rfl) rfl rfl (fun c161x27 => ?_) (fun c161x27 => ?_)
                  · skip
                    refine g_aload_n 37 (gd rfl) rfl rfl ?_
                    refine g_getA (q2 := 95) 40 (gd rfl) rfl rfl rfl rfl ?_
                    refine g_iload_n 41 (gd rfl) rfl rfl ?_
                    refine g_dup2 42 (gd rfl) rfl rfl rfl ?_
                    refine g_laload 43 (gd rfl) rfl (n := 61) rfl (in_ix i110 rfl) (fun z161x42 e161x42 => ?_)
                    have i161x42 := inv_L hI161x23 (n := 61) 0 2305843009213693951 rfl (in_ix i110 rfl) rfl e161x42
                    refine g_lconst 1 44 (gd rfl) rfl rfl ?_
                    refine g_iload_n 45 (gd rfl) rfl rfl ?_
                    refine g_lshl 46 (gd rfl) rfl (fun z161x45 e161x45 => ?_)
                    have i161x45 := l_shl 60 e161x45 i160 rfl
                    refine g_lor 47 (gd rfl) rfl (fun z161x46 e161x46 => ?_)
                    have i161x46 := inl_or 61 e161x46 (lw 0 2305843009213693951 i161x42 rfl) (lw 0 2305843009213693951 i161x45 rfl) rfl
                    refine g_lastore 48 (gd rfl) rfl (n := 61) rfl (in_ix i110 rfl) ?_
                    have hI161x47 := inv_sL (q := 95) (j := z110.toNatClampNeg) (x := z161x46) hI161x23 rfl (lw 0 2305843009213693951 i161x46 rfl)
                    refine g_return (gd rfl) rfl (hp161 _ _ ?_)
                    show GG _ _ _ _ _ _ _ _ [] _ _ _
                    refine g_iinc 167 (gd rfl) rfl rfl (Nat.le_of_ble_eq_true rfl) (fun z164 e164 => ?_)
                    have i164 := in_add 1 60 e164 i47 (in_c 1 rfl) rfl rfl
                    refine g_goto 42 (gd rfl) rfl ?_
                    exact gg_w (by first | exact Nat.le_add_right _ _ | exact gw2 | exact gw3 | exact gwe rfl | exact gwf rfl | exact gwg rfl | exact gwh rfl | omega) (gg_f (gf_cons rfl (gf_cons rfl (gf_cons rfl (gf_cons rfl gf_nil)))) (ih42 (sL (sL s134 95 z160.toNatClampNeg z161x22) 95 z110.toNatClampNeg z161x46) z126 z164 hI161x47 (fr_sL rfl (fr_sL rfl (fr_tr rfl (fr_tr rfl hFc42 hF123) hF134))) (in_w 0 10 i126 rfl) (in_w 0 60 i164 rfl) (m_up mm42 (t_add e164 i47 (in_c 1 rfl) rfl) (in_w 1 1 (in_c 1 rfl) rfl))))
                  · skip
                    exact n_ne c161x27 i161x3 (in_c 42 rfl) rfl
                · skip
                  refine g_iload_n 7 (gd rfl) rfl rfl ?_
                  refine g_bipush 43 9 (gd rfl) rfl rfl ?_
                  refine g_cmp_ne 12 24 (gd rfl) rfl rfl (fun c161x9 => ?_) (fun c161x9 => ?_)
                  · skip
                    refine g_iload_n 25 (gd rfl) rfl rfl ?_
                    refine g_bipush 42 27 (gd rfl) rfl rfl ?_
                    refine g_cmp_eq 30 36 (gd rfl) rfl rfl (fun c161x27 => ?_) (fun c161x27 => ?_)
                    · skip
                      exact absurd c161x27 c161x3
                    · skip
                      refine g_iload_n 31 (gd rfl) rfl rfl ?_
                      refine g_bipush 63 33 (gd rfl) rfl rfl ?_
                      refine g_cmp_ne 36 48 (gd rfl) rfl rfl (fun c161x33 => ?_) (fun c161x33 => ?_)
                      · skip
                        refine g_return (gd rfl) rfl (hp161 _ _ ?_)
                        show GG _ _ _ _ _ _ _ _ [] _ _ _
                        refine g_iinc 167 (gd rfl) rfl rfl (Nat.le_of_ble_eq_true rfl) (fun z164 e164 => ?_)
                        have i164 := in_add 1 60 e164 i47 (in_c 1 rfl) rfl rfl
                        refine g_goto 42 (gd rfl) rfl ?_
                        exact gg_w (by first | exact Nat.le_add_right _ _ | exact gw2 | exact gw3 | exact gwe rfl | exact gwf rfl | exact gwg rfl | exact gwh rfl | omega) (gg_f (gf_cons rfl (gf_cons rfl (gf_cons rfl (gf_cons rfl gf_nil)))) (ih42 s134 z126 z164 hI134 (fr_tr rfl (fr_tr rfl hFc42 hF123) hF134) (in_w 0 10 i126 rfl) (in_w 0 60 i164 rfl) (m_up mm42 (t_add e164 i47 (in_c 1 rfl) rfl) (in_w 1 1 (in_c 1 rfl) rfl))))
                      · skip
                        have i161x33 := r_eq1 63 63 c161x33 i155 (in_c 63 rfl) rfl
                        refine g_aload_n 37 (gd rfl) rfl rfl ?_
                        refine g_getA (q2 := 95) 40 (gd rfl) rfl rfl rfl rfl ?_
                        refine g_iload_n 41 (gd rfl) rfl rfl ?_
                        refine g_dup2 42 (gd rfl) rfl rfl rfl ?_
                        refine g_laload 43 (gd rfl) rfl (n := 61) rfl (in_ix i110 rfl) (fun z161x42 e161x42 => ?_)
                        have i161x42 := inv_L hI134 (n := 61) 0 2305843009213693951 rfl (in_ix i110 rfl) rfl e161x42
                        refine g_lconst 1 44 (gd rfl) rfl rfl ?_
                        refine g_iload_n 45 (gd rfl) rfl rfl ?_
                        refine g_lshl 46 (gd rfl) rfl (fun z161x45 e161x45 => ?_)
                        have i161x45 := l_shl 60 e161x45 i160 rfl
                        refine g_lor 47 (gd rfl) rfl (fun z161x46 e161x46 => ?_)
                        have i161x46 := inl_or 61 e161x46 (lw 0 2305843009213693951 i161x42 rfl) (lw 0 2305843009213693951 i161x45 rfl) rfl
                        refine g_lastore 48 (gd rfl) rfl (n := 61) rfl (in_ix i110 rfl) ?_
                        have hI161x47 := inv_sL (q := 95) (j := z110.toNatClampNeg) (x := z161x46) hI134 rfl (lw 0 2305843009213693951 i161x46 rfl)
                        refine g_return (gd rfl) rfl (hp161 _ _ ?_)
                        show GG _ _ _ _ _ _ _ _ [] _ _ _
                        refine g_iinc 167 (gd rfl) rfl rfl (Nat.le_of_ble_eq_true rfl) (fun z164 e164 => ?_)
                        have i164 := in_add 1 60 e164 i47 (in_c 1 rfl) rfl rfl
                        refine g_goto 42 (gd rfl) rfl ?_
                        exact gg_w (by first | exact Nat.le_add_right _ _ | exact gw2 | exact gw3 | exact gwe rfl | exact gwf rfl | exact gwg rfl | exact gwh rfl | omega) (gg_f (gf_cons rfl (gf_cons rfl (gf_cons rfl (gf_cons rfl gf_nil)))) (ih42 (sL s134 95 z110.toNatClampNeg z161x46) z126 z164 hI161x47 (fr_sL rfl (fr_tr rfl (fr_tr rfl hFc42 hF123) hF134)) (in_w 0 10 i126 rfl) (in_w 0 60 i164 rfl) (m_up mm42 (t_add e164 i47 (in_c 1 rfl) rfl) (in_w 1 1 (in_c 1 rfl) rfl))))
                  · skip
                    have i161x9 := r_eq1 43 43 c161x9 i155 (in_c 43 rfl) rfl
                    refine g_aload_n 13 (gd rfl) rfl rfl ?_
                    refine g_getA (q2 := 95) 16 (gd rfl) rfl rfl rfl rfl ?_
                    refine g_iload_n 17 (gd rfl) rfl rfl ?_
                    refine g_dup2 18 (gd rfl) rfl rfl rfl ?_
                    refine g_laload 19 (gd rfl) rfl (n := 61) rfl (in_ix i160 rfl) (fun z161x18 e161x18 => ?_)
                    have i161x18 := inv_L hI134 (n := 61) 0 2305843009213693951 rfl (in_ix i160 rfl) rfl e161x18
                    refine g_lconst 1 20 (gd rfl) rfl rfl ?_
                    refine g_iload_n 21 (gd rfl) rfl rfl ?_
                    refine g_lshl 22 (gd rfl) rfl (fun z161x21 e161x21 => ?_)
                    have i161x21 := l_shl 60 e161x21 i110 rfl
                    refine g_lor 23 (gd rfl) rfl (fun z161x22 e161x22 => ?_)
                    have i161x22 := inl_or 61 e161x22 (lw 0 2305843009213693951 i161x18 rfl) (lw 0 2305843009213693951 i161x21 rfl) rfl
                    refine g_lastore 24 (gd rfl) rfl (n := 61) rfl (in_ix i160 rfl) ?_
                    have hI161x23 := inv_sL (q := 95) (j := z160.toNatClampNeg) (x := z161x22) hI134 rfl (lw 0 2305843009213693951 i161x22 rfl)
                    refine g_iload_n 25 (gd rfl) rfl rfl ?_
                    refine g_bipush 42 27 (gd rfl) rfl rfl ?_
                    refine g_cmp_eq 30 36 (gd rfl) rfl rfl (fun c161x27 => ?_) (fun c161x27 => ?_)
                    · skip
                      exact absurd c161x27 c161x3
                    · skip
                      refine g_iload_n 31 (gd rfl) rfl rfl ?_
                      refine g_bipush 63 33 (gd rfl) rfl rfl ?_
                      refine g_cmp_ne 36 48 (gd rfl) rfl rfl (fun c161x33 => ?_) (fun c161x33 => ?_)
                      · skip
                        refine g_return (gd rfl) rfl (hp161 _ _ ?_)
                        show GG _ _ _ _ _ _ _ _ [] _ _ _
                        refine g_iinc 167 (gd rfl) rfl rfl (Nat.le_of_ble_eq_true rfl) (fun z164 e164 => ?_)
                        have i164 := in_add 1 60 e164 i47 (in_c 1 rfl) rfl rfl
                        refine g_goto 42 (gd rfl) rfl ?_
                        exact gg_w (by first | exact Nat.le_add_right _ _ | exact gw2 | exact gw3 | exact gwe rfl | exact gwf rfl | exact gwg rfl | exact gwh rfl | omega) (gg_f (gf_cons rfl (gf_cons rfl (gf_cons rfl (gf_cons rfl gf_nil)))) (ih42 (sL s134 95 z160.toNatClampNeg z161x22) z126 z164 hI161x23 (fr_sL rfl (fr_tr rfl (fr_tr rfl hFc42 hF123) hF134)) (in_w 0 10 i126 rfl) (in_w 0 60 i164 rfl) (m_up mm42 (t_add e164 i47 (in_c 1 rfl) rfl) (in_w 1 1 (in_c 1 rfl) rfl))))
                      · skip
                        exact n_eq c161x33 i161x9 (in_c 63 rfl) rfl
        · skip
          have i65 := r_eq1 40 40 c65 i55 (in_c 40 rfl) rfl
          refine g_iload_n 69 (gd rfl) rfl rfl ?_
          refine g_bipush 10 71 (gd rfl) rfl rfl ?_
          refine g_cmp_ge 74 94 (gd rfl) rfl rfl (fun c71 => ?_) (fun c71 => ?_)
          · skip
            have i71 := r_le2 10 10 c71 (in_c 10 rfl) j42_2 rfl
            refine g_iload 96 (gd rfl) rfl rfl ?_
            refine g_bipush 41 98 (gd rfl) rfl rfl ?_
            refine g_cmp_ne 101 129 (gd rfl) rfl rfl (fun c98 => ?_) (fun c98 => ?_)
            · skip
              refine g_aload_n 130 (gd rfl) rfl rfl ?_
              refine g_iload 132 (gd rfl) rfl rfl ?_
              refine g_iload_n 133 (gd rfl) rfl rfl ?_
              refine g_iload_n 134 (gd rfl) rfl rfl ?_
              refine g_callv (X := _) (As := [.int z55, .int y42_3, .int y42_2]) (r := []) (b := A 94) (q := 94) 137 (gd rfl) rfl rfl rfl rfl rfl (ww_o rfl) (Nat.le_of_ble_eq_true rfl) (Nat.zero_le _) (Nat.zero_le _) (k_160_94 (by first | exact dq1 hd rfl | exact dq0 hd rfl | exact dq2 hd rfl | exact dq3 hd rfl | omega) hIc42 (in_w 0 65535 i65 rfl) (in_w 0 59 i47 rfl) (in_w 0 10 i71 rfl)) (fun e u h => h) (fun v u h => ?_)
              obtain ⟨s134, hI134, hF134, rfl, rfl⟩ := h
              show GG _ _ _ _ _ _ _ _ [] _ _ _
              refine g_iload_n 138 (gd rfl) rfl rfl ?_
              refine g_iconst 1 139 (gd rfl) rfl rfl ?_
              refine g_iadd 140 (gd rfl) rfl (fun z139 e139 => ?_)
              have i139 := in_add 1 60 e139 i47 (in_c 1 rfl) rfl rfl
              refine g_aload_n 141 (gd rfl) rfl rfl ?_
              refine g_getI 144 (gd rfl) rfl rfl rfl (fun z141 e141 => ?_)
              have q141 : u_46_1 = z141 := (fr_F (fr_F e_46_1 hFc42 rfl) hF134 rfl).trans e141.symm
              subst q141
              refine g_cmp_ge 147 164 (gd rfl) rfl rfl (fun c144 => ?_) (fun c144 => ?_)
              · skip
                refine g_iinc 167 (gd rfl) rfl rfl (Nat.le_of_ble_eq_true rfl) (fun z164 e164 => ?_)
                have i164 := in_add 1 60 e164 i47 (in_c 1 rfl) rfl rfl
                refine g_goto 42 (gd rfl) rfl ?_
                exact gg_w (by first | exact Nat.le_add_right _ _ | exact gw2 | exact gw3 | exact gwe rfl | exact gwf rfl | exact gwg rfl | exact gwh rfl | omega) (gg_f (gf_cons rfl (gf_cons rfl (gf_cons rfl (gf_cons rfl gf_nil)))) (ih42 s134 y42_2 z164 hI134 (fr_tr rfl hFc42 hF134) (in_w 0 10 i71 rfl) (in_w 0 60 i164 rfl) (m_up mm42 (t_add e164 i47 (in_c 1 rfl) rfl) (in_w 1 1 (in_c 1 rfl) rfl))))
              · skip
                have i144 := r_lt1 1 59 c144 i139 i47a rfl
                have i144a := r_lt2 2 60 c144 i139 i47a rfl
                refine g_aload_n 148 (gd rfl) rfl rfl ?_
                refine g_aload_n 149 (gd rfl) rfl rfl ?_
                refine g_getA (q2 := 47) 152 (gd rfl) rfl rfl rfl rfl ?_
                refine g_iload_n 153 (gd rfl) rfl rfl ?_
                refine g_iconst 1 154 (gd rfl) rfl rfl ?_
                refine g_iadd 155 (gd rfl) rfl (fun z154 e154 => ?_)
                have i154 := in_add 1 60 e154 i47 (in_c 1 rfl) rfl rfl
                refine g_caload 156 (gd rfl) rfl (n := 1000) rfl (in_ix i154 rfl) (fun z155 e155 => ?_)
                have i155 := inv_I hI134 (n := 1000) (t := 2) 0 65535 rfl (in_ix i154 rfl) rfl e155
                refine g_iload 158 (gd rfl) rfl rfl ?_
                refine g_iload_n 159 (gd rfl) rfl rfl ?_
                refine g_iconst 1 160 (gd rfl) rfl rfl ?_
                refine g_iadd 161 (gd rfl) rfl (fun z160 e160 => ?_)
                have i160 := in_add 1 60 e160 i47 (in_c 1 rfl) rfl rfl
                refine g_callv (X := _) (As := [.int z155, .int y42_3, .int z160]) (r := []) (b := A 94) (q := 94) 164 (gd rfl) rfl rfl rfl rfl rfl (ww_o rfl) (Nat.le_of_ble_eq_true rfl) (mc := 0) (ms := 0) (Nat.zero_le _) (Nat.zero_le _) (P := fun v u => _) ?_ (fun e u h => h) (fun v u h => h)
                intro po161 xx161 hp161 hx161
                refine g_enter2 (k := 161) (N := 300) (by first | exact dq1 hd rfl | exact dq0 hd rfl | exact dq2 hd rfl | exact dq3 hd rfl | omega) rfl (Nat.le_of_ble_eq_true rfl) ?_
                refine g_iload_n 1 (gd rfl) rfl rfl ?_
                refine g_bipush 42 3 (gd rfl) rfl rfl ?_
                refine g_cmp_eq 6 12 (gd rfl) rfl rfl (fun c161x3 => ?_) (fun c161x3 => ?_)
                · skip
                  have i161x3 := r_eq1 42 42 c161x3 i155 (in_c 42 rfl) rfl
                  refine g_aload_n 13 (gd rfl) rfl rfl ?_
                  refine g_getA (q2 := 95) 16 (gd rfl) rfl rfl rfl rfl ?_
                  refine g_iload_n 17 (gd rfl) rfl rfl ?_
                  refine g_dup2 18 (gd rfl) rfl rfl rfl ?_
                  refine g_laload 19 (gd rfl) rfl (n := 61) rfl (in_ix i160 rfl) (fun z161x18 e161x18 => ?_)
                  have i161x18 := inv_L hI134 (n := 61) 0 2305843009213693951 rfl (in_ix i160 rfl) rfl e161x18
                  refine g_lconst 1 20 (gd rfl) rfl rfl ?_
                  refine g_iload_n 21 (gd rfl) rfl rfl ?_
                  refine g_lshl 22 (gd rfl) rfl (fun z161x21 e161x21 => ?_)
                  have i161x21 := l_shl 59 e161x21 i47 rfl
                  refine g_lor 23 (gd rfl) rfl (fun z161x22 e161x22 => ?_)
                  have i161x22 := inl_or 61 e161x22 (lw 0 2305843009213693951 i161x18 rfl) (lw 0 2305843009213693951 i161x21 rfl) rfl
                  refine g_lastore 24 (gd rfl) rfl (n := 61) rfl (in_ix i160 rfl) ?_
                  have hI161x23 := inv_sL (q := 95) (j := z160.toNatClampNeg) (x := z161x22) hI134 rfl (lw 0 2305843009213693951 i161x22 rfl)
                  refine g_iload_n 25 (gd rfl) rfl rfl ?_
                  refine g_bipush 42 27 (gd rfl) rfl rfl ?_
                  refine g_cmp_eq 30 36 (gd rfl) rfl rfl (fun c161x27 => ?_) (fun c161x27 => ?_)
                  · skip
                    refine g_aload_n 37 (gd rfl) rfl rfl ?_
                    refine g_getA (q2 := 95) 40 (gd rfl) rfl rfl rfl rfl ?_
                    refine g_iload_n 41 (gd rfl) rfl rfl ?_
                    refine g_dup2 42 (gd rfl) rfl rfl rfl ?_
                    refine g_laload 43 (gd rfl) rfl (n := 61) rfl (in_ix i47 rfl) (fun z161x42 e161x42 => ?_)
                    have i161x42 := inv_L hI161x23 (n := 61) 0 2305843009213693951 rfl (in_ix i47 rfl) rfl e161x42
                    refine g_lconst 1 44 (gd rfl) rfl rfl ?_
                    refine g_iload_n 45 (gd rfl) rfl rfl ?_
                    refine g_lshl 46 (gd rfl) rfl (fun z161x45 e161x45 => ?_)
                    have i161x45 := l_shl 60 e161x45 i160 rfl
                    refine g_lor 47 (gd rfl) rfl (fun z161x46 e161x46 => ?_)
                    have i161x46 := inl_or 61 e161x46 (lw 0 2305843009213693951 i161x42 rfl) (lw 0 2305843009213693951 i161x45 rfl) rfl
                    refine g_lastore 48 (gd rfl) rfl (n := 61) rfl (in_ix i47 rfl) ?_
                    have hI161x47 := inv_sL (q := 95) (j := y42_3.toNatClampNeg) (x := z161x46) hI161x23 rfl (lw 0 2305843009213693951 i161x46 rfl)
                    refine g_return (gd rfl) rfl (hp161 _ _ ?_)
                    show GG _ _ _ _ _ _ _ _ [] _ _ _
                    refine g_iinc 167 (gd rfl) rfl rfl (Nat.le_of_ble_eq_true rfl) (fun z164 e164 => ?_)
                    have i164 := in_add 1 60 e164 i47 (in_c 1 rfl) rfl rfl
                    refine g_goto 42 (gd rfl) rfl ?_
                    exact gg_w (by first | exact Nat.le_add_right _ _ | exact gw2 | exact gw3 | exact gwe rfl | exact gwf rfl | exact gwg rfl | exact gwh rfl | omega) (gg_f (gf_cons rfl (gf_cons rfl (gf_cons rfl (gf_cons rfl gf_nil)))) (ih42 (sL (sL s134 95 z160.toNatClampNeg z161x22) 95 y42_3.toNatClampNeg z161x46) y42_2 z164 hI161x47 (fr_sL rfl (fr_sL rfl (fr_tr rfl hFc42 hF134))) (in_w 0 10 i71 rfl) (in_w 0 60 i164 rfl) (m_up mm42 (t_add e164 i47 (in_c 1 rfl) rfl) (in_w 1 1 (in_c 1 rfl) rfl))))
                  · skip
                    exact n_ne c161x27 i161x3 (in_c 42 rfl) rfl
                · skip
                  refine g_iload_n 7 (gd rfl) rfl rfl ?_
                  refine g_bipush 43 9 (gd rfl) rfl rfl ?_
                  refine g_cmp_ne 12 24 (gd rfl) rfl rfl (fun c161x9 => ?_) (fun c161x9 => ?_)
                  · skip
                    refine g_iload_n 25 (gd rfl) rfl rfl ?_
                    refine g_bipush 42 27 (gd rfl) rfl rfl ?_
                    refine g_cmp_eq 30 36 (gd rfl) rfl rfl (fun c161x27 => ?_) (fun c161x27 => ?_)
                    · skip
                      exact absurd c161x27 c161x3
                    · skip
                      refine g_iload_n 31 (gd rfl) rfl rfl ?_
                      refine g_bipush 63 33 (gd rfl) rfl rfl ?_
                      refine g_cmp_ne 36 48 (gd rfl) rfl rfl (fun c161x33 => ?_) (fun c161x33 => ?_)
                      · skip
                        refine g_return (gd rfl) rfl (hp161 _ _ ?_)
                        show GG _ _ _ _ _ _ _ _ [] _ _ _
                        refine g_iinc 167 (gd rfl) rfl rfl (Nat.le_of_ble_eq_true rfl) (fun z164 e164 => ?_)
                        have i164 := in_add 1 60 e164 i47 (in_c 1 rfl) rfl rfl
                        refine g_goto 42 (gd rfl) rfl ?_
                        exact gg_w (by first | exact Nat.le_add_right _ _ | exact gw2 | exact gw3 | exact gwe rfl | exact gwf rfl | exact gwg rfl | exact gwh rfl | omega) (gg_f (gf_cons rfl (gf_cons rfl (gf_cons rfl (gf_cons rfl gf_nil)))) (ih42 s134 y42_2 z164 hI134 (fr_tr rfl hFc42 hF134) (in_w 0 10 i71 rfl) (in_w 0 60 i164 rfl) (m_up mm42 (t_add e164 i47 (in_c 1 rfl) rfl) (in_w 1 1 (in_c 1 rfl) rfl))))
                      · skip
                        have i161x33 := r_eq1 63 63 c161x33 i155 (in_c 63 rfl) rfl
                        refine g_aload_n 37 (gd rfl) rfl rfl ?_
                        refine g_getA (q2 := 95) 40 (gd rfl) rfl rfl rfl rfl ?_
                        refine g_iload_n 41 (gd rfl) rfl rfl ?_
                        refine g_dup2 42 (gd rfl) rfl rfl rfl ?_
                        refine g_laload 43 (gd rfl) rfl (n := 61) rfl (in_ix i47 rfl) (fun z161x42 e161x42 => ?_)
                        have i161x42 := inv_L hI134 (n := 61) 0 2305843009213693951 rfl (in_ix i47 rfl) rfl e161x42
                        refine g_lconst 1 44 (gd rfl) rfl rfl ?_
                        refine g_iload_n 45 (gd rfl) rfl rfl ?_
                        refine g_lshl 46 (gd rfl) rfl (fun z161x45 e161x45 => ?_)
                        have i161x45 := l_shl 60 e161x45 i160 rfl
                        refine g_lor 47 (gd rfl) rfl (fun z161x46 e161x46 => ?_)
                        have i161x46 := inl_or 61 e161x46 (lw 0 2305843009213693951 i161x42 rfl) (lw 0 2305843009213693951 i161x45 rfl) rfl
                        refine g_lastore 48 (gd rfl) rfl (n := 61) rfl (in_ix i47 rfl) ?_
                        have hI161x47 := inv_sL (q := 95) (j := y42_3.toNatClampNeg) (x := z161x46) hI134 rfl (lw 0 2305843009213693951 i161x46 rfl)
                        refine g_return (gd rfl) rfl (hp161 _ _ ?_)
                        show GG _ _ _ _ _ _ _ _ [] _ _ _
                        refine g_iinc 167 (gd rfl) rfl rfl (Nat.le_of_ble_eq_true rfl) (fun z164 e164 => ?_)
                        have i164 := in_add 1 60 e164 i47 (in_c 1 rfl) rfl rfl
                        refine g_goto 42 (gd rfl) rfl ?_
                        exact gg_w (by first | exact Nat.le_add_right _ _ | exact gw2 | exact gw3 | exact gwe rfl | exact gwf rfl | exact gwg rfl | exact gwh rfl | omega) (gg_f (gf_cons rfl (gf_cons rfl (gf_cons rfl (gf_cons rfl gf_nil)))) (ih42 (sL s134 95 y42_3.toNatClampNeg z161x46) y42_2 z164 hI161x47 (fr_sL rfl (fr_tr rfl hFc42 hF134)) (in_w 0 10 i71 rfl) (in_w 0 60 i164 rfl) (m_up mm42 (t_add e164 i47 (in_c 1 rfl) rfl) (in_w 1 1 (in_c 1 rfl) rfl))))
                  · skip
                    have i161x9 := r_eq1 43 43 c161x9 i155 (in_c 43 rfl) rfl
                    refine g_aload_n 13 (gd rfl) rfl rfl ?_
                    refine g_getA (q2 := 95) 16 (gd rfl) rfl rfl rfl rfl ?_
                    refine g_iload_n 17 (gd rfl) rfl rfl ?_
                    refine g_dup2 18 (gd rfl) rfl rfl rfl ?_
                    refine g_laload 19 (gd rfl) rfl (n := 61) rfl (in_ix i160 rfl) (fun z161x18 e161x18 => ?_)
                    have i161x18 := inv_L hI134 (n := 61) 0 2305843009213693951 rfl (in_ix i160 rfl) rfl e161x18
                    refine g_lconst 1 20 (gd rfl) rfl rfl ?_
                    refine g_iload_n 21 (gd rfl) rfl rfl ?_
                    refine g_lshl 22 (gd rfl) rfl (fun z161x21 e161x21 => ?_)
                    have i161x21 := l_shl 59 e161x21 i47 rfl
                    refine g_lor 23 (gd rfl) rfl (fun z161x22 e161x22 => ?_)
                    have i161x22 := inl_or 61 e161x22 (lw 0 2305843009213693951 i161x18 rfl) (lw 0 2305843009213693951 i161x21 rfl) rfl
                    refine g_lastore 24 (gd rfl) rfl (n := 61) rfl (in_ix i160 rfl) ?_
                    have hI161x23 := inv_sL (q := 95) (j := z160.toNatClampNeg) (x := z161x22) hI134 rfl (lw 0 2305843009213693951 i161x22 rfl)
                    refine g_iload_n 25 (gd rfl) rfl rfl ?_
                    refine g_bipush 42 27 (gd rfl) rfl rfl ?_
                    refine g_cmp_eq 30 36 (gd rfl) rfl rfl (fun c161x27 => ?_) (fun c161x27 => ?_)
                    · skip
                      exact absurd c161x27 c161x3
                    · skip
                      refine g_iload_n 31 (gd rfl) rfl rfl ?_
                      refine g_bipush 63 33 (gd rfl) rfl rfl ?_
                      refine g_cmp_ne 36 48 (gd rfl) rfl rfl (fun c161x33 => ?_) (fun c161x33 => ?_)
                      · skip
                        refine g_return (gd rfl) rfl (hp161 _ _ ?_)
                        show GG _ _ _ _ _ _ _ _ [] _ _ _
                        refine g_iinc 167 (gd rfl) rfl rfl (Nat.le_of_ble_eq_true rfl) (fun z164 e164 => ?_)
                        have i164 := in_add 1 60 e164 i47 (in_c 1 rfl) rfl rfl
                        refine g_goto 42 (gd rfl) rfl ?_
                        exact gg_w (by first | exact Nat.le_add_right _ _ | exact gw2 | exact gw3 | exact gwe rfl | exact gwf rfl | exact gwg rfl | exact gwh rfl | omega) (gg_f (gf_cons rfl (gf_cons rfl (gf_cons rfl (gf_cons rfl gf_nil)))) (ih42 (sL s134 95 z160.toNatClampNeg z161x22) y42_2 z164 hI161x23 (fr_sL rfl (fr_tr rfl hFc42 hF134)) (in_w 0 10 i71 rfl) (in_w 0 60 i164 rfl) (m_up mm42 (t_add e164 i47 (in_c 1 rfl) rfl) (in_w 1 1 (in_c 1 rfl) rfl))))
                      · skip
                        exact n_eq c161x33 i161x9 (in_c 63 rfl) rfl
            · skip
              exact n_eq c98 i65 (in_c 41 rfl) rfl
          · skip
            have i71 := r_lt1 0 9 c71 j42_2 (in_c 10 rfl) rfl
            refine g_iinc 77 (gd rfl) rfl rfl (Nat.le_of_ble_eq_true rfl) (fun z74 e74 => ?_)
            have i74 := in_add 1 10 e74 i71 (in_c 1 rfl) rfl rfl
            refine g_aload_n 78 (gd rfl) rfl rfl ?_
            refine g_getA (q2 := 97) 81 (gd rfl) rfl rfl rfl rfl ?_
            refine g_iload_n 82 (gd rfl) rfl rfl ?_
            refine g_iload_n 83 (gd rfl) rfl rfl ?_
            refine g_iastore 84 (gd rfl) rfl (n := 11) rfl (in_ix i74 rfl) ?_
            have hI83 := inv_sI (q := 97) (j := z74.toNatClampNeg) hIc42 rfl (in_w 0 60 i47 rfl)
            refine g_aload_n 85 (gd rfl) rfl rfl ?_
            refine g_getA (q2 := 98) 88 (gd rfl) rfl rfl rfl rfl ?_
            refine g_iload_n 89 (gd rfl) rfl rfl ?_
            refine g_lconst 0 90 (gd rfl) rfl rfl ?_
            refine g_lastore 91 (gd rfl) rfl (n := 11) rfl (in_ix i74 rfl) ?_
            have hI90 := inv_sL (q := 98) (j := z74.toNatClampNeg) (x := (Int64.ofInt 0)) hI83 rfl (lw 0 1152921504606846975 (l_c 0 rfl) rfl)
            refine g_goto 129 (gd rfl) rfl ?_
            refine g_aload_n 130 (gd rfl) rfl rfl ?_
            refine g_iload 132 (gd rfl) rfl rfl ?_
            refine g_iload_n 133 (gd rfl) rfl rfl ?_
            refine g_iload_n 134 (gd rfl) rfl rfl ?_
            refine g_callv (X := _) (As := [.int z55, .int y42_3, .int z74]) (r := []) (b := A 94) (q := 94) 137 (gd rfl) rfl rfl rfl rfl rfl (ww_o rfl) (Nat.le_of_ble_eq_true rfl) (Nat.zero_le _) (Nat.zero_le _) (k_160_94 (by first | exact dq1 hd rfl | exact dq0 hd rfl | exact dq2 hd rfl | exact dq3 hd rfl | omega) hI90 (in_w 0 65535 i65 rfl) (in_w 0 59 i47 rfl) (in_w 0 10 i74 rfl)) (fun e u h => h) (fun v u h => ?_)
            obtain ⟨s134, hI134, hF134, rfl, rfl⟩ := h
            show GG _ _ _ _ _ _ _ _ [] _ _ _
            refine g_iload_n 138 (gd rfl) rfl rfl ?_
            refine g_iconst 1 139 (gd rfl) rfl rfl ?_
            refine g_iadd 140 (gd rfl) rfl (fun z139 e139 => ?_)
            have i139 := in_add 1 60 e139 i47 (in_c 1 rfl) rfl rfl
            refine g_aload_n 141 (gd rfl) rfl rfl ?_
            refine g_getI 144 (gd rfl) rfl rfl rfl (fun z141 e141 => ?_)
            have q141 : u_46_1 = z141 := (fr_F (s := (sL (sI sc42 97 z74.toNatClampNeg y42_3) 98 z74.toNatClampNeg (Int64.ofInt 0))) (sL_F (sI_F (fr_F e_46_1 hFc42 rfl))) hF134 rfl).trans e141.symm
            subst q141
            refine g_cmp_ge 147 164 (gd rfl) rfl rfl (fun c144 => ?_) (fun c144 => ?_)
            · skip
              refine g_iinc 167 (gd rfl) rfl rfl (Nat.le_of_ble_eq_true rfl) (fun z164 e164 => ?_)
              have i164 := in_add 1 60 e164 i47 (in_c 1 rfl) rfl rfl
              refine g_goto 42 (gd rfl) rfl ?_
              exact gg_w (by first | exact Nat.le_add_right _ _ | exact gw2 | exact gw3 | exact gwe rfl | exact gwf rfl | exact gwg rfl | exact gwh rfl | omega) (gg_f (gf_cons rfl (gf_cons rfl (gf_cons rfl (gf_cons rfl gf_nil)))) (ih42 s134 z74 z164 hI134 (fr_tr rfl (fr_sL rfl (fr_sI rfl hFc42)) hF134) (in_w 0 10 i74 rfl) (in_w 0 60 i164 rfl) (m_up mm42 (t_add e164 i47 (in_c 1 rfl) rfl) (in_w 1 1 (in_c 1 rfl) rfl))))
            · skip
              have i144 := r_lt1 1 59 c144 i139 i47a rfl
              have i144a := r_lt2 2 60 c144 i139 i47a rfl
              refine g_aload_n 148 (gd rfl) rfl rfl ?_
              refine g_aload_n 149 (gd rfl) rfl rfl ?_
              refine g_getA (q2 := 47) 152 (gd rfl) rfl rfl rfl rfl ?_
              refine g_iload_n 153 (gd rfl) rfl rfl ?_
              refine g_iconst 1 154 (gd rfl) rfl rfl ?_
              refine g_iadd 155 (gd rfl) rfl (fun z154 e154 => ?_)
              have i154 := in_add 1 60 e154 i47 (in_c 1 rfl) rfl rfl
              refine g_caload 156 (gd rfl) rfl (n := 1000) rfl (in_ix i154 rfl) (fun z155 e155 => ?_)
              have i155 := inv_I hI134 (n := 1000) (t := 2) 0 65535 rfl (in_ix i154 rfl) rfl e155
              refine g_iload 158 (gd rfl) rfl rfl ?_
              refine g_iload_n 159 (gd rfl) rfl rfl ?_
              refine g_iconst 1 160 (gd rfl) rfl rfl ?_
              refine g_iadd 161 (gd rfl) rfl (fun z160 e160 => ?_)
              have i160 := in_add 1 60 e160 i47 (in_c 1 rfl) rfl rfl
              refine g_callv (X := _) (As := [.int z155, .int y42_3, .int z160]) (r := []) (b := A 94) (q := 94) 164 (gd rfl) rfl rfl rfl rfl rfl (ww_o rfl) (Nat.le_of_ble_eq_true rfl) (mc := 0) (ms := 0) (Nat.zero_le _) (Nat.zero_le _) (P := fun v u => _) ?_ (fun e u h => h) (fun v u h => h)
              intro po161 xx161 hp161 hx161
              refine g_enter2 (k := 161) (N := 300) (by first | exact dq1 hd rfl | exact dq0 hd rfl | exact dq2 hd rfl | exact dq3 hd rfl | omega) rfl (Nat.le_of_ble_eq_true rfl) ?_
              refine g_iload_n 1 (gd rfl) rfl rfl ?_
              refine g_bipush 42 3 (gd rfl) rfl rfl ?_
              refine g_cmp_eq 6 12 (gd rfl) rfl rfl (fun c161x3 => ?_) (fun c161x3 => ?_)
              · skip
                have i161x3 := r_eq1 42 42 c161x3 i155 (in_c 42 rfl) rfl
                refine g_aload_n 13 (gd rfl) rfl rfl ?_
                refine g_getA (q2 := 95) 16 (gd rfl) rfl rfl rfl rfl ?_
                refine g_iload_n 17 (gd rfl) rfl rfl ?_
                refine g_dup2 18 (gd rfl) rfl rfl rfl ?_
                refine g_laload 19 (gd rfl) rfl (n := 61) rfl (in_ix i160 rfl) (fun z161x18 e161x18 => ?_)
                have i161x18 := inv_L hI134 (n := 61) 0 2305843009213693951 rfl (in_ix i160 rfl) rfl e161x18
                refine g_lconst 1 20 (gd rfl) rfl rfl ?_
                refine g_iload_n 21 (gd rfl) rfl rfl ?_
                refine g_lshl 22 (gd rfl) rfl (fun z161x21 e161x21 => ?_)
                have i161x21 := l_shl 59 e161x21 i47 rfl
                refine g_lor 23 (gd rfl) rfl (fun z161x22 e161x22 => ?_)
                have i161x22 := inl_or 61 e161x22 (lw 0 2305843009213693951 i161x18 rfl) (lw 0 2305843009213693951 i161x21 rfl) rfl
                refine g_lastore 24 (gd rfl) rfl (n := 61) rfl (in_ix i160 rfl) ?_
                have hI161x23 := inv_sL (q := 95) (j := z160.toNatClampNeg) (x := z161x22) hI134 rfl (lw 0 2305843009213693951 i161x22 rfl)
                refine g_iload_n 25 (gd rfl) rfl rfl ?_
                refine g_bipush 42 27 (gd rfl) rfl rfl ?_
                refine g_cmp_eq 30 36 (gd rfl) rfl rfl (fun c161x27 => ?_) (fun c161x27 => ?_)
                · skip
                  refine g_aload_n 37 (gd rfl) rfl rfl ?_
                  refine g_getA (q2 := 95) 40 (gd rfl) rfl rfl rfl rfl ?_
                  refine g_iload_n 41 (gd rfl) rfl rfl ?_
                  refine g_dup2 42 (gd rfl) rfl rfl rfl ?_
                  refine g_laload 43 (gd rfl) rfl (n := 61) rfl (in_ix i47 rfl) (fun z161x42 e161x42 => ?_)
                  have i161x42 := inv_L hI161x23 (n := 61) 0 2305843009213693951 rfl (in_ix i47 rfl) rfl e161x42
                  refine g_lconst 1 44 (gd rfl) rfl rfl ?_
                  refine g_iload_n 45 (gd rfl) rfl rfl ?_
                  refine g_lshl 46 (gd rfl) rfl (fun z161x45 e161x45 => ?_)
                  have i161x45 := l_shl 60 e161x45 i160 rfl
                  refine g_lor 47 (gd rfl) rfl (fun z161x46 e161x46 => ?_)
                  have i161x46 := inl_or 61 e161x46 (lw 0 2305843009213693951 i161x42 rfl) (lw 0 2305843009213693951 i161x45 rfl) rfl
                  refine g_lastore 48 (gd rfl) rfl (n := 61) rfl (in_ix i47 rfl) ?_
                  have hI161x47 := inv_sL (q := 95) (j := y42_3.toNatClampNeg) (x := z161x46) hI161x23 rfl (lw 0 2305843009213693951 i161x46 rfl)
                  refine g_return (gd rfl) rfl (hp161 _ _ ?_)
                  show GG _ _ _ _ _ _ _ _ [] _ _ _
                  refine g_iinc 167 (gd rfl) rfl rfl (Nat.le_of_ble_eq_true rfl) (fun z164 e164 => ?_)
                  have i164 := in_add 1 60 e164 i47 (in_c 1 rfl) rfl rfl
                  refine g_goto 42 (gd rfl) rfl ?_
                  exact gg_w (by first | exact Nat.le_add_right _ _ | exact gw2 | exact gw3 | exact gwe rfl | exact gwf rfl | exact gwg rfl | exact gwh rfl | omega) (gg_f (gf_cons rfl (gf_cons rfl (gf_cons rfl (gf_cons rfl gf_nil)))) (ih42 (sL (sL s134 95 z160.toNatClampNeg z161x22) 95 y42_3.toNatClampNeg z161x46) z74 z164 hI161x47 (fr_sL rfl (fr_sL rfl (fr_tr rfl (fr_sL rfl (fr_sI rfl hFc42)) hF134))) (in_w 0 10 i74 rfl) (in_w 0 60 i164 rfl) (m_up mm42 (t_add e164 i47 (in_c 1 rfl) rfl) (in_w 1 1 (in_c 1 rfl) rfl))))
                · skip
                  exact n_ne c161x27 i161x3 (in_c 42 rfl) rfl
              · skip
                refine g_iload_n 7 (gd rfl) rfl rfl ?_
                refine g_bipush 43 9 (gd rfl) rfl rfl ?_
                refine g_cmp_ne 12 24 (gd rfl) rfl rfl (fun c161x9 => ?_) (fun c161x9 => ?_)
                · skip
                  refine g_iload_n 25 (gd rfl) rfl rfl ?_
                  refine g_bipush 42 27 (gd rfl) rfl rfl ?_
                  refine g_cmp_eq 30 36 (gd rfl) rfl rfl (fun c161x27 => ?_) (fun c161x27 => ?_)
                  · skip
                    exact absurd c161x27 c161x3
                  · skip
                    refine g_iload_n 31 (gd rfl) rfl rfl ?_
                    refine g_bipush 63 33 (gd rfl) rfl rfl ?_
                    refine g_cmp_ne 36 48 (gd rfl) rfl rfl (fun c161x33 => ?_) (fun c161x33 => ?_)
                    · skip
                      refine g_return (gd rfl) rfl (hp161 _ _ ?_)
                      show GG _ _ _ _ _ _ _ _ [] _ _ _
                      refine g_iinc 167 (gd rfl) rfl rfl (Nat.le_of_ble_eq_true rfl) (fun z164 e164 => ?_)
                      have i164 := in_add 1 60 e164 i47 (in_c 1 rfl) rfl rfl
                      refine g_goto 42 (gd rfl) rfl ?_
                      exact gg_w (by first | exact Nat.le_add_right _ _ | exact gw2 | exact gw3 | exact gwe rfl | exact gwf rfl | exact gwg rfl | exact gwh rfl | omega) (gg_f (gf_cons rfl (gf_cons rfl (gf_cons rfl (gf_cons rfl gf_nil)))) (ih42 s134 z74 z164 hI134 (fr_tr rfl (fr_sL rfl (fr_sI rfl hFc42)) hF134) (in_w 0 10 i74 rfl) (in_w 0 60 i164 rfl) (m_up mm42 (t_add e164 i47 (in_c 1 rfl) rfl) (in_w 1 1 (in_c 1 rfl) rfl))))
                    · skip
                      have i161x33 := r_eq1 63 63 c161x33 i155 (in_c 63 rfl) rfl
                      refine g_aload_n 37 (gd rfl) rfl rfl ?_
                      refine g_getA (q2 := 95) 40 (gd rfl) rfl rfl rfl rfl ?_
                      refine g_iload_n 41 (gd rfl) rfl rfl ?_
                      refine g_dup2 42 (gd rfl) rfl rfl rfl ?_
                      refine g_laload 43 (gd rfl) rfl (n := 61) rfl (in_ix i47 rfl) (fun z161x42 e161x42 => ?_)
                      have i161x42 := inv_L hI134 (n := 61) 0 2305843009213693951 rfl (in_ix i47 rfl) rfl e161x42
                      refine g_lconst 1 44 (gd rfl) rfl rfl ?_
                      refine g_iload_n 45 (gd rfl) rfl rfl ?_
                      refine g_lshl 46 (gd rfl) rfl (fun z161x45 e161x45 => ?_)
                      have i161x45 := l_shl 60 e161x45 i160 rfl
                      refine g_lor 47 (gd rfl) rfl (fun z161x46 e161x46 => ?_)
                      have i161x46 := inl_or 61 e161x46 (lw 0 2305843009213693951 i161x42 rfl) (lw 0 2305843009213693951 i161x45 rfl) rfl
                      refine g_lastore 48 (gd rfl) rfl (n := 61) rfl (in_ix i47 rfl) ?_
                      have hI161x47 := inv_sL (q := 95) (j := y42_3.toNatClampNeg) (x := z161x46) hI134 rfl (lw 0 2305843009213693951 i161x46 rfl)
                      refine g_return (gd rfl) rfl (hp161 _ _ ?_)
                      show GG _ _ _ _ _ _ _ _ [] _ _ _
                      refine g_iinc 167 (gd rfl) rfl rfl (Nat.le_of_ble_eq_true rfl) (fun z164 e164 => ?_)
                      have i164 := in_add 1 60 e164 i47 (in_c 1 rfl) rfl rfl
                      refine g_goto 42 (gd rfl) rfl ?_
                      exact gg_w (by first | exact Nat.le_add_right _ _ | exact gw2 | exact gw3 | exact gwe rfl | exact gwf rfl | exact gwg rfl | exact gwh rfl | omega) (gg_f (gf_cons rfl (gf_cons rfl (gf_cons rfl (gf_cons rfl gf_nil)))) (ih42 (sL s134 95 y42_3.toNatClampNeg z161x46) z74 z164 hI161x47 (fr_sL rfl (fr_tr rfl (fr_sL rfl (fr_sI rfl hFc42)) hF134)) (in_w 0 10 i74 rfl) (in_w 0 60 i164 rfl) (m_up mm42 (t_add e164 i47 (in_c 1 rfl) rfl) (in_w 1 1 (in_c 1 rfl) rfl))))
                · skip
                  have i161x9 := r_eq1 43 43 c161x9 i155 (in_c 43 rfl) rfl
                  refine g_aload_n 13 (gd rfl) rfl rfl ?_
                  refine g_getA (q2 := 95) 16 (gd rfl) rfl rfl rfl rfl ?_
                  refine g_iload_n 17 (gd rfl) rfl rfl ?_
                  refine g_dup2 18 (gd rfl) rfl rfl rfl ?_
                  refine g_laload 19 (gd rfl) rfl (n := 61) rfl (in_ix i160 rfl) (fun z161x18 e161x18 => ?_)
                  have i161x18 := inv_L hI134 (n := 61) 0 2305843009213693951 rfl (in_ix i160 rfl) rfl e161x18
                  refine g_lconst 1 20 (gd rfl) rfl rfl ?_
                  refine g_iload_n 21 (gd rfl) rfl rfl ?_
                  refine g_lshl 22 (gd rfl) rfl (fun z161x21 e161x21 => ?_)
                  have i161x21 := l_shl 59 e161x21 i47 rfl
                  refine g_lor 23 (gd rfl) rfl (fun z161x22 e161x22 => ?_)
                  have i161x22 := inl_or 61 e161x22 (lw 0 2305843009213693951 i161x18 rfl) (lw 0 2305843009213693951 i161x21 rfl) rfl
                  refine g_lastore 24 (gd rfl) rfl (n := 61) rfl (in_ix i160 rfl) ?_
                  have hI161x23 := inv_sL (q := 95) (j := z160.toNatClampNeg) (x := z161x22) hI134 rfl (lw 0 2305843009213693951 i161x22 rfl)
                  refine g_iload_n 25 (gd rfl) rfl rfl ?_
                  refine g_bipush 42 27 (gd rfl) rfl rfl ?_
                  refine g_cmp_eq 30 36 (gd rfl) rfl rfl (fun c161x27 => ?_) (fun c161x27 => ?_)
                  · skip
                    exact absurd c161x27 c161x3
                  · skip
                    refine g_iload_n 31 (gd rfl) rfl rfl ?_
                    refine g_bipush 63 33 (gd rfl) rfl rfl ?_
                    refine g_cmp_ne 36 48 (gd rfl) rfl rfl (fun c161x33 => ?_) (fun c161x33 => ?_)
                    · skip
                      refine g_return (gd rfl) rfl (hp161 _ _ ?_)
                      show GG _ _ _ _ _ _ _ _ [] _ _ _
                      refine g_iinc 167 (gd rfl) rfl rfl (Nat.le_of_ble_eq_true rfl) (fun z164 e164 => ?_)
                      have i164 := in_add 1 60 e164 i47 (in_c 1 rfl) rfl rfl
                      refine g_goto 42 (gd rfl) rfl ?_
                      exact gg_w (by first | exact Nat.le_add_right _ _ | exact gw2 | exact gw3 | exact gwe rfl | exact gwf rfl | exact gwg rfl | exact gwh rfl | omega) (gg_f (gf_cons rfl (gf_cons rfl (gf_cons rfl (gf_cons rfl gf_nil)))) (ih42 (sL s134 95 z160.toNatClampNeg z161x22) z74 z164 hI161x23 (fr_sL rfl (fr_tr rfl (fr_sL rfl (fr_sI rfl hFc42)) hF134)) (in_w 0 10 i74 rfl) (in_w 0 60 i164 rfl) (m_up mm42 (t_add e164 i47 (in_c 1 rfl) rfl) (in_w 1 1 (in_c 1 rfl) rfl))))
                    · skip
                      exact n_eq c161x33 i161x9 (in_c 63 rfl) rfl
  refine g_enter2 (k := 158) (N := 55801) (by first | exact dq1 hd rfl | exact dq0 hd rfl | exact dq2 hd rfl | exact dq3 hd rfl | omega) rfl (Nat.le_of_ble_eq_true rfl) ?_
  refine g_aload_n 1 (gd rfl) rfl rfl ?_
  refine g_getA (q2 := 95) 4 (gd rfl) rfl rfl rfl rfl ?_
  refine g_lconst 0 5 (gd rfl) rfl rfl ?_
  refine g_calls (As := [.ref (A 95), .long (Int64.ofInt 0)]) (r := []) 8 (gd rfl) rfl rfl rfl rfl rfl (Nat.le_of_ble_eq_true rfl) (Nat.zero_le _) (Nat.zero_le _) (k_fillL 95 (by first | exact dq1 hd rfl | exact dq0 hd rfl | exact dq2 hd rfl | exact dq3 hd rfl | omega) hI (n := 61) rfl rfl rfl (lw 0 2305843009213693951 (l_c 0 rfl) rfl)) (fun v u h => ?_)
  obtain ⟨s5, hI5, hF5, rfl, rfl, fl5⟩ := h
  show GG _ _ _ _ _ _ _ _ [] _ _ _
  refine g_aload_n 9 (gd rfl) rfl rfl ?_
  refine g_getA (q2 := 96) 12 (gd rfl) rfl rfl rfl rfl ?_
  refine g_lconst 0 13 (gd rfl) rfl rfl ?_
  refine g_calls (As := [.ref (A 96), .long (Int64.ofInt 0)]) (r := []) 16 (gd rfl) rfl rfl rfl rfl rfl (Nat.le_of_ble_eq_true rfl) (Nat.zero_le _) (Nat.zero_le _) (k_fillL 96 (by first | exact dq1 hd rfl | exact dq0 hd rfl | exact dq2 hd rfl | exact dq3 hd rfl | omega) hI5 (n := 26) rfl rfl rfl (lw 0 1152921504606846975 (l_c 0 rfl) rfl)) (fun v u h => ?_)
  obtain ⟨s13, hI13, hF13, rfl, rfl, fl13⟩ := h
  show GG _ _ _ _ _ _ _ _ [] _ _ _
  refine g_aload_n 17 (gd rfl) rfl rfl ?_
  refine g_lconst 1 18 (gd rfl) rfl rfl ?_
  refine g_putL 21 (gd rfl) rfl rfl rfl rfl ?_
  have hI18 := inv_sG (q := 94) (j := 0) (x := (Int64.ofInt 1)) hI13 rfl (lw 0 2305843009213693951 (l_c 1 rfl) rfl)
  refine g_aload_n 22 (gd rfl) rfl rfl ?_
  refine g_lconst 1 23 (gd rfl) rfl rfl ?_
  refine g_aload_n 24 (gd rfl) rfl rfl ?_
  refine g_getI 27 (gd rfl) rfl rfl rfl (fun z24 e24 => ?_)
  have q24 : u_46_1 = z24 := (sG_F (fr_F (fr_F (e_46_1) hF5 rfl) hF13 rfl)).trans e24.symm
  subst q24
  refine g_lshl 28 (gd rfl) rfl (fun z27 e27 => ?_)
  have i27 := l_shl 60 e27 r_46_1 rfl
  refine g_putL 31 (gd rfl) rfl rfl rfl rfl ?_
  have hI28 := inv_sG (q := 94) (j := 1) (x := z27) hI18 rfl (lw 0 2305843009213693951 i27 rfl)
  refine g_aload_n 32 (gd rfl) rfl rfl ?_
  refine g_getA (q2 := 98) 35 (gd rfl) rfl rfl rfl rfl ?_
  refine g_iconst 0 36 (gd rfl) rfl rfl ?_
  refine g_lconst 0 37 (gd rfl) rfl rfl ?_
  refine g_lastore 38 (gd rfl) rfl (n := 11) rfl (in_ix (in_c 0 rfl) rfl) ?_
  have hI37 := inv_sL (q := 98) (j := (Int32.ofInt 0).toNatClampNeg) (x := (Int64.ofInt 0)) hI28 rfl (lw 0 1152921504606846975 (l_c 0 rfl) rfl)
  refine g_iconst 0 39 (gd rfl) rfl rfl ?_
  refine g_istore_n 40 (gd rfl) rfl (Nat.le_of_ble_eq_true rfl) ?_
  refine g_iconst 0 41 (gd rfl) rfl rfl ?_
  refine g_istore_n 42 (gd rfl) rfl (Nat.le_of_ble_eq_true rfl) ?_
  exact gg_w (by first | exact Nat.le_of_ble_eq_true rfl | omega) (gg_f (gf_cons rfl (gf_cons rfl (gf_cons rfl (gf_cons rfl gf_nil)))) (ct42 61 (sL (sG (sG s13 94 0 (Int64.ofInt 1)) 94 1 z27) 98 (Int32.ofInt 0).toNatClampNeg (Int64.ofInt 0)) (Int32.ofInt 0) (Int32.ofInt 0) hI37 (fr_sL rfl (fr_sG rfl (fr_sG rfl (fr_tr rfl (fr_tr rfl fr_rf hF5) hF13)))) (in_w 0 10 (in_c 0 rfl) rfl) (in_w 0 60 (in_c 0 rfl) rfl) (m_in 61 (in_w 0 60 (in_c 0 rfl) rfl) rfl)))

def fm_164_94_2 : FM := ([], [99, 100, 101], [], [])
/-- GraphHouse$Question.step -/
theorem k_164_94_2 {Z : AmZ} {A : Nat → Nat} {s : GS} {ex : va_W} {d : Nat} {X : AmX}  (hd : 5 ≤ d) (hI : Inv s)  : GC Z d 164 [.ref (A 94), .ref (A 2)] (WW Z A s ++ ex) 0 0 (fun v u => ∃ t : GS, Inv t ∧ Fr fm_164_94_2 s t ∧ ∃ z : Int32, v = some (.int z) ∧ u = WW Z A t ++ ex ∧ In z 0 1) X := by
  intro post xp hP hX
  obtain ⟨u_2_1, e_2_1⟩ : ∃ w, w = s.2.2.1 2 1 := ⟨_, rfl⟩
  have ro_2_1 := inv_F hI 0 32 rfl e_2_1
  have ct12 : ∀ (k12 : Nat) (sc12 : GS) (y12_2 : Int32) (y12_3 : Int32), Inv sc12 → Fr fm_164_94_2 s sc12 → (In y12_2 0 1) → (In y12_3 0 32) → 32 - (y12_3).toInt < (k12 : Int) → GG Z (d - 1) 164 post (gx xp) (1 + k12 * 147601) 12 (fun j => xlook j [(0, .ref (A 94)), (1, .ref (A 2)), (2, .int y12_2), (3, .int y12_3)]) [] (WW Z A sc12 ++ ex) 0 0 := by
    intro k12
    induction k12 with
    | zero => intro sc12 y12_2 y12_3 hIc12 hFc12 j12_2 j12_3 mm12; exact m_no mm12 j12_3 rfl
    | succ k12 ih12 =>
      intro sc12 y12_2 y12_3 hIc12 hFc12 j12_2 j12_3 mm12
      refine gg_w (M := 1 + k12 * 147601 + 147601) gws ?_
      have ct28 : ∀ (k28 : Nat) (sc28 : GS) (y28_2 : Int32) (y28_4 : Int32), Inv sc28 → Fr fm_164_94_2 s sc28 → (In y28_2 0 1) → (In y12_3 0 31) → (In y28_4 0 160) → 160 - (y28_4).toInt < (k28 : Int) → GG Z (d - 1) 164 post (gx xp) (1 + k12 * 147601 + 1 + k28 * 900) 28 (fun j => xlook j [(0, .ref (A 94)), (1, .ref (A 2)), (2, .int y28_2), (3, .int y12_3), (4, .int y28_4)]) [] (WW Z A sc28 ++ ex) 0 0 := by
        intro k28
        induction k28 with
        | zero => intro sc28 y28_2 y28_4 hIc28 hFc28 j28_2 j28_3 j28_4 mm28; exact m_no mm28 j28_4 rfl
        | succ k28 ih28 =>
          intro sc28 y28_2 y28_4 hIc28 hFc28 j28_2 j28_3 j28_4 mm28
          refine gg_w (M := 1 + k12 * 147601 + 1 + k28 * 900 + 900) gws ?_
          refine g_iload 30 (gd rfl) rfl rfl ?_
          refine g_aload_n 31 (gd rfl) rfl rfl ?_
          refine g_getA (q2 := 12) 34 (gd rfl) rfl rfl rfl rfl ?_
          refine g_iload_n 35 (gd rfl) rfl rfl ?_
          refine g_iconst 1 36 (gd rfl) rfl rfl ?_
          refine g_iadd 37 (gd rfl) rfl (fun z36 e36 => ?_)
          have i36 := in_add 1 32 e36 j28_3 (in_c 1 rfl) rfl rfl
          refine g_iaload 38 (gd rfl) rfl (n := 33) rfl (in_ix i36 rfl) (fun z37 e37 => ?_)
          have i37 := inv_I hIc28 (n := 33) (t := 0) 0 160 rfl (in_ix i36 rfl) rfl e37
          refine g_cmp_ge 41 152 (gd rfl) rfl rfl (fun c38 => ?_) (fun c38 => ?_)
          · skip
            refine g_iinc 155 (gd rfl) rfl rfl (Nat.le_of_ble_eq_true rfl) (fun z152 e152 => ?_)
            have i152 := in_add 1 32 e152 j28_3 (in_c 1 rfl) rfl rfl
            refine g_goto 12 (gd rfl) rfl ?_
            exact gg_w (by first | exact Nat.le_add_right _ _ | exact gw2 | exact gw3 | exact gwe rfl | exact gwf rfl | exact gwg rfl | exact gwh rfl | omega) (gg_f (gf_cons rfl (gf_cons rfl (gf_cons rfl (gf_cons rfl gf_nil)))) (ih12 sc28 y28_2 z152 hIc28 hFc28 (in_w 0 1 j28_2 rfl) (in_w 0 32 i152 rfl) (m_up mm12 (t_add e152 j28_3 (in_c 1 rfl) rfl) (in_w 1 1 (in_c 1 rfl) rfl))))
          · skip
            have i38 := r_lt1 0 159 c38 j28_4 i37 rfl
            have i38a := r_lt2 1 160 c38 j28_4 i37 rfl
            refine g_aload_n 42 (gd rfl) rfl rfl ?_
            refine g_getA (q2 := 99) 45 (gd rfl) rfl rfl rfl rfl ?_
            refine g_iload_n 46 (gd rfl) rfl rfl ?_
            refine g_laload 47 (gd rfl) rfl (n := 32) rfl (in_ix j28_3 rfl) (fun z46 e46 => ?_)
            have i46 := inv_L hIc28 (n := 32) 0 2305843009213693951 rfl (in_ix j28_3 rfl) rfl e46
            refine g_lconst 0 48 (gd rfl) rfl rfl ?_
            refine g_lcmp 49 (gd rfl) rfl (fun z48 e48 => ?_)
            have i48 := lc_in e48
            refine g_if_eq 52 152 (gd rfl) rfl rfl (fun c49 => ?_) (fun c49 => ?_)
            · skip
              have i49 := z_eq 0 0 c49 i48 rfl
              have c49a := lc_eq e48 c49
              have i49a := lr_eq1 0 0 c49a i46 (l_c 0 rfl) rfl
              refine g_iinc 155 (gd rfl) rfl rfl (Nat.le_of_ble_eq_true rfl) (fun z152 e152 => ?_)
              have i152 := in_add 1 32 e152 j28_3 (in_c 1 rfl) rfl rfl
              refine g_goto 12 (gd rfl) rfl ?_
              exact gg_w (by first | exact Nat.le_add_right _ _ | exact gw2 | exact gw3 | exact gwe rfl | exact gwf rfl | exact gwg rfl | exact gwh rfl | omega) (gg_f (gf_cons rfl (gf_cons rfl (gf_cons rfl (gf_cons rfl gf_nil)))) (ih12 sc28 y28_2 z152 hIc28 hFc28 (in_w 0 1 j28_2 rfl) (in_w 0 32 i152 rfl) (m_up mm12 (t_add e152 j28_3 (in_c 1 rfl) rfl) (in_w 1 1 (in_c 1 rfl) rfl))))
            · skip
              have c49a := lc_ne e48 c49
              have i49 := lr_ne1 1 2305843009213693951 c49a i46 (l_c 0 rfl) rfl
              refine g_aload_n 53 (gd rfl) rfl rfl ?_
              refine g_getA (q2 := 13) 56 (gd rfl) rfl rfl rfl rfl ?_
              refine g_iload 58 (gd rfl) rfl rfl ?_
              refine g_iaload 59 (gd rfl) rfl (n := 160) rfl (in_ix i38 rfl) (fun z58 e58 => ?_)
              have i58 := inv_I hIc28 (n := 160) (t := 0) 0 159 rfl (in_ix i38 rfl) rfl e58
              refine g_istore 61 (gd rfl) rfl (Nat.le_of_ble_eq_true rfl) ?_
              refine g_aload_n 62 (gd rfl) rfl rfl ?_
              refine g_getA (q2 := 5) 65 (gd rfl) rfl rfl rfl rfl ?_
              refine g_iload 67 (gd rfl) rfl rfl ?_
              refine g_iaload 68 (gd rfl) rfl (n := 160) rfl (in_ix i58 rfl) (fun z67 e67 => ?_)
              have i67 := inv_I hIc28 (n := 160) (t := 0) 0 31 rfl (in_ix i58 rfl) rfl e67
              refine g_istore 70 (gd rfl) rfl (Nat.le_of_ble_eq_true rfl) ?_
              refine g_aload_n 71 (gd rfl) rfl rfl ?_
              refine g_aload_n 72 (gd rfl) rfl rfl ?_
              refine g_getA (q2 := 99) 75 (gd rfl) rfl rfl rfl rfl ?_
              refine g_iload_n 76 (gd rfl) rfl rfl ?_
              refine g_laload 77 (gd rfl) rfl (n := 32) rfl (in_ix j28_3 rfl) (fun z76 e76 => ?_)
              have i76 := inv_L hIc28 (n := 32) 0 2305843009213693951 rfl (in_ix j28_3 rfl) rfl e76
              refine g_aload_n 78 (gd rfl) rfl rfl ?_
              refine g_getA (q2 := 96) 81 (gd rfl) rfl rfl rfl rfl ?_
              refine g_aload_n 82 (gd rfl) rfl rfl ?_
              refine g_getA (q2 := 8) 85 (gd rfl) rfl rfl rfl rfl ?_
              refine g_iload 87 (gd rfl) rfl rfl ?_
              refine g_iaload 88 (gd rfl) rfl (n := 160) rfl (in_ix i58 rfl) (fun z87 e87 => ?_)
              have i87 := inv_I hIc28 (n := 160) (t := 0) 0 25 rfl (in_ix i58 rfl) rfl e87
              refine g_laload 89 (gd rfl) rfl (n := 26) rfl (in_ix i87 rfl) (fun z88 e88 => ?_)
              have i88 := inv_L hIc28 (n := 26) 0 1152921504606846975 rfl (in_ix i87 rfl) rfl e88
              refine g_land 90 (gd rfl) rfl (fun z89 e89 => ?_)
              have i89 := inl_and2 e89 i88 rfl
              have p90 : InL z89 0 1152921504606846975 := by exact lw 0 1152921504606846975 i89 rfl
              refine g_callv (X := _) (As := [.long z89]) (r := []) (b := A 94) (q := 94) 93 (gd rfl) rfl rfl rfl rfl rfl (ww_o rfl) (Nat.le_of_ble_eq_true rfl) (Nat.zero_le _) (Nat.zero_le _) (k_165_94 (by first | exact dq1 hd rfl | exact dq0 hd rfl | exact dq2 hd rfl | exact dq3 hd rfl | omega) hIc28 p90) (fun e u h => h) (fun v u h => ?_)
              obtain ⟨z90, rfl, rfl, p90a⟩ := h
              show GG _ _ _ _ _ _ _ _ [.long z90] _ _ _
              have i93 : InL z90 0 2305843009213693951 := by exact p90a
              refine g_aload_n 94 (gd rfl) rfl rfl ?_
              refine g_getA (q2 := 101) 97 (gd rfl) rfl rfl rfl rfl ?_
              refine g_iload 99 (gd rfl) rfl rfl ?_
              refine g_laload 100 (gd rfl) rfl (n := 32) rfl (in_ix i67 rfl) (fun z99 e99 => ?_)
              have i99 := inv_L hIc28 (n := 32) 0 2305843009213693951 rfl (in_ix i67 rfl) rfl e99
              refine g_ldc2_w (-1) 103 (gd rfl) rfl rfl ?_
              refine g_lxor 104 (gd rfl) rfl (fun z103 e103 => ?_)
              refine g_land 105 (gd rfl) rfl (fun z104 e104 => ?_)
              have i104 := inl_and1 e104 i93 rfl
              refine g_lstore 107 (gd rfl) rfl (Nat.le_of_ble_eq_true rfl) ?_
              refine g_aload_n 108 (gd rfl) rfl rfl ?_
              refine g_getA (q2 := 100) 111 (gd rfl) rfl rfl rfl rfl ?_
              refine g_iload 113 (gd rfl) rfl rfl ?_
              refine g_dup2 114 (gd rfl) rfl rfl rfl ?_
              refine g_laload 115 (gd rfl) rfl (n := 32) rfl (in_ix i67 rfl) (fun z114 e114 => ?_)
              have i114 := inv_L hIc28 (n := 32) 0 2305843009213693951 rfl (in_ix i67 rfl) rfl e114
              refine g_lload 117 (gd rfl) rfl rfl ?_
              refine g_lor 118 (gd rfl) rfl (fun z117 e117 => ?_)
              have i117 := inl_or 61 e117 (lw 0 2305843009213693951 i114 rfl) (lw 0 2305843009213693951 i104 rfl) rfl
              refine g_lastore 119 (gd rfl) rfl (n := 32) rfl (in_ix i67 rfl) ?_
              have hI118 := inv_sL (q := 100) (j := z67.toNatClampNeg) (x := z117) hIc28 rfl (lw 0 2305843009213693951 i117 rfl)
              refine g_aload_n 120 (gd rfl) rfl rfl ?_
              refine g_getA (q2 := 101) 123 (gd rfl) rfl rfl rfl rfl ?_
              refine g_iload 125 (gd rfl) rfl rfl ?_
              refine g_dup2 126 (gd rfl) rfl rfl rfl ?_
              refine g_laload 127 (gd rfl) rfl (n := 32) rfl (in_ix i67 rfl) (fun z126 e126 => ?_)
              have i126 := inv_L hI118 (n := 32) 0 2305843009213693951 rfl (in_ix i67 rfl) rfl e126
              refine g_lload 129 (gd rfl) rfl rfl ?_
              refine g_lor 130 (gd rfl) rfl (fun z129 e129 => ?_)
              have i129 := inl_or 61 e129 (lw 0 2305843009213693951 i126 rfl) (lw 0 2305843009213693951 i104 rfl) rfl
              refine g_lastore 131 (gd rfl) rfl (n := 32) rfl (in_ix i67 rfl) ?_
              have hI130 := inv_sL (q := 101) (j := z67.toNatClampNeg) (x := z129) hI118 rfl (lw 0 2305843009213693951 i129 rfl)
              refine g_iload_n 132 (gd rfl) rfl rfl ?_
              refine g_lload 134 (gd rfl) rfl rfl ?_
              refine g_lconst 0 135 (gd rfl) rfl rfl ?_
              refine g_lcmp 136 (gd rfl) rfl (fun z135 e135 => ?_)
              have i135 := lc_in e135
              refine g_if_eq 139 143 (gd rfl) rfl rfl (fun c136 => ?_) (fun c136 => ?_)
              · skip
                have i136 := z_eq 0 0 c136 i135 rfl
                have c136a := lc_eq e135 c136
                have i136a := lr_eq1 0 0 c136a i104 (l_c 0 rfl) rfl
                refine g_iconst 0 144 (gd rfl) rfl rfl ?_
                refine g_ior 145 (gd rfl) rfl (fun z144 e144 => ?_)
                have i144 := in_or 1 e144 (in_w 0 1 j28_2 rfl) (in_w 0 1 (in_c 0 rfl) rfl) rfl
                refine g_istore_n 146 (gd rfl) rfl (Nat.le_of_ble_eq_true rfl) ?_
                refine g_iinc 149 (gd rfl) rfl rfl (Nat.le_of_ble_eq_true rfl) (fun z146 e146 => ?_)
                have i146 := in_add 1 160 e146 i38 (in_c 1 rfl) rfl rfl
                refine g_goto 28 (gd rfl) rfl ?_
                exact gg_w (by first | exact Nat.le_add_right _ _ | exact gw2 | exact gw3 | exact gwe rfl | exact gwf rfl | exact gwg rfl | exact gwh rfl | omega) (gg_f (gf_cons rfl (gf_cons rfl (gf_cons rfl (gf_cons rfl (gf_cons rfl gf_nil))))) (ih28 (sL (sL sc28 100 z67.toNatClampNeg z117) 101 z67.toNatClampNeg z129) z144 z146 hI130 (fr_sL rfl (fr_sL rfl hFc28)) (in_w 0 1 i144 rfl) (in_w 0 31 j28_3 rfl) (in_w 0 160 i146 rfl) (m_up mm28 (t_add e146 i38 (in_c 1 rfl) rfl) (in_w 1 1 (in_c 1 rfl) rfl))))
              · skip
                have c136a := lc_ne e135 c136
                have i136 := lr_ne1 1 2305843009213693951 c136a i104 (l_c 0 rfl) rfl
                refine g_iconst 1 140 (gd rfl) rfl rfl ?_
                refine g_goto 144 (gd rfl) rfl ?_
                refine g_ior 145 (gd rfl) rfl (fun z144 e144 => ?_)
                have i144 := in_or 1 e144 (in_w 0 1 j28_2 rfl) (in_w 0 1 (in_c 1 rfl) rfl) rfl
                refine g_istore_n 146 (gd rfl) rfl (Nat.le_of_ble_eq_true rfl) ?_
                refine g_iinc 149 (gd rfl) rfl rfl (Nat.le_of_ble_eq_true rfl) (fun z146 e146 => ?_)
                have i146 := in_add 1 160 e146 i38 (in_c 1 rfl) rfl rfl
                refine g_goto 28 (gd rfl) rfl ?_
                exact gg_w (by first | exact Nat.le_add_right _ _ | exact gw2 | exact gw3 | exact gwe rfl | exact gwf rfl | exact gwg rfl | exact gwh rfl | omega) (gg_f (gf_cons rfl (gf_cons rfl (gf_cons rfl (gf_cons rfl (gf_cons rfl gf_nil))))) (ih28 (sL (sL sc28 100 z67.toNatClampNeg z117) 101 z67.toNatClampNeg z129) z144 z146 hI130 (fr_sL rfl (fr_sL rfl hFc28)) (in_w 0 1 i144 rfl) (in_w 0 31 j28_3 rfl) (in_w 0 160 i146 rfl) (m_up mm28 (t_add e146 i38 (in_c 1 rfl) rfl) (in_w 1 1 (in_c 1 rfl) rfl))))
      refine g_iload_n 13 (gd rfl) rfl rfl ?_
      refine g_aload_n 14 (gd rfl) rfl rfl ?_
      refine g_getI 17 (gd rfl) rfl rfl rfl (fun z14 e14 => ?_)
      have q14 : u_2_1 = z14 := (fr_F e_2_1 hFc12 rfl).trans e14.symm
      subst q14
      refine g_cmp_ge 20 158 (gd rfl) rfl rfl (fun c17 => ?_) (fun c17 => ?_)
      · skip
        refine g_aload_n 159 (gd rfl) rfl rfl ?_
        refine g_getA (q2 := 100) 162 (gd rfl) rfl rfl rfl rfl ?_
        refine g_iconst 0 163 (gd rfl) rfl rfl ?_
        refine g_aload_n 164 (gd rfl) rfl rfl ?_
        refine g_getA (q2 := 99) 167 (gd rfl) rfl rfl rfl rfl ?_
        refine g_iconst 0 168 (gd rfl) rfl rfl ?_
        refine g_bipush 32 170 (gd rfl) rfl rfl ?_
        refine g_cpL (q2 := 100) (q := 99) (n0 := 32) (n1 := 32) 173 (gd rfl) rfl rfl rfl rfl (Nat.le_of_ble_eq_true rfl) (cp_0 (in_c 0 rfl) rfl) (cp_0 (in_c 0 rfl) rfl) (cp_0 (in_c 32 rfl) rfl) (cp_1 (in_c 0 rfl) (in_c 32 rfl) rfl) (cp_1 (in_c 0 rfl) (in_c 32 rfl) rfl) hIc12 rfl rfl rfl (fun s170 hI170 hF170 cp170 => ?_)
        refine g_iload_n 174 (gd rfl) rfl rfl ?_
        exact g_ireturn (gd rfl) rfl (nb01 (in_w 0 1 j12_2 rfl)) (hP _ _ ⟨s170, hI170, (fr_tr rfl hFc12 hF170), y12_2, rfl, rfl, in_w 0 1 j12_2 rfl⟩)
      · skip
        have i17 := r_lt1 0 31 c17 j12_3 ro_2_1 rfl
        have i17a := r_lt2 1 32 c17 j12_3 ro_2_1 rfl
        refine g_aload_n 21 (gd rfl) rfl rfl ?_
        refine g_getA (q2 := 12) 24 (gd rfl) rfl rfl rfl rfl ?_
        refine g_iload_n 25 (gd rfl) rfl rfl ?_
        refine g_iaload 26 (gd rfl) rfl (n := 33) rfl (in_ix i17 rfl) (fun z25 e25 => ?_)
        have i25 := inv_I hIc12 (n := 33) (t := 0) 0 160 rfl (in_ix i17 rfl) rfl e25
        refine g_istore 28 (gd rfl) rfl (Nat.le_of_ble_eq_true rfl) ?_
        exact gg_w (by first | exact Nat.le_add_right _ _ | exact gw2 | exact gw3 | exact gwe rfl | exact gwf rfl | exact gwg rfl | exact gwh rfl | omega) (gg_f (gf_cons rfl (gf_cons rfl (gf_cons rfl (gf_cons rfl (gf_cons rfl gf_nil))))) (ct28 161 sc12 y12_2 z25 hIc12 hFc12 (in_w 0 1 j12_2 rfl) (in_w 0 31 i17 rfl) (in_w 0 160 i25 rfl) (m_in 161 (in_w 0 160 i25 rfl) rfl)))
  refine g_enter2 (k := 164) (N := 4871734) (by first | exact dq1 hd rfl | exact dq0 hd rfl | exact dq2 hd rfl | exact dq3 hd rfl | omega) rfl (Nat.le_of_ble_eq_true rfl) ?_
  refine g_iconst 0 1 (gd rfl) rfl rfl ?_
  refine g_istore_n 2 (gd rfl) rfl (Nat.le_of_ble_eq_true rfl) ?_
  refine g_aload_n 3 (gd rfl) rfl rfl ?_
  refine g_getA (q2 := 100) 6 (gd rfl) rfl rfl rfl rfl ?_
  refine g_lconst 0 7 (gd rfl) rfl rfl ?_
  refine g_calls (As := [.ref (A 100), .long (Int64.ofInt 0)]) (r := []) 10 (gd rfl) rfl rfl rfl rfl rfl (Nat.le_of_ble_eq_true rfl) (Nat.zero_le _) (Nat.zero_le _) (k_fillL 100 (by first | exact dq1 hd rfl | exact dq0 hd rfl | exact dq2 hd rfl | exact dq3 hd rfl | omega) hI (n := 32) rfl rfl rfl (lw 0 2305843009213693951 (l_c 0 rfl) rfl)) (fun v u h => ?_)
  obtain ⟨s7, hI7, hF7, rfl, rfl, fl7⟩ := h
  show GG _ _ _ _ _ _ _ _ [] _ _ _
  refine g_iconst 0 11 (gd rfl) rfl rfl ?_
  refine g_istore_n 12 (gd rfl) rfl (Nat.le_of_ble_eq_true rfl) ?_
  exact gg_w (by first | exact Nat.le_of_ble_eq_true rfl | omega) (gg_f (gf_cons rfl (gf_cons rfl (gf_cons rfl (gf_cons rfl gf_nil)))) (ct12 33 s7 (Int32.ofInt 0) (Int32.ofInt 0) hI7 (fr_tr rfl fr_rf hF7) (in_w 0 1 (in_c 0 rfl) rfl) (in_w 0 32 (in_c 0 rfl) rfl) (m_in 33 (in_w 0 32 (in_c 0 rfl) rfl) rfl)))

def fm_164_94_32 : FM := ([], [99, 100, 101], [], [])
/-- GraphHouse$Question.step -/
theorem k_164_94_32 {Z : AmZ} {A : Nat → Nat} {s : GS} {ex : va_W} {d : Nat} {X : AmX}  (hd : 5 ≤ d) (hI : Inv s)  : GC Z d 164 [.ref (A 94), .ref (A 32)] (WW Z A s ++ ex) 0 0 (fun v u => ∃ t : GS, Inv t ∧ Fr fm_164_94_32 s t ∧ ∃ z : Int32, v = some (.int z) ∧ u = WW Z A t ++ ex ∧ In z 0 1) X := by
  intro post xp hP hX
  obtain ⟨u_32_1, e_32_1⟩ : ∃ w, w = s.2.2.1 32 1 := ⟨_, rfl⟩
  have ro_32_1 := inv_F hI 0 32 rfl e_32_1
  have ct12 : ∀ (k12 : Nat) (sc12 : GS) (y12_2 : Int32) (y12_3 : Int32), Inv sc12 → Fr fm_164_94_32 s sc12 → (In y12_2 0 1) → (In y12_3 0 32) → 32 - (y12_3).toInt < (k12 : Int) → GG Z (d - 1) 164 post (gx xp) (1 + k12 * 147601) 12 (fun j => xlook j [(0, .ref (A 94)), (1, .ref (A 32)), (2, .int y12_2), (3, .int y12_3)]) [] (WW Z A sc12 ++ ex) 0 0 := by
    intro k12
    induction k12 with
    | zero => intro sc12 y12_2 y12_3 hIc12 hFc12 j12_2 j12_3 mm12; exact m_no mm12 j12_3 rfl
    | succ k12 ih12 =>
      intro sc12 y12_2 y12_3 hIc12 hFc12 j12_2 j12_3 mm12
      refine gg_w (M := 1 + k12 * 147601 + 147601) gws ?_
      have ct28 : ∀ (k28 : Nat) (sc28 : GS) (y28_2 : Int32) (y28_4 : Int32), Inv sc28 → Fr fm_164_94_32 s sc28 → (In y28_2 0 1) → (In y12_3 0 31) → (In y28_4 0 160) → 160 - (y28_4).toInt < (k28 : Int) → GG Z (d - 1) 164 post (gx xp) (1 + k12 * 147601 + 1 + k28 * 900) 28 (fun j => xlook j [(0, .ref (A 94)), (1, .ref (A 32)), (2, .int y28_2), (3, .int y12_3), (4, .int y28_4)]) [] (WW Z A sc28 ++ ex) 0 0 := by
        intro k28
        induction k28 with
        | zero => intro sc28 y28_2 y28_4 hIc28 hFc28 j28_2 j28_3 j28_4 mm28; exact m_no mm28 j28_4 rfl
        | succ k28 ih28 =>
          intro sc28 y28_2 y28_4 hIc28 hFc28 j28_2 j28_3 j28_4 mm28
          refine gg_w (M := 1 + k12 * 147601 + 1 + k28 * 900 + 900) gws ?_
          refine g_iload 30 (gd rfl) rfl rfl ?_
          refine g_aload_n 31 (gd rfl) rfl rfl ?_
          refine g_getA (q2 := 42) 34 (gd rfl) rfl rfl rfl rfl ?_
          refine g_iload_n 35 (gd rfl) rfl rfl ?_
          refine g_iconst 1 36 (gd rfl) rfl rfl ?_
          refine g_iadd 37 (gd rfl) rfl (fun z36 e36 => ?_)
          have i36 := in_add 1 32 e36 j28_3 (in_c 1 rfl) rfl rfl
          refine g_iaload 38 (gd rfl) rfl (n := 33) rfl (in_ix i36 rfl) (fun z37 e37 => ?_)
          have i37 := inv_I hIc28 (n := 33) (t := 0) 0 160 rfl (in_ix i36 rfl) rfl e37
          refine g_cmp_ge 41 152 (gd rfl) rfl rfl (fun c38 => ?_) (fun c38 => ?_)
          · skip
            refine g_iinc 155 (gd rfl) rfl rfl (Nat.le_of_ble_eq_true rfl) (fun z152 e152 => ?_)
            have i152 := in_add 1 32 e152 j28_3 (in_c 1 rfl) rfl rfl
            refine g_goto 12 (gd rfl) rfl ?_
            exact gg_w (by first | exact Nat.le_add_right _ _ | exact gw2 | exact gw3 | exact gwe rfl | exact gwf rfl | exact gwg rfl | exact gwh rfl | omega) (gg_f (gf_cons rfl (gf_cons rfl (gf_cons rfl (gf_cons rfl gf_nil)))) (ih12 sc28 y28_2 z152 hIc28 hFc28 (in_w 0 1 j28_2 rfl) (in_w 0 32 i152 rfl) (m_up mm12 (t_add e152 j28_3 (in_c 1 rfl) rfl) (in_w 1 1 (in_c 1 rfl) rfl))))
          · skip
            have i38 := r_lt1 0 159 c38 j28_4 i37 rfl
            have i38a := r_lt2 1 160 c38 j28_4 i37 rfl
            refine g_aload_n 42 (gd rfl) rfl rfl ?_
            refine g_getA (q2 := 99) 45 (gd rfl) rfl rfl rfl rfl ?_
            refine g_iload_n 46 (gd rfl) rfl rfl ?_
            refine g_laload 47 (gd rfl) rfl (n := 32) rfl (in_ix j28_3 rfl) (fun z46 e46 => ?_)
            have i46 := inv_L hIc28 (n := 32) 0 2305843009213693951 rfl (in_ix j28_3 rfl) rfl e46
            refine g_lconst 0 48 (gd rfl) rfl rfl ?_
            refine g_lcmp 49 (gd rfl) rfl (fun z48 e48 => ?_)
            have i48 := lc_in e48
            refine g_if_eq 52 152 (gd rfl) rfl rfl (fun c49 => ?_) (fun c49 => ?_)
            · skip
              have i49 := z_eq 0 0 c49 i48 rfl
              have c49a := lc_eq e48 c49
              have i49a := lr_eq1 0 0 c49a i46 (l_c 0 rfl) rfl
              refine g_iinc 155 (gd rfl) rfl rfl (Nat.le_of_ble_eq_true rfl) (fun z152 e152 => ?_)
              have i152 := in_add 1 32 e152 j28_3 (in_c 1 rfl) rfl rfl
              refine g_goto 12 (gd rfl) rfl ?_
              exact gg_w (by first | exact Nat.le_add_right _ _ | exact gw2 | exact gw3 | exact gwe rfl | exact gwf rfl | exact gwg rfl | exact gwh rfl | omega) (gg_f (gf_cons rfl (gf_cons rfl (gf_cons rfl (gf_cons rfl gf_nil)))) (ih12 sc28 y28_2 z152 hIc28 hFc28 (in_w 0 1 j28_2 rfl) (in_w 0 32 i152 rfl) (m_up mm12 (t_add e152 j28_3 (in_c 1 rfl) rfl) (in_w 1 1 (in_c 1 rfl) rfl))))
            · skip
              have c49a := lc_ne e48 c49
              have i49 := lr_ne1 1 2305843009213693951 c49a i46 (l_c 0 rfl) rfl
              refine g_aload_n 53 (gd rfl) rfl rfl ?_
              refine g_getA (q2 := 43) 56 (gd rfl) rfl rfl rfl rfl ?_
              refine g_iload 58 (gd rfl) rfl rfl ?_
              refine g_iaload 59 (gd rfl) rfl (n := 160) rfl (in_ix i38 rfl) (fun z58 e58 => ?_)
              have i58 := inv_I hIc28 (n := 160) (t := 0) 0 159 rfl (in_ix i38 rfl) rfl e58
              refine g_istore 61 (gd rfl) rfl (Nat.le_of_ble_eq_true rfl) ?_
              refine g_aload_n 62 (gd rfl) rfl rfl ?_
              refine g_getA (q2 := 35) 65 (gd rfl) rfl rfl rfl rfl ?_
              refine g_iload 67 (gd rfl) rfl rfl ?_
              refine g_iaload 68 (gd rfl) rfl (n := 160) rfl (in_ix i58 rfl) (fun z67 e67 => ?_)
              have i67 := inv_I hIc28 (n := 160) (t := 0) 0 31 rfl (in_ix i58 rfl) rfl e67
              refine g_istore 70 (gd rfl) rfl (Nat.le_of_ble_eq_true rfl) ?_
              refine g_aload_n 71 (gd rfl) rfl rfl ?_
              refine g_aload_n 72 (gd rfl) rfl rfl ?_
              refine g_getA (q2 := 99) 75 (gd rfl) rfl rfl rfl rfl ?_
              refine g_iload_n 76 (gd rfl) rfl rfl ?_
              refine g_laload 77 (gd rfl) rfl (n := 32) rfl (in_ix j28_3 rfl) (fun z76 e76 => ?_)
              have i76 := inv_L hIc28 (n := 32) 0 2305843009213693951 rfl (in_ix j28_3 rfl) rfl e76
              refine g_aload_n 78 (gd rfl) rfl rfl ?_
              refine g_getA (q2 := 96) 81 (gd rfl) rfl rfl rfl rfl ?_
              refine g_aload_n 82 (gd rfl) rfl rfl ?_
              refine g_getA (q2 := 38) 85 (gd rfl) rfl rfl rfl rfl ?_
              refine g_iload 87 (gd rfl) rfl rfl ?_
              refine g_iaload 88 (gd rfl) rfl (n := 160) rfl (in_ix i58 rfl) (fun z87 e87 => ?_)
              have i87 := inv_I hIc28 (n := 160) (t := 0) 0 25 rfl (in_ix i58 rfl) rfl e87
              refine g_laload 89 (gd rfl) rfl (n := 26) rfl (in_ix i87 rfl) (fun z88 e88 => ?_)
              have i88 := inv_L hIc28 (n := 26) 0 1152921504606846975 rfl (in_ix i87 rfl) rfl e88
              refine g_land 90 (gd rfl) rfl (fun z89 e89 => ?_)
              have i89 := inl_and2 e89 i88 rfl
              have p90 : InL z89 0 1152921504606846975 := by exact lw 0 1152921504606846975 i89 rfl
              refine g_callv (X := _) (As := [.long z89]) (r := []) (b := A 94) (q := 94) 93 (gd rfl) rfl rfl rfl rfl rfl (ww_o rfl) (Nat.le_of_ble_eq_true rfl) (Nat.zero_le _) (Nat.zero_le _) (k_165_94 (by first | exact dq1 hd rfl | exact dq0 hd rfl | exact dq2 hd rfl | exact dq3 hd rfl | omega) hIc28 p90) (fun e u h => h) (fun v u h => ?_)
              obtain ⟨z90, rfl, rfl, p90a⟩ := h
              show GG _ _ _ _ _ _ _ _ [.long z90] _ _ _
              have i93 : InL z90 0 2305843009213693951 := by exact p90a
              refine g_aload_n 94 (gd rfl) rfl rfl ?_
              refine g_getA (q2 := 101) 97 (gd rfl) rfl rfl rfl rfl ?_
              refine g_iload 99 (gd rfl) rfl rfl ?_
              refine g_laload 100 (gd rfl) rfl (n := 32) rfl (in_ix i67 rfl) (fun z99 e99 => ?_)
              have i99 := inv_L hIc28 (n := 32) 0 2305843009213693951 rfl (in_ix i67 rfl) rfl e99
              refine g_ldc2_w (-1) 103 (gd rfl) rfl rfl ?_
              refine g_lxor 104 (gd rfl) rfl (fun z103 e103 => ?_)
              refine g_land 105 (gd rfl) rfl (fun z104 e104 => ?_)
              have i104 := inl_and1 e104 i93 rfl
              refine g_lstore 107 (gd rfl) rfl (Nat.le_of_ble_eq_true rfl) ?_
              refine g_aload_n 108 (gd rfl) rfl rfl ?_
              refine g_getA (q2 := 100) 111 (gd rfl) rfl rfl rfl rfl ?_
              refine g_iload 113 (gd rfl) rfl rfl ?_
              refine g_dup2 114 (gd rfl) rfl rfl rfl ?_
              refine g_laload 115 (gd rfl) rfl (n := 32) rfl (in_ix i67 rfl) (fun z114 e114 => ?_)
              have i114 := inv_L hIc28 (n := 32) 0 2305843009213693951 rfl (in_ix i67 rfl) rfl e114
              refine g_lload 117 (gd rfl) rfl rfl ?_
              refine g_lor 118 (gd rfl) rfl (fun z117 e117 => ?_)
              have i117 := inl_or 61 e117 (lw 0 2305843009213693951 i114 rfl) (lw 0 2305843009213693951 i104 rfl) rfl
              refine g_lastore 119 (gd rfl) rfl (n := 32) rfl (in_ix i67 rfl) ?_
              have hI118 := inv_sL (q := 100) (j := z67.toNatClampNeg) (x := z117) hIc28 rfl (lw 0 2305843009213693951 i117 rfl)
              refine g_aload_n 120 (gd rfl) rfl rfl ?_
              refine g_getA (q2 := 101) 123 (gd rfl) rfl rfl rfl rfl ?_
              refine g_iload 125 (gd rfl) rfl rfl ?_
              refine g_dup2 126 (gd rfl) rfl rfl rfl ?_
              refine g_laload 127 (gd rfl) rfl (n := 32) rfl (in_ix i67 rfl) (fun z126 e126 => ?_)
              have i126 := inv_L hI118 (n := 32) 0 2305843009213693951 rfl (in_ix i67 rfl) rfl e126
              refine g_lload 129 (gd rfl) rfl rfl ?_
              refine g_lor 130 (gd rfl) rfl (fun z129 e129 => ?_)
              have i129 := inl_or 61 e129 (lw 0 2305843009213693951 i126 rfl) (lw 0 2305843009213693951 i104 rfl) rfl
              refine g_lastore 131 (gd rfl) rfl (n := 32) rfl (in_ix i67 rfl) ?_
              have hI130 := inv_sL (q := 101) (j := z67.toNatClampNeg) (x := z129) hI118 rfl (lw 0 2305843009213693951 i129 rfl)
              refine g_iload_n 132 (gd rfl) rfl rfl ?_
              refine g_lload 134 (gd rfl) rfl rfl ?_
              refine g_lconst 0 135 (gd rfl) rfl rfl ?_
              refine g_lcmp 136 (gd rfl) rfl (fun z135 e135 => ?_)
              have i135 := lc_in e135
              refine g_if_eq 139 143 (gd rfl) rfl rfl (fun c136 => ?_) (fun c136 => ?_)
              · skip
                have i136 := z_eq 0 0 c136 i135 rfl
                have c136a := lc_eq e135 c136
                have i136a := lr_eq1 0 0 c136a i104 (l_c 0 rfl) rfl
                refine g_iconst 0 144 (gd rfl) rfl rfl ?_
                refine g_ior 145 (gd rfl) rfl (fun z144 e144 => ?_)
                have i144 := in_or 1 e144 (in_w 0 1 j28_2 rfl) (in_w 0 1 (in_c 0 rfl) rfl) rfl
                refine g_istore_n 146 (gd rfl) rfl (Nat.le_of_ble_eq_true rfl) ?_
                refine g_iinc 149 (gd rfl) rfl rfl (Nat.le_of_ble_eq_true rfl) (fun z146 e146 => ?_)
                have i146 := in_add 1 160 e146 i38 (in_c 1 rfl) rfl rfl
                refine g_goto 28 (gd rfl) rfl ?_
                exact gg_w (by first | exact Nat.le_add_right _ _ | exact gw2 | exact gw3 | exact gwe rfl | exact gwf rfl | exact gwg rfl | exact gwh rfl | omega) (gg_f (gf_cons rfl (gf_cons rfl (gf_cons rfl (gf_cons rfl (gf_cons rfl gf_nil))))) (ih28 (sL (sL sc28 100 z67.toNatClampNeg z117) 101 z67.toNatClampNeg z129) z144 z146 hI130 (fr_sL rfl (fr_sL rfl hFc28)) (in_w 0 1 i144 rfl) (in_w 0 31 j28_3 rfl) (in_w 0 160 i146 rfl) (m_up mm28 (t_add e146 i38 (in_c 1 rfl) rfl) (in_w 1 1 (in_c 1 rfl) rfl))))
              · skip
                have c136a := lc_ne e135 c136
                have i136 := lr_ne1 1 2305843009213693951 c136a i104 (l_c 0 rfl) rfl
                refine g_iconst 1 140 (gd rfl) rfl rfl ?_
                refine g_goto 144 (gd rfl) rfl ?_
                refine g_ior 145 (gd rfl) rfl (fun z144 e144 => ?_)
                have i144 := in_or 1 e144 (in_w 0 1 j28_2 rfl) (in_w 0 1 (in_c 1 rfl) rfl) rfl
                refine g_istore_n 146 (gd rfl) rfl (Nat.le_of_ble_eq_true rfl) ?_
                refine g_iinc 149 (gd rfl) rfl rfl (Nat.le_of_ble_eq_true rfl) (fun z146 e146 => ?_)
                have i146 := in_add 1 160 e146 i38 (in_c 1 rfl) rfl rfl
                refine g_goto 28 (gd rfl) rfl ?_
                exact gg_w (by first | exact Nat.le_add_right _ _ | exact gw2 | exact gw3 | exact gwe rfl | exact gwf rfl | exact gwg rfl | exact gwh rfl | omega) (gg_f (gf_cons rfl (gf_cons rfl (gf_cons rfl (gf_cons rfl (gf_cons rfl gf_nil))))) (ih28 (sL (sL sc28 100 z67.toNatClampNeg z117) 101 z67.toNatClampNeg z129) z144 z146 hI130 (fr_sL rfl (fr_sL rfl hFc28)) (in_w 0 1 i144 rfl) (in_w 0 31 j28_3 rfl) (in_w 0 160 i146 rfl) (m_up mm28 (t_add e146 i38 (in_c 1 rfl) rfl) (in_w 1 1 (in_c 1 rfl) rfl))))
      refine g_iload_n 13 (gd rfl) rfl rfl ?_
      refine g_aload_n 14 (gd rfl) rfl rfl ?_
      refine g_getI 17 (gd rfl) rfl rfl rfl (fun z14 e14 => ?_)
      have q14 : u_32_1 = z14 := (fr_F e_32_1 hFc12 rfl).trans e14.symm
      subst q14
      refine g_cmp_ge 20 158 (gd rfl) rfl rfl (fun c17 => ?_) (fun c17 => ?_)
      · skip
        refine g_aload_n 159 (gd rfl) rfl rfl ?_
        refine g_getA (q2 := 100) 162 (gd rfl) rfl rfl rfl rfl ?_
        refine g_iconst 0 163 (gd rfl) rfl rfl ?_
        refine g_aload_n 164 (gd rfl) rfl rfl ?_
        refine g_getA (q2 := 99) 167 (gd rfl) rfl rfl rfl rfl ?_
        refine g_iconst 0 168 (gd rfl) rfl rfl ?_
        refine g_bipush 32 170 (gd rfl) rfl rfl ?_
        refine g_cpL (q2 := 100) (q := 99) (n0 := 32) (n1 := 32) 173 (gd rfl) rfl rfl rfl rfl (Nat.le_of_ble_eq_true rfl) (cp_0 (in_c 0 rfl) rfl) (cp_0 (in_c 0 rfl) rfl) (cp_0 (in_c 32 rfl) rfl) (cp_1 (in_c 0 rfl) (in_c 32 rfl) rfl) (cp_1 (in_c 0 rfl) (in_c 32 rfl) rfl) hIc12 rfl rfl rfl (fun s170 hI170 hF170 cp170 => ?_)
        refine g_iload_n 174 (gd rfl) rfl rfl ?_
        exact g_ireturn (gd rfl) rfl (nb01 (in_w 0 1 j12_2 rfl)) (hP _ _ ⟨s170, hI170, (fr_tr rfl hFc12 hF170), y12_2, rfl, rfl, in_w 0 1 j12_2 rfl⟩)
      · skip
        have i17 := r_lt1 0 31 c17 j12_3 ro_32_1 rfl
        have i17a := r_lt2 1 32 c17 j12_3 ro_32_1 rfl
        refine g_aload_n 21 (gd rfl) rfl rfl ?_
        refine g_getA (q2 := 42) 24 (gd rfl) rfl rfl rfl rfl ?_
        refine g_iload_n 25 (gd rfl) rfl rfl ?_
        refine g_iaload 26 (gd rfl) rfl (n := 33) rfl (in_ix i17 rfl) (fun z25 e25 => ?_)
        have i25 := inv_I hIc12 (n := 33) (t := 0) 0 160 rfl (in_ix i17 rfl) rfl e25
        refine g_istore 28 (gd rfl) rfl (Nat.le_of_ble_eq_true rfl) ?_
        exact gg_w (by first | exact Nat.le_add_right _ _ | exact gw2 | exact gw3 | exact gwe rfl | exact gwf rfl | exact gwg rfl | exact gwh rfl | omega) (gg_f (gf_cons rfl (gf_cons rfl (gf_cons rfl (gf_cons rfl (gf_cons rfl gf_nil))))) (ct28 161 sc12 y12_2 z25 hIc12 hFc12 (in_w 0 1 j12_2 rfl) (in_w 0 31 i17 rfl) (in_w 0 160 i25 rfl) (m_in 161 (in_w 0 160 i25 rfl) rfl)))
  refine g_enter2 (k := 164) (N := 4871734) (by first | exact dq1 hd rfl | exact dq0 hd rfl | exact dq2 hd rfl | exact dq3 hd rfl | omega) rfl (Nat.le_of_ble_eq_true rfl) ?_
  refine g_iconst 0 1 (gd rfl) rfl rfl ?_
  refine g_istore_n 2 (gd rfl) rfl (Nat.le_of_ble_eq_true rfl) ?_
  refine g_aload_n 3 (gd rfl) rfl rfl ?_
  refine g_getA (q2 := 100) 6 (gd rfl) rfl rfl rfl rfl ?_
  refine g_lconst 0 7 (gd rfl) rfl rfl ?_
  refine g_calls (As := [.ref (A 100), .long (Int64.ofInt 0)]) (r := []) 10 (gd rfl) rfl rfl rfl rfl rfl (Nat.le_of_ble_eq_true rfl) (Nat.zero_le _) (Nat.zero_le _) (k_fillL 100 (by first | exact dq1 hd rfl | exact dq0 hd rfl | exact dq2 hd rfl | exact dq3 hd rfl | omega) hI (n := 32) rfl rfl rfl (lw 0 2305843009213693951 (l_c 0 rfl) rfl)) (fun v u h => ?_)
  obtain ⟨s7, hI7, hF7, rfl, rfl, fl7⟩ := h
  show GG _ _ _ _ _ _ _ _ [] _ _ _
  refine g_iconst 0 11 (gd rfl) rfl rfl ?_
  refine g_istore_n 12 (gd rfl) rfl (Nat.le_of_ble_eq_true rfl) ?_
  exact gg_w (by first | exact Nat.le_of_ble_eq_true rfl | omega) (gg_f (gf_cons rfl (gf_cons rfl (gf_cons rfl (gf_cons rfl gf_nil)))) (ct12 33 s7 (Int32.ofInt 0) (Int32.ofInt 0) hI7 (fr_tr rfl fr_rf hF7) (in_w 0 1 (in_c 0 rfl) rfl) (in_w 0 32 (in_c 0 rfl) rfl) (m_in 33 (in_w 0 32 (in_c 0 rfl) rfl) rfl)))

def fm_171_46 : FM := ([], [], [(46, 2), (46, 3), (46, 4), (46, 5)], [])
/-- GraphHouse$Script.next -/
theorem k_171_46 {Z : AmZ} {A : Nat → Nat} {s : GS} {ex : va_W} {d : Nat} {X : AmX} {x1 : Int32} {x2 : Int32} {u_46_2 : Int32} {u_46_1 : Int32} (hd : 7 ≤ d) (hI : Inv s) (h1 : In x1 6 7) (h2 : In x2 0 1) (e_46_2 : u_46_2 = s.2.2.1 46 2) (e_46_1 : u_46_1 = s.2.2.1 46 1) (p_0 : (u_46_2).toInt ≤ (u_46_1).toInt) : GC Z d 171 [.ref (A 46), .int x1, .int x2] (WW Z A s ++ ex) 0 0 (fun v u => ∃ t : GS, Inv t ∧ Fr fm_171_46 s t ∧ ((t.2.2.1 46 2).toInt ≤ (t.2.2.1 46 1).toInt) ∧ ((t.2.2.1 46 4).toInt ≤ (t.2.2.1 46 2).toInt) ∧ ((s.2.2.1 46 2).toInt ≤ (t.2.2.1 46 4).toInt) ∧ v = none ∧ u = WW Z A t ++ ex ∧ ((x1).toInt = 6 → TK t) ∧ ((t.2.2.1 46 3).toInt = 1 → In (t.2.2.1 46 5) 0 25)) X := by
  intro post xp hP hX
  have ro_46_1 := inv_F hI 0 1000 rfl e_46_1
  have ct123 : ∀ (sc123 : GS) (y123_3 : Int32) (y123_4 : Int32) (w123_46_2 : Int32) (w123_46_4 : Int32), Inv sc123 → Fr fm_171_46 s sc123 → (In y123_3 0 65535) → (In y123_4 0 1) → (w123_46_2 = sc123.2.2.1 46 2) → (w123_46_4 = sc123.2.2.1 46 4) → ((w123_46_2).toInt + 1 ≤ (u_46_1).toInt) → ((w123_46_4).toInt = (w123_46_2).toInt) → ((u_46_2).toInt ≤ (w123_46_2).toInt) → GG Z (d - 1) 171 post (gx xp) (901) 123 (fun j => xlook j [(0, .ref (A 46)), (1, .int x1), (2, .int x2), (3, .int y123_3), (4, .int y123_4)]) [] (WW Z A sc123 ++ ex) 0 0 := by
    intro sc123 y123_3 y123_4 w123_46_2 w123_46_4 hIc123 hFc123 j123_3 j123_4 v123_46_2 v123_46_4 n123_0 n123_1 n123_2
    refine g_aload_n 124 (gd rfl) rfl rfl ?_
    refine g_dup 125 (gd rfl) rfl rfl ?_
    refine g_getI 128 (gd rfl) rfl rfl rfl (fun z125 e125 => ?_)
    have q125 : w123_46_2 = z125 := (v123_46_2).trans e125.symm
    subst q125
    refine g_iconst 1 129 (gd rfl) rfl rfl ?_
    refine g_iadd 130 (gd rfl) rfl (fun z129 e129 => ?_)
    have i129 := in_add 1 1001 e129 (inv_F hIc123 0 1000 rfl v123_46_2) (in_c 1 rfl) rfl rfl
    have i130 : In z129 0 1000 := by have a0 := oa8 h2 h1 ro_46_1 ((inv_F hIc123 0 1000 rfl v123_46_4)) ((inv_F hIc123 0 1000 rfl v123_46_2)) j123_4 j123_3 i129; have a8 := t_add e129 (inv_F hIc123 0 1000 rfl v123_46_2) (in_c 1 rfl) rfl; have a9 := in_u ((in_c 1 rfl)); exact ⟨by omega, by omega⟩
    refine g_putI 133 (gd rfl) rfl rfl rfl rfl ?_
    have hI130 := inv_sF (q := 46) (j := 2) hIc123 rfl (in_w 0 1000 i130 rfl)
    refine g_iload_n 134 (gd rfl) rfl rfl ?_
    refine g_bipush 97 136 (gd rfl) rfl rfl ?_
    refine g_cmp_lt 139 159 (gd rfl) rfl rfl (fun c136 => ?_) (fun c136 => ?_)
    · skip
      have i136 := r_lt1 0 96 c136 j123_3 (in_c 97 rfl) rfl
      refine g_aload_n 160 (gd rfl) rfl rfl ?_
      refine g_iload_n 161 (gd rfl) rfl rfl ?_
      refine g_iload_n 162 (gd rfl) rfl rfl ?_
      refine g_calls (As := [.int y123_3, .int x2]) (r := [.ref (A 46)]) 165 (gd rfl) rfl rfl rfl rfl rfl (Nat.le_of_ble_eq_true rfl) (mc := 0) (ms := 0) (Nat.zero_le _) (Nat.zero_le _) (P := fun v u => _) ?_ (fun v u h => h)
      intro po162 xx162 hp162 hx162
      refine g_enter2 (k := 174) (N := 300) (by first | exact dq1 hd rfl | exact dq0 hd rfl | exact dq2 hd rfl | exact dq3 hd rfl | omega) rfl (Nat.le_of_ble_eq_true rfl) ?_
      refine g_iload_n 1 (gd rfl) rfl rfl ?_
      refine g_bipush 59 3 (gd rfl) rfl rfl ?_
      refine g_cmp_eq 6 19 (gd rfl) rfl rfl (fun c162x3 => ?_) (fun c162x3 => ?_)
      · skip
        have i162x3 := r_eq1 59 59 c162x3 i136 (in_c 59 rfl) rfl
        refine g_iconst 1 20 (gd rfl) rfl rfl ?_
        refine g_goto 24 (gd rfl) rfl ?_
        refine g_ireturn (gd rfl) rfl (nb01 (in_w 0 1 (in_c 1 rfl) rfl)) (hp162 _ _ ?_)
        show GG _ _ _ _ _ _ _ _ [.int (Int32.ofInt 1), .ref (A 46)] _ _ _
        refine g_if_eq 168 172 (gd rfl) rfl rfl (fun c165 => ?_) (fun c165 => ?_)
        · skip
          exact zn_eq c165 (in_c 1 rfl) rfl
        · skip
          refine g_iconst 3 169 (gd rfl) rfl rfl ?_
          refine g_goto 173 (gd rfl) rfl ?_
          refine g_putI 176 (gd rfl) rfl rfl rfl rfl ?_
          have hI173 := inv_sF (q := 46) (j := 3) hI130 rfl (in_w 0 5 (in_c 3 rfl) rfl)
          refine g_aload_n 177 (gd rfl) rfl rfl ?_
          refine g_iload_n 178 (gd rfl) rfl rfl ?_
          refine g_putI 181 (gd rfl) rfl rfl rfl rfl ?_
          have hI178 := inv_sF (q := 46) (j := 5) hI173 rfl (in_w (-2147483648) 2147483647 i162x3 rfl)
          have n181 : (x1).toInt = 6 → TK (sF (sF (sF sc123 46 2 z129) 46 3 (Int32.ofInt 3)) 46 5 y123_3) := by intro h6; exact ⟨(Or.inr (by rw [← (show w123_46_4 = (sF (sF (sF sc123 46 2 z129) 46 3 (Int32.ofInt 3)) 46 5 y123_3).2.2.1 46 4 from sF_ne rfl (sF_ne rfl (sF_ne rfl (v123_46_4)))), ← (show z129 = (sF (sF (sF sc123 46 2 z129) 46 3 (Int32.ofInt 3)) 46 5 y123_3).2.2.1 46 2 from sF_ne rfl (sF_ne rfl (sF_get)))]; have a0 := h2; unfold In at a0; have a1 := oa8 h1 ro_46_1 ((inv_F hIc123 0 1000 rfl v123_46_4)) ((inv_F hIc123 0 1000 rfl v123_46_2)) j123_4 i162x3 ((in_c 3 rfl)) i130; have a9 := t_add e129 (inv_F hIc123 0 1000 rfl v123_46_2) (in_c 1 rfl) rfl; have a10 := in_u ((in_c 1 rfl)); omega)), (fun h2 => absurd h2 (by rw [← (show (Int32.ofInt 3) = (sF (sF (sF sc123 46 2 z129) 46 3 (Int32.ofInt 3)) 46 5 y123_3).2.2.1 46 3 from sF_ne rfl (sF_get))]; decide))⟩
          have n181a : ((sF (sF (sF sc123 46 2 z129) 46 3 (Int32.ofInt 3)) 46 5 y123_3).2.2.1 46 3).toInt = 1 → In ((sF (sF (sF sc123 46 2 z129) 46 3 (Int32.ofInt 3)) 46 5 y123_3).2.2.1 46 5) 0 25 := by intro h1; rw [← (show (Int32.ofInt 3) = (sF (sF (sF sc123 46 2 z129) 46 3 (Int32.ofInt 3)) 46 5 y123_3).2.2.1 46 3 from sF_ne rfl (sF_get))] at h1; exact absurd h1 (by decide)
          have n181b : (z129).toInt ≤ (u_46_1).toInt := by have a0 := oa9 h2 h1 ro_46_1 ((inv_F hIc123 0 1000 rfl v123_46_4)) ((inv_F hIc123 0 1000 rfl v123_46_2)) j123_4 i162x3 ((in_c 3 rfl)) i130; have a9 := t_add e129 (inv_F hIc123 0 1000 rfl v123_46_2) (in_c 1 rfl) rfl; have a10 := in_u ((in_c 1 rfl)); omega
          have n181c : ((sF (sF (sF sc123 46 2 z129) 46 3 (Int32.ofInt 3)) 46 5 y123_3).2.2.1 46 2).toInt ≤ ((sF (sF (sF sc123 46 2 z129) 46 3 (Int32.ofInt 3)) 46 5 y123_3).2.2.1 46 1).toInt := by have b0 : z129 = (sF (sF (sF sc123 46 2 z129) 46 3 (Int32.ofInt 3)) 46 5 y123_3).2.2.1 46 2 := sF_ne rfl (sF_ne rfl (sF_get)); have b1 : u_46_1 = (sF (sF (sF sc123 46 2 z129) 46 3 (Int32.ofInt 3)) 46 5 y123_3).2.2.1 46 1 := sF_ne rfl (sF_ne rfl (sF_ne rfl (fr_F e_46_1 hFc123 rfl))); rw [← b0, ← b1]; exact n181b
          have n181d : (w123_46_4).toInt ≤ (z129).toInt := by have a0 := oa9 h2 h1 ro_46_1 ((inv_F hIc123 0 1000 rfl v123_46_4)) ((inv_F hIc123 0 1000 rfl v123_46_2)) j123_4 i162x3 ((in_c 3 rfl)) i130; have a9 := t_add e129 (inv_F hIc123 0 1000 rfl v123_46_2) (in_c 1 rfl) rfl; have a10 := in_u ((in_c 1 rfl)); omega
          have n181e : ((sF (sF (sF sc123 46 2 z129) 46 3 (Int32.ofInt 3)) 46 5 y123_3).2.2.1 46 4).toInt ≤ ((sF (sF (sF sc123 46 2 z129) 46 3 (Int32.ofInt 3)) 46 5 y123_3).2.2.1 46 2).toInt := by have b0 : w123_46_4 = (sF (sF (sF sc123 46 2 z129) 46 3 (Int32.ofInt 3)) 46 5 y123_3).2.2.1 46 4 := sF_ne rfl (sF_ne rfl (sF_ne rfl (v123_46_4))); have b1 : z129 = (sF (sF (sF sc123 46 2 z129) 46 3 (Int32.ofInt 3)) 46 5 y123_3).2.2.1 46 2 := sF_ne rfl (sF_ne rfl (sF_get)); rw [← b0, ← b1]; exact n181d
          have n181f : (u_46_2).toInt ≤ (w123_46_4).toInt := by have a0 := oa9 h2 h1 ro_46_1 ((inv_F hIc123 0 1000 rfl v123_46_4)) ((inv_F hIc123 0 1000 rfl v123_46_2)) j123_4 i162x3 ((in_c 3 rfl)) i130; have a9 := t_add e129 (inv_F hIc123 0 1000 rfl v123_46_2) (in_c 1 rfl) rfl; have a10 := in_u ((in_c 1 rfl)); omega
          have n181g : (s.2.2.1 46 2).toInt ≤ ((sF (sF (sF sc123 46 2 z129) 46 3 (Int32.ofInt 3)) 46 5 y123_3).2.2.1 46 4).toInt := by have b0 : w123_46_4 = (sF (sF (sF sc123 46 2 z129) 46 3 (Int32.ofInt 3)) 46 5 y123_3).2.2.1 46 4 := sF_ne rfl (sF_ne rfl (sF_ne rfl (v123_46_4))); rw [← b0, ← e_46_2]; exact n181f
          exact g_return (gd rfl) rfl (hP _ _ ⟨(sF (sF (sF sc123 46 2 z129) 46 3 (Int32.ofInt 3)) 46 5 y123_3), hI178, (fr_sF rfl (fr_sF rfl (fr_sF rfl hFc123))), n181c, n181e, n181g, rfl, rfl, n181, n181a⟩)
      · skip
        refine g_iload_n 7 (gd rfl) rfl rfl ?_
        refine g_if_ne 10 23 (gd rfl) rfl rfl (fun c162x7 => ?_) (fun c162x7 => ?_)
        · skip
          have i162x7 := z_ne 1 1 c162x7 h2 rfl
          refine g_iconst 0 24 (gd rfl) rfl rfl ?_
          refine g_ireturn (gd rfl) rfl (nb01 (in_w 0 1 (in_c 0 rfl) rfl)) (hp162 _ _ ?_)
          show GG _ _ _ _ _ _ _ _ [.int (Int32.ofInt 0), .ref (A 46)] _ _ _
          refine g_if_eq 168 172 (gd rfl) rfl rfl (fun c165 => ?_) (fun c165 => ?_)
          · skip
            refine g_iconst 4 173 (gd rfl) rfl rfl ?_
            refine g_putI 176 (gd rfl) rfl rfl rfl rfl ?_
            have hI173 := inv_sF (q := 46) (j := 3) hI130 rfl (in_w 0 5 (in_c 4 rfl) rfl)
            refine g_aload_n 177 (gd rfl) rfl rfl ?_
            refine g_iload_n 178 (gd rfl) rfl rfl ?_
            refine g_putI 181 (gd rfl) rfl rfl rfl rfl ?_
            have hI178 := inv_sF (q := 46) (j := 5) hI173 rfl (in_w (-2147483648) 2147483647 i136 rfl)
            have n181 : (x1).toInt = 6 → TK (sF (sF (sF sc123 46 2 z129) 46 3 (Int32.ofInt 4)) 46 5 y123_3) := by intro h6; exact ⟨(Or.inr (by rw [← (show w123_46_4 = (sF (sF (sF sc123 46 2 z129) 46 3 (Int32.ofInt 4)) 46 5 y123_3).2.2.1 46 4 from sF_ne rfl (sF_ne rfl (sF_ne rfl (v123_46_4)))), ← (show z129 = (sF (sF (sF sc123 46 2 z129) 46 3 (Int32.ofInt 4)) 46 5 y123_3).2.2.1 46 2 from sF_ne rfl (sF_ne rfl (sF_get)))]; have a0 := oa9 i162x7 h1 ro_46_1 ((inv_F hIc123 0 1000 rfl v123_46_4)) ((inv_F hIc123 0 1000 rfl v123_46_2)) j123_4 i136 ((in_c 4 rfl)) i130; have a9 := t_add e129 (inv_F hIc123 0 1000 rfl v123_46_2) (in_c 1 rfl) rfl; have a10 := in_u ((in_c 1 rfl)); omega)), (fun h2 => absurd h2 (by rw [← (show (Int32.ofInt 4) = (sF (sF (sF sc123 46 2 z129) 46 3 (Int32.ofInt 4)) 46 5 y123_3).2.2.1 46 3 from sF_ne rfl (sF_get))]; decide))⟩
            have n181a : ((sF (sF (sF sc123 46 2 z129) 46 3 (Int32.ofInt 4)) 46 5 y123_3).2.2.1 46 3).toInt = 1 → In ((sF (sF (sF sc123 46 2 z129) 46 3 (Int32.ofInt 4)) 46 5 y123_3).2.2.1 46 5) 0 25 := by intro h1; rw [← (show (Int32.ofInt 4) = (sF (sF (sF sc123 46 2 z129) 46 3 (Int32.ofInt 4)) 46 5 y123_3).2.2.1 46 3 from sF_ne rfl (sF_get))] at h1; exact absurd h1 (by decide)
            have n181b : (z129).toInt ≤ (u_46_1).toInt := by have a0 := oa9 i162x7 h1 ro_46_1 ((inv_F hIc123 0 1000 rfl v123_46_4)) ((inv_F hIc123 0 1000 rfl v123_46_2)) j123_4 i136 ((in_c 4 rfl)) i130; have a9 := t_add e129 (inv_F hIc123 0 1000 rfl v123_46_2) (in_c 1 rfl) rfl; have a10 := in_u ((in_c 1 rfl)); omega
            have n181c : ((sF (sF (sF sc123 46 2 z129) 46 3 (Int32.ofInt 4)) 46 5 y123_3).2.2.1 46 2).toInt ≤ ((sF (sF (sF sc123 46 2 z129) 46 3 (Int32.ofInt 4)) 46 5 y123_3).2.2.1 46 1).toInt := by have b0 : z129 = (sF (sF (sF sc123 46 2 z129) 46 3 (Int32.ofInt 4)) 46 5 y123_3).2.2.1 46 2 := sF_ne rfl (sF_ne rfl (sF_get)); have b1 : u_46_1 = (sF (sF (sF sc123 46 2 z129) 46 3 (Int32.ofInt 4)) 46 5 y123_3).2.2.1 46 1 := sF_ne rfl (sF_ne rfl (sF_ne rfl (fr_F e_46_1 hFc123 rfl))); rw [← b0, ← b1]; exact n181b
            have n181d : (w123_46_4).toInt ≤ (z129).toInt := by have a0 := oa9 i162x7 h1 ro_46_1 ((inv_F hIc123 0 1000 rfl v123_46_4)) ((inv_F hIc123 0 1000 rfl v123_46_2)) j123_4 i136 ((in_c 4 rfl)) i130; have a9 := t_add e129 (inv_F hIc123 0 1000 rfl v123_46_2) (in_c 1 rfl) rfl; have a10 := in_u ((in_c 1 rfl)); omega
            have n181e : ((sF (sF (sF sc123 46 2 z129) 46 3 (Int32.ofInt 4)) 46 5 y123_3).2.2.1 46 4).toInt ≤ ((sF (sF (sF sc123 46 2 z129) 46 3 (Int32.ofInt 4)) 46 5 y123_3).2.2.1 46 2).toInt := by have b0 : w123_46_4 = (sF (sF (sF sc123 46 2 z129) 46 3 (Int32.ofInt 4)) 46 5 y123_3).2.2.1 46 4 := sF_ne rfl (sF_ne rfl (sF_ne rfl (v123_46_4))); have b1 : z129 = (sF (sF (sF sc123 46 2 z129) 46 3 (Int32.ofInt 4)) 46 5 y123_3).2.2.1 46 2 := sF_ne rfl (sF_ne rfl (sF_get)); rw [← b0, ← b1]; exact n181d
            have n181f : (u_46_2).toInt ≤ (w123_46_4).toInt := by have a0 := oa9 i162x7 h1 ro_46_1 ((inv_F hIc123 0 1000 rfl v123_46_4)) ((inv_F hIc123 0 1000 rfl v123_46_2)) j123_4 i136 ((in_c 4 rfl)) i130; have a9 := t_add e129 (inv_F hIc123 0 1000 rfl v123_46_2) (in_c 1 rfl) rfl; have a10 := in_u ((in_c 1 rfl)); omega
            have n181g : (s.2.2.1 46 2).toInt ≤ ((sF (sF (sF sc123 46 2 z129) 46 3 (Int32.ofInt 4)) 46 5 y123_3).2.2.1 46 4).toInt := by have b0 : w123_46_4 = (sF (sF (sF sc123 46 2 z129) 46 3 (Int32.ofInt 4)) 46 5 y123_3).2.2.1 46 4 := sF_ne rfl (sF_ne rfl (sF_ne rfl (v123_46_4))); rw [← b0, ← e_46_2]; exact n181f
            exact g_return (gd rfl) rfl (hP _ _ ⟨(sF (sF (sF sc123 46 2 z129) 46 3 (Int32.ofInt 4)) 46 5 y123_3), hI178, (fr_sF rfl (fr_sF rfl (fr_sF rfl hFc123))), n181c, n181e, n181g, rfl, rfl, n181, n181a⟩)
          · skip
            exact zn_ne c165 (in_c 0 rfl) rfl
        · skip
          have i162x7 := z_eq 0 0 c162x7 h2 rfl
          refine g_ldcs 0 12 (gd rfl) rfl rfl ?_
          refine g_iload_n 13 (gd rfl) rfl rfl ?_
          have i162x13 : In (Int32.ofInt 0) 0 6 := in_w 0 6 (in_c 0 rfl) rfl
          refine g_callS (X := _) (As := [.int y123_3]) (r := []) (x := (Int32.ofInt 0)) 16 (gd rfl) rfl rfl rfl zm_430 rfl rfl rfl i162x13 (Nat.le_of_ble_eq_true rfl) (k_430 i162x13 (by omega)) (fun e u h => h) (fun v u h => ?_)
          obtain ⟨z162x13, rfl, rfl, p162x13⟩ := h
          have i162x13a : In z162x13 (-1) 8 := by have a := zn_9 i162x13; unfold In at p162x13; exact ⟨by omega, by omega⟩
          show GG _ _ _ _ _ _ _ _ [.int z162x13] _ _ _
          refine g_if_lt 19 23 (gd rfl) rfl rfl (fun c162x16 => ?_) (fun c162x16 => ?_)
          · skip
            have i162x16 := z_lt (-1) (-1) c162x16 i162x13a rfl
            refine g_iconst 0 24 (gd rfl) rfl rfl ?_
            refine g_ireturn (gd rfl) rfl (nb01 (in_w 0 1 (in_c 0 rfl) rfl)) (hp162 _ _ ?_)
            show GG _ _ _ _ _ _ _ _ [.int (Int32.ofInt 0), .ref (A 46)] _ _ _
            refine g_if_eq 168 172 (gd rfl) rfl rfl (fun c165 => ?_) (fun c165 => ?_)
            · skip
              refine g_iconst 4 173 (gd rfl) rfl rfl ?_
              refine g_putI 176 (gd rfl) rfl rfl rfl rfl ?_
              have hI173 := inv_sF (q := 46) (j := 3) hI130 rfl (in_w 0 5 (in_c 4 rfl) rfl)
              refine g_aload_n 177 (gd rfl) rfl rfl ?_
              refine g_iload_n 178 (gd rfl) rfl rfl ?_
              refine g_putI 181 (gd rfl) rfl rfl rfl rfl ?_
              have hI178 := inv_sF (q := 46) (j := 5) hI173 rfl (in_w (-2147483648) 2147483647 i136 rfl)
              have n181 : (x1).toInt = 6 → TK (sF (sF (sF sc123 46 2 z129) 46 3 (Int32.ofInt 4)) 46 5 y123_3) := by intro h6; exact ⟨(Or.inr (by rw [← (show w123_46_4 = (sF (sF (sF sc123 46 2 z129) 46 3 (Int32.ofInt 4)) 46 5 y123_3).2.2.1 46 4 from sF_ne rfl (sF_ne rfl (sF_ne rfl (v123_46_4)))), ← (show z129 = (sF (sF (sF sc123 46 2 z129) 46 3 (Int32.ofInt 4)) 46 5 y123_3).2.2.1 46 2 from sF_ne rfl (sF_ne rfl (sF_get)))]; have a0 := oa9 i162x7 h1 ro_46_1 ((inv_F hIc123 0 1000 rfl v123_46_4)) ((inv_F hIc123 0 1000 rfl v123_46_2)) j123_4 i136 ((in_c 4 rfl)) i130; have a9 := t_add e129 (inv_F hIc123 0 1000 rfl v123_46_2) (in_c 1 rfl) rfl; have a10 := in_u ((in_c 1 rfl)); omega)), (fun h2 => absurd h2 (by rw [← (show (Int32.ofInt 4) = (sF (sF (sF sc123 46 2 z129) 46 3 (Int32.ofInt 4)) 46 5 y123_3).2.2.1 46 3 from sF_ne rfl (sF_get))]; decide))⟩
              have n181a : ((sF (sF (sF sc123 46 2 z129) 46 3 (Int32.ofInt 4)) 46 5 y123_3).2.2.1 46 3).toInt = 1 → In ((sF (sF (sF sc123 46 2 z129) 46 3 (Int32.ofInt 4)) 46 5 y123_3).2.2.1 46 5) 0 25 := by intro h1; rw [← (show (Int32.ofInt 4) = (sF (sF (sF sc123 46 2 z129) 46 3 (Int32.ofInt 4)) 46 5 y123_3).2.2.1 46 3 from sF_ne rfl (sF_get))] at h1; exact absurd h1 (by decide)
              have n181b : (z129).toInt ≤ (u_46_1).toInt := by have a0 := oa9 i162x7 h1 ro_46_1 ((inv_F hIc123 0 1000 rfl v123_46_4)) ((inv_F hIc123 0 1000 rfl v123_46_2)) j123_4 i136 ((in_c 4 rfl)) i130; have a9 := t_add e129 (inv_F hIc123 0 1000 rfl v123_46_2) (in_c 1 rfl) rfl; have a10 := in_u ((in_c 1 rfl)); omega
              have n181c : ((sF (sF (sF sc123 46 2 z129) 46 3 (Int32.ofInt 4)) 46 5 y123_3).2.2.1 46 2).toInt ≤ ((sF (sF (sF sc123 46 2 z129) 46 3 (Int32.ofInt 4)) 46 5 y123_3).2.2.1 46 1).toInt := by have b0 : z129 = (sF (sF (sF sc123 46 2 z129) 46 3 (Int32.ofInt 4)) 46 5 y123_3).2.2.1 46 2 := sF_ne rfl (sF_ne rfl (sF_get)); have b1 : u_46_1 = (sF (sF (sF sc123 46 2 z129) 46 3 (Int32.ofInt 4)) 46 5 y123_3).2.2.1 46 1 := sF_ne rfl (sF_ne rfl (sF_ne rfl (fr_F e_46_1 hFc123 rfl))); rw [← b0, ← b1]; exact n181b
              have n181d : (w123_46_4).toInt ≤ (z129).toInt := by have a0 := oa9 i162x7 h1 ro_46_1 ((inv_F hIc123 0 1000 rfl v123_46_4)) ((inv_F hIc123 0 1000 rfl v123_46_2)) j123_4 i136 ((in_c 4 rfl)) i130; have a9 := t_add e129 (inv_F hIc123 0 1000 rfl v123_46_2) (in_c 1 rfl) rfl; have a10 := in_u ((in_c 1 rfl)); omega
              have n181e : ((sF (sF (sF sc123 46 2 z129) 46 3 (Int32.ofInt 4)) 46 5 y123_3).2.2.1 46 4).toInt ≤ ((sF (sF (sF sc123 46 2 z129) 46 3 (Int32.ofInt 4)) 46 5 y123_3).2.2.1 46 2).toInt := by have b0 : w123_46_4 = (sF (sF (sF sc123 46 2 z129) 46 3 (Int32.ofInt 4)) 46 5 y123_3).2.2.1 46 4 := sF_ne rfl (sF_ne rfl (sF_ne rfl (v123_46_4))); have b1 : z129 = (sF (sF (sF sc123 46 2 z129) 46 3 (Int32.ofInt 4)) 46 5 y123_3).2.2.1 46 2 := sF_ne rfl (sF_ne rfl (sF_get)); rw [← b0, ← b1]; exact n181d
              have n181f : (u_46_2).toInt ≤ (w123_46_4).toInt := by have a0 := oa9 i162x7 h1 ro_46_1 ((inv_F hIc123 0 1000 rfl v123_46_4)) ((inv_F hIc123 0 1000 rfl v123_46_2)) j123_4 i136 ((in_c 4 rfl)) i130; have a9 := t_add e129 (inv_F hIc123 0 1000 rfl v123_46_2) (in_c 1 rfl) rfl; have a10 := in_u ((in_c 1 rfl)); omega
              have n181g : (s.2.2.1 46 2).toInt ≤ ((sF (sF (sF sc123 46 2 z129) 46 3 (Int32.ofInt 4)) 46 5 y123_3).2.2.1 46 4).toInt := by have b0 : w123_46_4 = (sF (sF (sF sc123 46 2 z129) 46 3 (Int32.ofInt 4)) 46 5 y123_3).2.2.1 46 4 := sF_ne rfl (sF_ne rfl (sF_ne rfl (v123_46_4))); rw [← b0, ← e_46_2]; exact n181f
              exact g_return (gd rfl) rfl (hP _ _ ⟨(sF (sF (sF sc123 46 2 z129) 46 3 (Int32.ofInt 4)) 46 5 y123_3), hI178, (fr_sF rfl (fr_sF rfl (fr_sF rfl hFc123))), n181c, n181e, n181g, rfl, rfl, n181, n181a⟩)
            · skip
              exact zn_ne c165 (in_c 0 rfl) rfl
          · skip
            have i162x16 := z_ge 0 8 c162x16 i162x13a rfl
            refine g_iconst 1 20 (gd rfl) rfl rfl ?_
            refine g_goto 24 (gd rfl) rfl ?_
            refine g_ireturn (gd rfl) rfl (nb01 (in_w 0 1 (in_c 1 rfl) rfl)) (hp162 _ _ ?_)
            show GG _ _ _ _ _ _ _ _ [.int (Int32.ofInt 1), .ref (A 46)] _ _ _
            refine g_if_eq 168 172 (gd rfl) rfl rfl (fun c165 => ?_) (fun c165 => ?_)
            · skip
              exact zn_eq c165 (in_c 1 rfl) rfl
            · skip
              refine g_iconst 3 169 (gd rfl) rfl rfl ?_
              refine g_goto 173 (gd rfl) rfl ?_
              refine g_putI 176 (gd rfl) rfl rfl rfl rfl ?_
              have hI173 := inv_sF (q := 46) (j := 3) hI130 rfl (in_w 0 5 (in_c 3 rfl) rfl)
              refine g_aload_n 177 (gd rfl) rfl rfl ?_
              refine g_iload_n 178 (gd rfl) rfl rfl ?_
              refine g_putI 181 (gd rfl) rfl rfl rfl rfl ?_
              have hI178 := inv_sF (q := 46) (j := 5) hI173 rfl (in_w (-2147483648) 2147483647 i136 rfl)
              have n181 : (x1).toInt = 6 → TK (sF (sF (sF sc123 46 2 z129) 46 3 (Int32.ofInt 3)) 46 5 y123_3) := by intro h6; exact ⟨(Or.inr (by rw [← (show w123_46_4 = (sF (sF (sF sc123 46 2 z129) 46 3 (Int32.ofInt 3)) 46 5 y123_3).2.2.1 46 4 from sF_ne rfl (sF_ne rfl (sF_ne rfl (v123_46_4)))), ← (show z129 = (sF (sF (sF sc123 46 2 z129) 46 3 (Int32.ofInt 3)) 46 5 y123_3).2.2.1 46 2 from sF_ne rfl (sF_ne rfl (sF_get)))]; have a0 := oa9 i162x7 h1 ro_46_1 ((inv_F hIc123 0 1000 rfl v123_46_4)) ((inv_F hIc123 0 1000 rfl v123_46_2)) j123_4 i136 ((in_c 3 rfl)) i130; have a9 := t_add e129 (inv_F hIc123 0 1000 rfl v123_46_2) (in_c 1 rfl) rfl; have a10 := in_u ((in_c 1 rfl)); omega)), (fun h2 => absurd h2 (by rw [← (show (Int32.ofInt 3) = (sF (sF (sF sc123 46 2 z129) 46 3 (Int32.ofInt 3)) 46 5 y123_3).2.2.1 46 3 from sF_ne rfl (sF_get))]; decide))⟩
              have n181a : ((sF (sF (sF sc123 46 2 z129) 46 3 (Int32.ofInt 3)) 46 5 y123_3).2.2.1 46 3).toInt = 1 → In ((sF (sF (sF sc123 46 2 z129) 46 3 (Int32.ofInt 3)) 46 5 y123_3).2.2.1 46 5) 0 25 := by intro h1; rw [← (show (Int32.ofInt 3) = (sF (sF (sF sc123 46 2 z129) 46 3 (Int32.ofInt 3)) 46 5 y123_3).2.2.1 46 3 from sF_ne rfl (sF_get))] at h1; exact absurd h1 (by decide)
              have n181b : (z129).toInt ≤ (u_46_1).toInt := by have a0 := oa9 i162x7 h1 ro_46_1 ((inv_F hIc123 0 1000 rfl v123_46_4)) ((inv_F hIc123 0 1000 rfl v123_46_2)) j123_4 i136 ((in_c 3 rfl)) i130; have a9 := t_add e129 (inv_F hIc123 0 1000 rfl v123_46_2) (in_c 1 rfl) rfl; have a10 := in_u ((in_c 1 rfl)); omega
              have n181c : ((sF (sF (sF sc123 46 2 z129) 46 3 (Int32.ofInt 3)) 46 5 y123_3).2.2.1 46 2).toInt ≤ ((sF (sF (sF sc123 46 2 z129) 46 3 (Int32.ofInt 3)) 46 5 y123_3).2.2.1 46 1).toInt := by have b0 : z129 = (sF (sF (sF sc123 46 2 z129) 46 3 (Int32.ofInt 3)) 46 5 y123_3).2.2.1 46 2 := sF_ne rfl (sF_ne rfl (sF_get)); have b1 : u_46_1 = (sF (sF (sF sc123 46 2 z129) 46 3 (Int32.ofInt 3)) 46 5 y123_3).2.2.1 46 1 := sF_ne rfl (sF_ne rfl (sF_ne rfl (fr_F e_46_1 hFc123 rfl))); rw [← b0, ← b1]; exact n181b
              have n181d : (w123_46_4).toInt ≤ (z129).toInt := by have a0 := oa9 i162x7 h1 ro_46_1 ((inv_F hIc123 0 1000 rfl v123_46_4)) ((inv_F hIc123 0 1000 rfl v123_46_2)) j123_4 i136 ((in_c 3 rfl)) i130; have a9 := t_add e129 (inv_F hIc123 0 1000 rfl v123_46_2) (in_c 1 rfl) rfl; have a10 := in_u ((in_c 1 rfl)); omega
              have n181e : ((sF (sF (sF sc123 46 2 z129) 46 3 (Int32.ofInt 3)) 46 5 y123_3).2.2.1 46 4).toInt ≤ ((sF (sF (sF sc123 46 2 z129) 46 3 (Int32.ofInt 3)) 46 5 y123_3).2.2.1 46 2).toInt := by have b0 : w123_46_4 = (sF (sF (sF sc123 46 2 z129) 46 3 (Int32.ofInt 3)) 46 5 y123_3).2.2.1 46 4 := sF_ne rfl (sF_ne rfl (sF_ne rfl (v123_46_4))); have b1 : z129 = (sF (sF (sF sc123 46 2 z129) 46 3 (Int32.ofInt 3)) 46 5 y123_3).2.2.1 46 2 := sF_ne rfl (sF_ne rfl (sF_get)); rw [← b0, ← b1]; exact n181d
              have n181f : (u_46_2).toInt ≤ (w123_46_4).toInt := by have a0 := oa9 i162x7 h1 ro_46_1 ((inv_F hIc123 0 1000 rfl v123_46_4)) ((inv_F hIc123 0 1000 rfl v123_46_2)) j123_4 i136 ((in_c 3 rfl)) i130; have a9 := t_add e129 (inv_F hIc123 0 1000 rfl v123_46_2) (in_c 1 rfl) rfl; have a10 := in_u ((in_c 1 rfl)); omega
              have n181g : (s.2.2.1 46 2).toInt ≤ ((sF (sF (sF sc123 46 2 z129) 46 3 (Int32.ofInt 3)) 46 5 y123_3).2.2.1 46 4).toInt := by have b0 : w123_46_4 = (sF (sF (sF sc123 46 2 z129) 46 3 (Int32.ofInt 3)) 46 5 y123_3).2.2.1 46 4 := sF_ne rfl (sF_ne rfl (sF_ne rfl (v123_46_4))); rw [← b0, ← e_46_2]; exact n181f
              exact g_return (gd rfl) rfl (hP _ _ ⟨(sF (sF (sF sc123 46 2 z129) 46 3 (Int32.ofInt 3)) 46 5 y123_3), hI178, (fr_sF rfl (fr_sF rfl (fr_sF rfl hFc123))), n181c, n181e, n181g, rfl, rfl, n181, n181a⟩)
    · skip
      have i136 := r_le2 97 65535 c136 (in_c 97 rfl) j123_3 rfl
      refine g_iload_n 140 (gd rfl) rfl rfl ?_
      refine g_bipush 122 142 (gd rfl) rfl rfl ?_
      refine g_cmp_gt 145 159 (gd rfl) rfl rfl (fun c142 => ?_) (fun c142 => ?_)
      · skip
        have i142 := r_lt2 123 65535 c142 (in_c 122 rfl) i136 rfl
        refine g_aload_n 160 (gd rfl) rfl rfl ?_
        refine g_iload_n 161 (gd rfl) rfl rfl ?_
        refine g_iload_n 162 (gd rfl) rfl rfl ?_
        refine g_calls (As := [.int y123_3, .int x2]) (r := [.ref (A 46)]) 165 (gd rfl) rfl rfl rfl rfl rfl (Nat.le_of_ble_eq_true rfl) (mc := 0) (ms := 0) (Nat.zero_le _) (Nat.zero_le _) (P := fun v u => _) ?_ (fun v u h => h)
        intro po162 xx162 hp162 hx162
        refine g_enter2 (k := 174) (N := 300) (by first | exact dq1 hd rfl | exact dq0 hd rfl | exact dq2 hd rfl | exact dq3 hd rfl | omega) rfl (Nat.le_of_ble_eq_true rfl) ?_
        refine g_iload_n 1 (gd rfl) rfl rfl ?_
        refine g_bipush 59 3 (gd rfl) rfl rfl ?_
        refine g_cmp_eq 6 19 (gd rfl) rfl rfl (fun c162x3 => ?_) (fun c162x3 => ?_)
        · skip
          exact n_eq c162x3 i142 (in_c 59 rfl) rfl
        · skip
          refine g_iload_n 7 (gd rfl) rfl rfl ?_
          refine g_if_ne 10 23 (gd rfl) rfl rfl (fun c162x7 => ?_) (fun c162x7 => ?_)
          · skip
            have i162x7 := z_ne 1 1 c162x7 h2 rfl
            refine g_iconst 0 24 (gd rfl) rfl rfl ?_
            refine g_ireturn (gd rfl) rfl (nb01 (in_w 0 1 (in_c 0 rfl) rfl)) (hp162 _ _ ?_)
            show GG _ _ _ _ _ _ _ _ [.int (Int32.ofInt 0), .ref (A 46)] _ _ _
            refine g_if_eq 168 172 (gd rfl) rfl rfl (fun c165 => ?_) (fun c165 => ?_)
            · skip
              refine g_iconst 4 173 (gd rfl) rfl rfl ?_
              refine g_putI 176 (gd rfl) rfl rfl rfl rfl ?_
              have hI173 := inv_sF (q := 46) (j := 3) hI130 rfl (in_w 0 5 (in_c 4 rfl) rfl)
              refine g_aload_n 177 (gd rfl) rfl rfl ?_
              refine g_iload_n 178 (gd rfl) rfl rfl ?_
              refine g_putI 181 (gd rfl) rfl rfl rfl rfl ?_
              have hI178 := inv_sF (q := 46) (j := 5) hI173 rfl (in_w (-2147483648) 2147483647 i142 rfl)
              have n181 : (x1).toInt = 6 → TK (sF (sF (sF sc123 46 2 z129) 46 3 (Int32.ofInt 4)) 46 5 y123_3) := by intro h6; exact ⟨(Or.inr (by rw [← (show w123_46_4 = (sF (sF (sF sc123 46 2 z129) 46 3 (Int32.ofInt 4)) 46 5 y123_3).2.2.1 46 4 from sF_ne rfl (sF_ne rfl (sF_ne rfl (v123_46_4)))), ← (show z129 = (sF (sF (sF sc123 46 2 z129) 46 3 (Int32.ofInt 4)) 46 5 y123_3).2.2.1 46 2 from sF_ne rfl (sF_ne rfl (sF_get)))]; have a0 := oa9 i162x7 h1 ro_46_1 ((inv_F hIc123 0 1000 rfl v123_46_4)) ((inv_F hIc123 0 1000 rfl v123_46_2)) j123_4 i142 ((in_c 4 rfl)) i130; have a9 := t_add e129 (inv_F hIc123 0 1000 rfl v123_46_2) (in_c 1 rfl) rfl; have a10 := in_u ((in_c 1 rfl)); omega)), (fun h2 => absurd h2 (by rw [← (show (Int32.ofInt 4) = (sF (sF (sF sc123 46 2 z129) 46 3 (Int32.ofInt 4)) 46 5 y123_3).2.2.1 46 3 from sF_ne rfl (sF_get))]; decide))⟩
              have n181a : ((sF (sF (sF sc123 46 2 z129) 46 3 (Int32.ofInt 4)) 46 5 y123_3).2.2.1 46 3).toInt = 1 → In ((sF (sF (sF sc123 46 2 z129) 46 3 (Int32.ofInt 4)) 46 5 y123_3).2.2.1 46 5) 0 25 := by intro h1; rw [← (show (Int32.ofInt 4) = (sF (sF (sF sc123 46 2 z129) 46 3 (Int32.ofInt 4)) 46 5 y123_3).2.2.1 46 3 from sF_ne rfl (sF_get))] at h1; exact absurd h1 (by decide)
              have n181b : (z129).toInt ≤ (u_46_1).toInt := by have a0 := oa9 i162x7 h1 ro_46_1 ((inv_F hIc123 0 1000 rfl v123_46_4)) ((inv_F hIc123 0 1000 rfl v123_46_2)) j123_4 i142 ((in_c 4 rfl)) i130; have a9 := t_add e129 (inv_F hIc123 0 1000 rfl v123_46_2) (in_c 1 rfl) rfl; have a10 := in_u ((in_c 1 rfl)); omega
              have n181c : ((sF (sF (sF sc123 46 2 z129) 46 3 (Int32.ofInt 4)) 46 5 y123_3).2.2.1 46 2).toInt ≤ ((sF (sF (sF sc123 46 2 z129) 46 3 (Int32.ofInt 4)) 46 5 y123_3).2.2.1 46 1).toInt := by have b0 : z129 = (sF (sF (sF sc123 46 2 z129) 46 3 (Int32.ofInt 4)) 46 5 y123_3).2.2.1 46 2 := sF_ne rfl (sF_ne rfl (sF_get)); have b1 : u_46_1 = (sF (sF (sF sc123 46 2 z129) 46 3 (Int32.ofInt 4)) 46 5 y123_3).2.2.1 46 1 := sF_ne rfl (sF_ne rfl (sF_ne rfl (fr_F e_46_1 hFc123 rfl))); rw [← b0, ← b1]; exact n181b
              have n181d : (w123_46_4).toInt ≤ (z129).toInt := by have a0 := oa9 i162x7 h1 ro_46_1 ((inv_F hIc123 0 1000 rfl v123_46_4)) ((inv_F hIc123 0 1000 rfl v123_46_2)) j123_4 i142 ((in_c 4 rfl)) i130; have a9 := t_add e129 (inv_F hIc123 0 1000 rfl v123_46_2) (in_c 1 rfl) rfl; have a10 := in_u ((in_c 1 rfl)); omega
              have n181e : ((sF (sF (sF sc123 46 2 z129) 46 3 (Int32.ofInt 4)) 46 5 y123_3).2.2.1 46 4).toInt ≤ ((sF (sF (sF sc123 46 2 z129) 46 3 (Int32.ofInt 4)) 46 5 y123_3).2.2.1 46 2).toInt := by have b0 : w123_46_4 = (sF (sF (sF sc123 46 2 z129) 46 3 (Int32.ofInt 4)) 46 5 y123_3).2.2.1 46 4 := sF_ne rfl (sF_ne rfl (sF_ne rfl (v123_46_4))); have b1 : z129 = (sF (sF (sF sc123 46 2 z129) 46 3 (Int32.ofInt 4)) 46 5 y123_3).2.2.1 46 2 := sF_ne rfl (sF_ne rfl (sF_get)); rw [← b0, ← b1]; exact n181d
              have n181f : (u_46_2).toInt ≤ (w123_46_4).toInt := by have a0 := oa9 i162x7 h1 ro_46_1 ((inv_F hIc123 0 1000 rfl v123_46_4)) ((inv_F hIc123 0 1000 rfl v123_46_2)) j123_4 i142 ((in_c 4 rfl)) i130; have a9 := t_add e129 (inv_F hIc123 0 1000 rfl v123_46_2) (in_c 1 rfl) rfl; have a10 := in_u ((in_c 1 rfl)); omega
              have n181g : (s.2.2.1 46 2).toInt ≤ ((sF (sF (sF sc123 46 2 z129) 46 3 (Int32.ofInt 4)) 46 5 y123_3).2.2.1 46 4).toInt := by have b0 : w123_46_4 = (sF (sF (sF sc123 46 2 z129) 46 3 (Int32.ofInt 4)) 46 5 y123_3).2.2.1 46 4 := sF_ne rfl (sF_ne rfl (sF_ne rfl (v123_46_4))); rw [← b0, ← e_46_2]; exact n181f
              exact g_return (gd rfl) rfl (hP _ _ ⟨(sF (sF (sF sc123 46 2 z129) 46 3 (Int32.ofInt 4)) 46 5 y123_3), hI178, (fr_sF rfl (fr_sF rfl (fr_sF rfl hFc123))), n181c, n181e, n181g, rfl, rfl, n181, n181a⟩)
            · skip
              exact zn_ne c165 (in_c 0 rfl) rfl
          · skip
            have i162x7 := z_eq 0 0 c162x7 h2 rfl
            refine g_ldcs 0 12 (gd rfl) rfl rfl ?_
            refine g_iload_n 13 (gd rfl) rfl rfl ?_
            have i162x13 : In (Int32.ofInt 0) 0 6 := in_w 0 6 (in_c 0 rfl) rfl
            refine g_callS (X := _) (As := [.int y123_3]) (r := []) (x := (Int32.ofInt 0)) 16 (gd rfl) rfl rfl rfl zm_430 rfl rfl rfl i162x13 (Nat.le_of_ble_eq_true rfl) (k_430 i162x13 (by omega)) (fun e u h => h) (fun v u h => ?_)
            obtain ⟨z162x13, rfl, rfl, p162x13⟩ := h
            have i162x13a : In z162x13 (-1) 8 := by have a := zn_9 i162x13; unfold In at p162x13; exact ⟨by omega, by omega⟩
            show GG _ _ _ _ _ _ _ _ [.int z162x13] _ _ _
            refine g_if_lt 19 23 (gd rfl) rfl rfl (fun c162x16 => ?_) (fun c162x16 => ?_)
            · skip
              have i162x16 := z_lt (-1) (-1) c162x16 i162x13a rfl
              refine g_iconst 0 24 (gd rfl) rfl rfl ?_
              refine g_ireturn (gd rfl) rfl (nb01 (in_w 0 1 (in_c 0 rfl) rfl)) (hp162 _ _ ?_)
              show GG _ _ _ _ _ _ _ _ [.int (Int32.ofInt 0), .ref (A 46)] _ _ _
              refine g_if_eq 168 172 (gd rfl) rfl rfl (fun c165 => ?_) (fun c165 => ?_)
              · skip
                refine g_iconst 4 173 (gd rfl) rfl rfl ?_
                refine g_putI 176 (gd rfl) rfl rfl rfl rfl ?_
                have hI173 := inv_sF (q := 46) (j := 3) hI130 rfl (in_w 0 5 (in_c 4 rfl) rfl)
                refine g_aload_n 177 (gd rfl) rfl rfl ?_
                refine g_iload_n 178 (gd rfl) rfl rfl ?_
                refine g_putI 181 (gd rfl) rfl rfl rfl rfl ?_
                have hI178 := inv_sF (q := 46) (j := 5) hI173 rfl (in_w (-2147483648) 2147483647 i142 rfl)
                have n181 : (x1).toInt = 6 → TK (sF (sF (sF sc123 46 2 z129) 46 3 (Int32.ofInt 4)) 46 5 y123_3) := by intro h6; exact ⟨(Or.inr (by rw [← (show w123_46_4 = (sF (sF (sF sc123 46 2 z129) 46 3 (Int32.ofInt 4)) 46 5 y123_3).2.2.1 46 4 from sF_ne rfl (sF_ne rfl (sF_ne rfl (v123_46_4)))), ← (show z129 = (sF (sF (sF sc123 46 2 z129) 46 3 (Int32.ofInt 4)) 46 5 y123_3).2.2.1 46 2 from sF_ne rfl (sF_ne rfl (sF_get)))]; have a0 := oa9 i162x7 h1 ro_46_1 ((inv_F hIc123 0 1000 rfl v123_46_4)) ((inv_F hIc123 0 1000 rfl v123_46_2)) j123_4 i142 ((in_c 4 rfl)) i130; have a9 := t_add e129 (inv_F hIc123 0 1000 rfl v123_46_2) (in_c 1 rfl) rfl; have a10 := in_u ((in_c 1 rfl)); omega)), (fun h2 => absurd h2 (by rw [← (show (Int32.ofInt 4) = (sF (sF (sF sc123 46 2 z129) 46 3 (Int32.ofInt 4)) 46 5 y123_3).2.2.1 46 3 from sF_ne rfl (sF_get))]; decide))⟩
                have n181a : ((sF (sF (sF sc123 46 2 z129) 46 3 (Int32.ofInt 4)) 46 5 y123_3).2.2.1 46 3).toInt = 1 → In ((sF (sF (sF sc123 46 2 z129) 46 3 (Int32.ofInt 4)) 46 5 y123_3).2.2.1 46 5) 0 25 := by intro h1; rw [← (show (Int32.ofInt 4) = (sF (sF (sF sc123 46 2 z129) 46 3 (Int32.ofInt 4)) 46 5 y123_3).2.2.1 46 3 from sF_ne rfl (sF_get))] at h1; exact absurd h1 (by decide)
                have n181b : (z129).toInt ≤ (u_46_1).toInt := by have a0 := oa9 i162x7 h1 ro_46_1 ((inv_F hIc123 0 1000 rfl v123_46_4)) ((inv_F hIc123 0 1000 rfl v123_46_2)) j123_4 i142 ((in_c 4 rfl)) i130; have a9 := t_add e129 (inv_F hIc123 0 1000 rfl v123_46_2) (in_c 1 rfl) rfl; have a10 := in_u ((in_c 1 rfl)); omega
                have n181c : ((sF (sF (sF sc123 46 2 z129) 46 3 (Int32.ofInt 4)) 46 5 y123_3).2.2.1 46 2).toInt ≤ ((sF (sF (sF sc123 46 2 z129) 46 3 (Int32.ofInt 4)) 46 5 y123_3).2.2.1 46 1).toInt := by have b0 : z129 = (sF (sF (sF sc123 46 2 z129) 46 3 (Int32.ofInt 4)) 46 5 y123_3).2.2.1 46 2 := sF_ne rfl (sF_ne rfl (sF_get)); have b1 : u_46_1 = (sF (sF (sF sc123 46 2 z129) 46 3 (Int32.ofInt 4)) 46 5 y123_3).2.2.1 46 1 := sF_ne rfl (sF_ne rfl (sF_ne rfl (fr_F e_46_1 hFc123 rfl))); rw [← b0, ← b1]; exact n181b
                have n181d : (w123_46_4).toInt ≤ (z129).toInt := by have a0 := oa9 i162x7 h1 ro_46_1 ((inv_F hIc123 0 1000 rfl v123_46_4)) ((inv_F hIc123 0 1000 rfl v123_46_2)) j123_4 i142 ((in_c 4 rfl)) i130; have a9 := t_add e129 (inv_F hIc123 0 1000 rfl v123_46_2) (in_c 1 rfl) rfl; have a10 := in_u ((in_c 1 rfl)); omega
                have n181e : ((sF (sF (sF sc123 46 2 z129) 46 3 (Int32.ofInt 4)) 46 5 y123_3).2.2.1 46 4).toInt ≤ ((sF (sF (sF sc123 46 2 z129) 46 3 (Int32.ofInt 4)) 46 5 y123_3).2.2.1 46 2).toInt := by have b0 : w123_46_4 = (sF (sF (sF sc123 46 2 z129) 46 3 (Int32.ofInt 4)) 46 5 y123_3).2.2.1 46 4 := sF_ne rfl (sF_ne rfl (sF_ne rfl (v123_46_4))); have b1 : z129 = (sF (sF (sF sc123 46 2 z129) 46 3 (Int32.ofInt 4)) 46 5 y123_3).2.2.1 46 2 := sF_ne rfl (sF_ne rfl (sF_get)); rw [← b0, ← b1]; exact n181d
                have n181f : (u_46_2).toInt ≤ (w123_46_4).toInt := by have a0 := oa9 i162x7 h1 ro_46_1 ((inv_F hIc123 0 1000 rfl v123_46_4)) ((inv_F hIc123 0 1000 rfl v123_46_2)) j123_4 i142 ((in_c 4 rfl)) i130; have a9 := t_add e129 (inv_F hIc123 0 1000 rfl v123_46_2) (in_c 1 rfl) rfl; have a10 := in_u ((in_c 1 rfl)); omega
                have n181g : (s.2.2.1 46 2).toInt ≤ ((sF (sF (sF sc123 46 2 z129) 46 3 (Int32.ofInt 4)) 46 5 y123_3).2.2.1 46 4).toInt := by have b0 : w123_46_4 = (sF (sF (sF sc123 46 2 z129) 46 3 (Int32.ofInt 4)) 46 5 y123_3).2.2.1 46 4 := sF_ne rfl (sF_ne rfl (sF_ne rfl (v123_46_4))); rw [← b0, ← e_46_2]; exact n181f
                exact g_return (gd rfl) rfl (hP _ _ ⟨(sF (sF (sF sc123 46 2 z129) 46 3 (Int32.ofInt 4)) 46 5 y123_3), hI178, (fr_sF rfl (fr_sF rfl (fr_sF rfl hFc123))), n181c, n181e, n181g, rfl, rfl, n181, n181a⟩)
              · skip
                exact zn_ne c165 (in_c 0 rfl) rfl
            · skip
              have i162x16 := z_ge 0 8 c162x16 i162x13a rfl
              refine g_iconst 1 20 (gd rfl) rfl rfl ?_
              refine g_goto 24 (gd rfl) rfl ?_
              refine g_ireturn (gd rfl) rfl (nb01 (in_w 0 1 (in_c 1 rfl) rfl)) (hp162 _ _ ?_)
              show GG _ _ _ _ _ _ _ _ [.int (Int32.ofInt 1), .ref (A 46)] _ _ _
              refine g_if_eq 168 172 (gd rfl) rfl rfl (fun c165 => ?_) (fun c165 => ?_)
              · skip
                exact zn_eq c165 (in_c 1 rfl) rfl
              · skip
                refine g_iconst 3 169 (gd rfl) rfl rfl ?_
                refine g_goto 173 (gd rfl) rfl ?_
                refine g_putI 176 (gd rfl) rfl rfl rfl rfl ?_
                have hI173 := inv_sF (q := 46) (j := 3) hI130 rfl (in_w 0 5 (in_c 3 rfl) rfl)
                refine g_aload_n 177 (gd rfl) rfl rfl ?_
                refine g_iload_n 178 (gd rfl) rfl rfl ?_
                refine g_putI 181 (gd rfl) rfl rfl rfl rfl ?_
                have hI178 := inv_sF (q := 46) (j := 5) hI173 rfl (in_w (-2147483648) 2147483647 i142 rfl)
                have n181 : (x1).toInt = 6 → TK (sF (sF (sF sc123 46 2 z129) 46 3 (Int32.ofInt 3)) 46 5 y123_3) := by intro h6; exact ⟨(Or.inr (by rw [← (show w123_46_4 = (sF (sF (sF sc123 46 2 z129) 46 3 (Int32.ofInt 3)) 46 5 y123_3).2.2.1 46 4 from sF_ne rfl (sF_ne rfl (sF_ne rfl (v123_46_4)))), ← (show z129 = (sF (sF (sF sc123 46 2 z129) 46 3 (Int32.ofInt 3)) 46 5 y123_3).2.2.1 46 2 from sF_ne rfl (sF_ne rfl (sF_get)))]; have a0 := oa9 i162x7 h1 ro_46_1 ((inv_F hIc123 0 1000 rfl v123_46_4)) ((inv_F hIc123 0 1000 rfl v123_46_2)) j123_4 i142 ((in_c 3 rfl)) i130; have a9 := t_add e129 (inv_F hIc123 0 1000 rfl v123_46_2) (in_c 1 rfl) rfl; have a10 := in_u ((in_c 1 rfl)); omega)), (fun h2 => absurd h2 (by rw [← (show (Int32.ofInt 3) = (sF (sF (sF sc123 46 2 z129) 46 3 (Int32.ofInt 3)) 46 5 y123_3).2.2.1 46 3 from sF_ne rfl (sF_get))]; decide))⟩
                have n181a : ((sF (sF (sF sc123 46 2 z129) 46 3 (Int32.ofInt 3)) 46 5 y123_3).2.2.1 46 3).toInt = 1 → In ((sF (sF (sF sc123 46 2 z129) 46 3 (Int32.ofInt 3)) 46 5 y123_3).2.2.1 46 5) 0 25 := by intro h1; rw [← (show (Int32.ofInt 3) = (sF (sF (sF sc123 46 2 z129) 46 3 (Int32.ofInt 3)) 46 5 y123_3).2.2.1 46 3 from sF_ne rfl (sF_get))] at h1; exact absurd h1 (by decide)
                have n181b : (z129).toInt ≤ (u_46_1).toInt := by have a0 := oa9 i162x7 h1 ro_46_1 ((inv_F hIc123 0 1000 rfl v123_46_4)) ((inv_F hIc123 0 1000 rfl v123_46_2)) j123_4 i142 ((in_c 3 rfl)) i130; have a9 := t_add e129 (inv_F hIc123 0 1000 rfl v123_46_2) (in_c 1 rfl) rfl; have a10 := in_u ((in_c 1 rfl)); omega
                have n181c : ((sF (sF (sF sc123 46 2 z129) 46 3 (Int32.ofInt 3)) 46 5 y123_3).2.2.1 46 2).toInt ≤ ((sF (sF (sF sc123 46 2 z129) 46 3 (Int32.ofInt 3)) 46 5 y123_3).2.2.1 46 1).toInt := by have b0 : z129 = (sF (sF (sF sc123 46 2 z129) 46 3 (Int32.ofInt 3)) 46 5 y123_3).2.2.1 46 2 := sF_ne rfl (sF_ne rfl (sF_get)); have b1 : u_46_1 = (sF (sF (sF sc123 46 2 z129) 46 3 (Int32.ofInt 3)) 46 5 y123_3).2.2.1 46 1 := sF_ne rfl (sF_ne rfl (sF_ne rfl (fr_F e_46_1 hFc123 rfl))); rw [← b0, ← b1]; exact n181b
                have n181d : (w123_46_4).toInt ≤ (z129).toInt := by have a0 := oa9 i162x7 h1 ro_46_1 ((inv_F hIc123 0 1000 rfl v123_46_4)) ((inv_F hIc123 0 1000 rfl v123_46_2)) j123_4 i142 ((in_c 3 rfl)) i130; have a9 := t_add e129 (inv_F hIc123 0 1000 rfl v123_46_2) (in_c 1 rfl) rfl; have a10 := in_u ((in_c 1 rfl)); omega
                have n181e : ((sF (sF (sF sc123 46 2 z129) 46 3 (Int32.ofInt 3)) 46 5 y123_3).2.2.1 46 4).toInt ≤ ((sF (sF (sF sc123 46 2 z129) 46 3 (Int32.ofInt 3)) 46 5 y123_3).2.2.1 46 2).toInt := by have b0 : w123_46_4 = (sF (sF (sF sc123 46 2 z129) 46 3 (Int32.ofInt 3)) 46 5 y123_3).2.2.1 46 4 := sF_ne rfl (sF_ne rfl (sF_ne rfl (v123_46_4))); have b1 : z129 = (sF (sF (sF sc123 46 2 z129) 46 3 (Int32.ofInt 3)) 46 5 y123_3).2.2.1 46 2 := sF_ne rfl (sF_ne rfl (sF_get)); rw [← b0, ← b1]; exact n181d
                have n181f : (u_46_2).toInt ≤ (w123_46_4).toInt := by have a0 := oa9 i162x7 h1 ro_46_1 ((inv_F hIc123 0 1000 rfl v123_46_4)) ((inv_F hIc123 0 1000 rfl v123_46_2)) j123_4 i142 ((in_c 3 rfl)) i130; have a9 := t_add e129 (inv_F hIc123 0 1000 rfl v123_46_2) (in_c 1 rfl) rfl; have a10 := in_u ((in_c 1 rfl)); omega
                have n181g : (s.2.2.1 46 2).toInt ≤ ((sF (sF (sF sc123 46 2 z129) 46 3 (Int32.ofInt 3)) 46 5 y123_3).2.2.1 46 4).toInt := by have b0 : w123_46_4 = (sF (sF (sF sc123 46 2 z129) 46 3 (Int32.ofInt 3)) 46 5 y123_3).2.2.1 46 4 := sF_ne rfl (sF_ne rfl (sF_ne rfl (v123_46_4))); rw [← b0, ← e_46_2]; exact n181f
                exact g_return (gd rfl) rfl (hP _ _ ⟨(sF (sF (sF sc123 46 2 z129) 46 3 (Int32.ofInt 3)) 46 5 y123_3), hI178, (fr_sF rfl (fr_sF rfl (fr_sF rfl hFc123))), n181c, n181e, n181g, rfl, rfl, n181, n181a⟩)
      · skip
        have i142 := r_le1 97 122 c142 i136 (in_c 122 rfl) rfl
        refine g_aload_n 146 (gd rfl) rfl rfl ?_
        refine g_iconst 1 147 (gd rfl) rfl rfl ?_
        refine g_putI 150 (gd rfl) rfl rfl rfl rfl ?_
        have hI147 := inv_sF (q := 46) (j := 3) hI130 rfl (in_w 0 5 (in_c 1 rfl) rfl)
        refine g_aload_n 151 (gd rfl) rfl rfl ?_
        refine g_iload_n 152 (gd rfl) rfl rfl ?_
        refine g_bipush 97 154 (gd rfl) rfl rfl ?_
        refine g_isub 155 (gd rfl) rfl (fun z154 e154 => ?_)
        have i154 := in_sub 0 25 e154 i142 (in_c 97 rfl) rfl rfl
        refine g_putI 158 (gd rfl) rfl rfl rfl rfl ?_
        have hI155 := inv_sF (q := 46) (j := 5) hI147 rfl (in_w (-2147483648) 2147483647 i154 rfl)
        have n158 : (x1).toInt = 6 → TK (sF (sF (sF sc123 46 2 z129) 46 3 (Int32.ofInt 1)) 46 5 z154) := by intro h6; exact ⟨(Or.inr (by rw [← (show w123_46_4 = (sF (sF (sF sc123 46 2 z129) 46 3 (Int32.ofInt 1)) 46 5 z154).2.2.1 46 4 from sF_ne rfl (sF_ne rfl (sF_ne rfl (v123_46_4)))), ← (show z129 = (sF (sF (sF sc123 46 2 z129) 46 3 (Int32.ofInt 1)) 46 5 z154).2.2.1 46 2 from sF_ne rfl (sF_ne rfl (sF_get)))]; have a0 := h2; unfold In at a0; have a1 := oa7 h1 ro_46_1 ((inv_F hIc123 0 1000 rfl v123_46_4)) ((inv_F hIc123 0 1000 rfl v123_46_2)) j123_4 i142 i154; have a8 := t_sub e154 i142 (in_c 97 rfl) rfl; have a9 := oa3 ((in_c 97 rfl)) ((in_c 1 rfl)) i130; have a12 := t_add e129 (inv_F hIc123 0 1000 rfl v123_46_2) (in_c 1 rfl) rfl; omega)), (fun h2 => absurd h2 (by rw [← (show (Int32.ofInt 1) = (sF (sF (sF sc123 46 2 z129) 46 3 (Int32.ofInt 1)) 46 5 z154).2.2.1 46 3 from sF_ne rfl (sF_get))]; decide))⟩
        have n158a : ((sF (sF (sF sc123 46 2 z129) 46 3 (Int32.ofInt 1)) 46 5 z154).2.2.1 46 3).toInt = 1 → In ((sF (sF (sF sc123 46 2 z129) 46 3 (Int32.ofInt 1)) 46 5 z154).2.2.1 46 5) 0 25 := by intro _; rw [← (show z154 = (sF (sF (sF sc123 46 2 z129) 46 3 (Int32.ofInt 1)) 46 5 z154).2.2.1 46 5 from sF_get)]; exact ⟨by have a0 := oa8 h2 h1 ro_46_1 ((inv_F hIc123 0 1000 rfl v123_46_4)) ((inv_F hIc123 0 1000 rfl v123_46_2)) j123_4 i142 i154; have a8 := t_sub e154 i142 (in_c 97 rfl) rfl; have a9 := oa3 ((in_c 97 rfl)) ((in_c 1 rfl)) i130; have a12 := t_add e129 (inv_F hIc123 0 1000 rfl v123_46_2) (in_c 1 rfl) rfl; omega, by have a0 := oa8 h2 h1 ro_46_1 ((inv_F hIc123 0 1000 rfl v123_46_4)) ((inv_F hIc123 0 1000 rfl v123_46_2)) j123_4 i142 i154; have a8 := t_sub e154 i142 (in_c 97 rfl) rfl; have a9 := oa3 ((in_c 97 rfl)) ((in_c 1 rfl)) i130; have a12 := t_add e129 (inv_F hIc123 0 1000 rfl v123_46_2) (in_c 1 rfl) rfl; omega⟩
        have n158b : (z129).toInt ≤ (u_46_1).toInt := by have a0 := oa8 h2 h1 ro_46_1 ((inv_F hIc123 0 1000 rfl v123_46_4)) ((inv_F hIc123 0 1000 rfl v123_46_2)) j123_4 i142 i154; have a8 := t_sub e154 i142 (in_c 97 rfl) rfl; have a9 := oa3 ((in_c 97 rfl)) ((in_c 1 rfl)) i130; have a12 := t_add e129 (inv_F hIc123 0 1000 rfl v123_46_2) (in_c 1 rfl) rfl; omega
        have n158c : ((sF (sF (sF sc123 46 2 z129) 46 3 (Int32.ofInt 1)) 46 5 z154).2.2.1 46 2).toInt ≤ ((sF (sF (sF sc123 46 2 z129) 46 3 (Int32.ofInt 1)) 46 5 z154).2.2.1 46 1).toInt := by have b0 : z129 = (sF (sF (sF sc123 46 2 z129) 46 3 (Int32.ofInt 1)) 46 5 z154).2.2.1 46 2 := sF_ne rfl (sF_ne rfl (sF_get)); have b1 : u_46_1 = (sF (sF (sF sc123 46 2 z129) 46 3 (Int32.ofInt 1)) 46 5 z154).2.2.1 46 1 := sF_ne rfl (sF_ne rfl (sF_ne rfl (fr_F e_46_1 hFc123 rfl))); rw [← b0, ← b1]; exact n158b
        have n158d : (w123_46_4).toInt ≤ (z129).toInt := by have a0 := oa8 h2 h1 ro_46_1 ((inv_F hIc123 0 1000 rfl v123_46_4)) ((inv_F hIc123 0 1000 rfl v123_46_2)) j123_4 i142 i154; have a8 := t_sub e154 i142 (in_c 97 rfl) rfl; have a9 := oa3 ((in_c 97 rfl)) ((in_c 1 rfl)) i130; have a12 := t_add e129 (inv_F hIc123 0 1000 rfl v123_46_2) (in_c 1 rfl) rfl; omega
        have n158e : ((sF (sF (sF sc123 46 2 z129) 46 3 (Int32.ofInt 1)) 46 5 z154).2.2.1 46 4).toInt ≤ ((sF (sF (sF sc123 46 2 z129) 46 3 (Int32.ofInt 1)) 46 5 z154).2.2.1 46 2).toInt := by have b0 : w123_46_4 = (sF (sF (sF sc123 46 2 z129) 46 3 (Int32.ofInt 1)) 46 5 z154).2.2.1 46 4 := sF_ne rfl (sF_ne rfl (sF_ne rfl (v123_46_4))); have b1 : z129 = (sF (sF (sF sc123 46 2 z129) 46 3 (Int32.ofInt 1)) 46 5 z154).2.2.1 46 2 := sF_ne rfl (sF_ne rfl (sF_get)); rw [← b0, ← b1]; exact n158d
        have n158f : (u_46_2).toInt ≤ (w123_46_4).toInt := by have a0 := oa8 h2 h1 ro_46_1 ((inv_F hIc123 0 1000 rfl v123_46_4)) ((inv_F hIc123 0 1000 rfl v123_46_2)) j123_4 i142 i154; have a8 := t_sub e154 i142 (in_c 97 rfl) rfl; have a9 := oa3 ((in_c 97 rfl)) ((in_c 1 rfl)) i130; have a12 := t_add e129 (inv_F hIc123 0 1000 rfl v123_46_2) (in_c 1 rfl) rfl; omega
        have n158g : (s.2.2.1 46 2).toInt ≤ ((sF (sF (sF sc123 46 2 z129) 46 3 (Int32.ofInt 1)) 46 5 z154).2.2.1 46 4).toInt := by have b0 : w123_46_4 = (sF (sF (sF sc123 46 2 z129) 46 3 (Int32.ofInt 1)) 46 5 z154).2.2.1 46 4 := sF_ne rfl (sF_ne rfl (sF_ne rfl (v123_46_4))); rw [← b0, ← e_46_2]; exact n158f
        exact g_return (gd rfl) rfl (hP _ _ ⟨(sF (sF (sF sc123 46 2 z129) 46 3 (Int32.ofInt 1)) 46 5 z154), hI155, (fr_sF rfl (fr_sF rfl (fr_sF rfl hFc123))), n158c, n158e, n158g, rfl, rfl, n158, n158a⟩)
  have ct90 : ∀ (sc90 : GS) (y90_3 : Int32) (y90_4 : Int32) (w90_46_2 : Int32) (w90_46_4 : Int32), Inv sc90 → Fr fm_171_46 s sc90 → (In y90_3 0 65535) → (In y90_4 0 1) → (w90_46_2 = sc90.2.2.1 46 2) → (w90_46_4 = sc90.2.2.1 46 4) → ((w90_46_2).toInt + 1 ≤ (u_46_1).toInt) → ((w90_46_4).toInt = (w90_46_2).toInt) → ((u_46_2).toInt ≤ (w90_46_2).toInt) → GG Z (d - 1) 171 post (gx xp) (1802) 90 (fun j => xlook j [(0, .ref (A 46)), (1, .int x1), (2, .int x2), (3, .int y90_3), (4, .int y90_4)]) [] (WW Z A sc90 ++ ex) 0 0 := by
    intro sc90 y90_3 y90_4 w90_46_2 w90_46_4 hIc90 hFc90 j90_3 j90_4 v90_46_2 v90_46_4 n90_0 n90_1 n90_2
    refine g_aload_n 91 (gd rfl) rfl rfl ?_
    refine g_iload 93 (gd rfl) rfl rfl ?_
    refine g_if_eq 96 105 (gd rfl) rfl rfl (fun c93 => ?_) (fun c93 => ?_)
    · skip
      have i93 := z_eq 0 0 c93 j90_4 rfl
      refine g_aload_n 106 (gd rfl) rfl rfl ?_
      refine g_getI 109 (gd rfl) rfl rfl rfl (fun z106 e106 => ?_)
      have q106 : w90_46_2 = z106 := (v90_46_2).trans e106.symm
      subst q106
      refine g_callv (X := _) (As := [.int w90_46_2]) (r := []) (b := A 46) (q := 46) 112 (gd rfl) rfl rfl rfl rfl rfl (ww_o rfl) (Nat.le_of_ble_eq_true rfl) (mc := 0) (ms := 0) (Nat.zero_le _) (Nat.zero_le _) (P := fun v u => _) ?_ (fun e u h => h) (fun v u h => h)
      intro po109 xx109 hp109 hx109
      refine g_enter2 (k := 172) (N := 300) (by first | exact dq1 hd rfl | exact dq0 hd rfl | exact dq2 hd rfl | exact dq3 hd rfl | omega) rfl (Nat.le_of_ble_eq_true rfl) ?_
      refine g_iload_n 1 (gd rfl) rfl rfl ?_
      refine g_aload_n 2 (gd rfl) rfl rfl ?_
      refine g_getI 5 (gd rfl) rfl rfl rfl (fun z109x2 e109x2 => ?_)
      have q109x2 : u_46_1 = z109x2 := (fr_F e_46_1 hFc90 rfl).trans e109x2.symm
      subst q109x2
      refine g_cmp_ge 8 34 (gd rfl) rfl rfl (fun c109x5 => ?_) (fun c109x5 => ?_)
      · skip
        refine g_iconst 0 35 (gd rfl) rfl rfl ?_
        refine g_ireturn (gd rfl) rfl (nb01 (in_w 0 1 (in_c 0 rfl) rfl)) (hp109 _ _ ?_)
        show GG _ _ _ _ _ _ _ _ [.int (Int32.ofInt 0)] _ _ _
        refine g_if_eq 115 123 (gd rfl) rfl rfl (fun c112 => ?_) (fun c112 => ?_)
        · skip
          have n123 : (w90_46_2).toInt + 1 ≤ (u_46_1).toInt := by first | exact n90_0 | (have a0 := oa7 h2 h1 ro_46_1 ((inv_F hIc90 0 1000 rfl v90_46_4)) ((inv_F hIc90 0 1000 rfl v90_46_2)) i93 j90_3; omega)
          have n123a : (w90_46_4).toInt = (w90_46_2).toInt := by first | exact n90_1 | (have a0 := oa7 h2 h1 ro_46_1 ((inv_F hIc90 0 1000 rfl v90_46_4)) ((inv_F hIc90 0 1000 rfl v90_46_2)) i93 j90_3; omega)
          have n123b : (u_46_2).toInt ≤ (w90_46_2).toInt := by first | exact n90_2 | (have a0 := oa7 h2 h1 ro_46_1 ((inv_F hIc90 0 1000 rfl v90_46_4)) ((inv_F hIc90 0 1000 rfl v90_46_2)) i93 j90_3; omega)
          exact gg_w (by first | exact Nat.le_of_ble_eq_true rfl | omega) (gg_f (gf_cons rfl (gf_cons rfl (gf_cons rfl (gf_cons rfl (gf_cons rfl gf_nil))))) (ct123 sc90 y90_3 y90_4 w90_46_2 w90_46_4 hIc90 hFc90 (in_w 0 65535 j90_3 rfl) (in_w 0 1 i93 rfl) v90_46_2 v90_46_4 n123 n123a n123b))
        · skip
          exact zn_ne c112 (in_c 0 rfl) rfl
      · skip
        have i109x5 := r_lt1 0 999 c109x5 (inv_F hIc90 0 1000 rfl v90_46_2) ro_46_1 rfl
        have i109x5a := r_lt2 1 1000 c109x5 (inv_F hIc90 0 1000 rfl v90_46_2) ro_46_1 rfl
        refine g_aload_n 9 (gd rfl) rfl rfl ?_
        refine g_getA (q2 := 47) 12 (gd rfl) rfl rfl rfl rfl ?_
        refine g_iload_n 13 (gd rfl) rfl rfl ?_
        refine g_caload 14 (gd rfl) rfl (n := 1000) rfl (in_ix i109x5 rfl) (fun z109x13 e109x13 => ?_)
        have i109x13 := inv_I hIc90 (n := 1000) (t := 2) 0 65535 rfl (in_ix i109x5 rfl) rfl e109x13
        refine g_bipush 48 16 (gd rfl) rfl rfl ?_
        refine g_cmp_lt 19 34 (gd rfl) rfl rfl (fun c109x16 => ?_) (fun c109x16 => ?_)
        · skip
          have i109x16 := r_lt1 0 47 c109x16 i109x13 (in_c 48 rfl) rfl
          refine g_iconst 0 35 (gd rfl) rfl rfl ?_
          refine g_ireturn (gd rfl) rfl (nb01 (in_w 0 1 (in_c 0 rfl) rfl)) (hp109 _ _ ?_)
          show GG _ _ _ _ _ _ _ _ [.int (Int32.ofInt 0)] _ _ _
          refine g_if_eq 115 123 (gd rfl) rfl rfl (fun c112 => ?_) (fun c112 => ?_)
          · skip
            have n123 : (w90_46_2).toInt + 1 ≤ (u_46_1).toInt := by first | exact n90_0 | (have a0 := oa7 h2 h1 i109x5a ((inv_F hIc90 0 1000 rfl v90_46_4)) i109x5 i93 j90_3; omega)
            have n123a : (w90_46_4).toInt = (w90_46_2).toInt := by first | exact n90_1 | (have a0 := oa7 h2 h1 i109x5a ((inv_F hIc90 0 1000 rfl v90_46_4)) i109x5 i93 j90_3; omega)
            have n123b : (u_46_2).toInt ≤ (w90_46_2).toInt := by first | exact n90_2 | (have a0 := oa7 h2 h1 i109x5a ((inv_F hIc90 0 1000 rfl v90_46_4)) i109x5 i93 j90_3; omega)
            exact gg_w (by first | exact Nat.le_of_ble_eq_true rfl | omega) (gg_f (gf_cons rfl (gf_cons rfl (gf_cons rfl (gf_cons rfl (gf_cons rfl gf_nil))))) (ct123 sc90 y90_3 y90_4 w90_46_2 w90_46_4 hIc90 hFc90 (in_w 0 65535 j90_3 rfl) (in_w 0 1 i93 rfl) v90_46_2 v90_46_4 n123 n123a n123b))
          · skip
            exact zn_ne c112 (in_c 0 rfl) rfl
        · skip
          have i109x16 := r_le2 48 65535 c109x16 (in_c 48 rfl) i109x13 rfl
          refine g_aload_n 20 (gd rfl) rfl rfl ?_
          refine g_getA (q2 := 47) 23 (gd rfl) rfl rfl rfl rfl ?_
          refine g_iload_n 24 (gd rfl) rfl rfl ?_
          refine g_caload 25 (gd rfl) rfl (n := 1000) rfl (in_ix i109x5 rfl) (fun z109x24 e109x24 => ?_)
          have q109x24 : z109x13 = z109x24 := (e109x13).trans e109x24.symm
          subst q109x24
          refine g_bipush 57 27 (gd rfl) rfl rfl ?_
          refine g_cmp_gt 30 34 (gd rfl) rfl rfl (fun c109x27 => ?_) (fun c109x27 => ?_)
          · skip
            have i109x27 := r_lt2 58 65535 c109x27 (in_c 57 rfl) i109x16 rfl
            refine g_iconst 0 35 (gd rfl) rfl rfl ?_
            refine g_ireturn (gd rfl) rfl (nb01 (in_w 0 1 (in_c 0 rfl) rfl)) (hp109 _ _ ?_)
            show GG _ _ _ _ _ _ _ _ [.int (Int32.ofInt 0)] _ _ _
            refine g_if_eq 115 123 (gd rfl) rfl rfl (fun c112 => ?_) (fun c112 => ?_)
            · skip
              have n123 : (w90_46_2).toInt + 1 ≤ (u_46_1).toInt := by first | exact n90_0 | (have a0 := oa7 h2 h1 i109x5a ((inv_F hIc90 0 1000 rfl v90_46_4)) i109x5 i93 j90_3; omega)
              have n123a : (w90_46_4).toInt = (w90_46_2).toInt := by first | exact n90_1 | (have a0 := oa7 h2 h1 i109x5a ((inv_F hIc90 0 1000 rfl v90_46_4)) i109x5 i93 j90_3; omega)
              have n123b : (u_46_2).toInt ≤ (w90_46_2).toInt := by first | exact n90_2 | (have a0 := oa7 h2 h1 i109x5a ((inv_F hIc90 0 1000 rfl v90_46_4)) i109x5 i93 j90_3; omega)
              exact gg_w (by first | exact Nat.le_of_ble_eq_true rfl | omega) (gg_f (gf_cons rfl (gf_cons rfl (gf_cons rfl (gf_cons rfl (gf_cons rfl gf_nil))))) (ct123 sc90 y90_3 y90_4 w90_46_2 w90_46_4 hIc90 hFc90 (in_w 0 65535 j90_3 rfl) (in_w 0 1 i93 rfl) v90_46_2 v90_46_4 n123 n123a n123b))
            · skip
              exact zn_ne c112 (in_c 0 rfl) rfl
          · skip
            have i109x27 := r_le1 48 57 c109x27 i109x16 (in_c 57 rfl) rfl
            refine g_iconst 1 31 (gd rfl) rfl rfl ?_
            refine g_goto 35 (gd rfl) rfl ?_
            refine g_ireturn (gd rfl) rfl (nb01 (in_w 0 1 (in_c 1 rfl) rfl)) (hp109 _ _ ?_)
            show GG _ _ _ _ _ _ _ _ [.int (Int32.ofInt 1)] _ _ _
            refine g_if_eq 115 123 (gd rfl) rfl rfl (fun c112 => ?_) (fun c112 => ?_)
            · skip
              exact zn_eq c112 (in_c 1 rfl) rfl
            · skip
              refine g_aload_n 116 (gd rfl) rfl rfl ?_
              refine g_iload 118 (gd rfl) rfl rfl ?_
              refine g_iload_n 119 (gd rfl) rfl rfl ?_
              have v119 : u_46_1 = sc90.2.2.1 46 1 := fr_F e_46_1 hFc90 rfl
              have n119 : (w90_46_2).toInt + (y90_4).toInt + 1 ≤ (u_46_1).toInt := by have a0 := oa7 h2 h1 i109x5a ((inv_F hIc90 0 1000 rfl v90_46_4)) i109x5 i93 j90_3; omega
              have p119 : 48 ≤ (sc90.1 47 ((sc90.2.2.1 46 2).toInt + (y90_4).toInt).toNat).toInt ∧ (sc90.1 47 ((sc90.2.2.1 46 2).toInt + (y90_4).toInt).toNat).toInt ≤ 57 := by have ei : ((sc90.2.2.1 46 2).toInt + (y90_4).toInt).toNat = w90_46_2.toNatClampNeg := (by rw [← (show w90_46_2 = sc90.2.2.1 46 2 from v90_46_2)]; show _ = w90_46_2.toInt.toNat; have a0 := oa7 h2 h1 i109x5a ((inv_F hIc90 0 1000 rfl v90_46_4)) i109x5 i93 j90_3; omega); rw [ei, ← e109x13]; exact i109x27
              refine g_callv (X := _) (As := [.int y90_4, .int x1]) (r := []) (b := A 46) (q := 46) 122 (gd rfl) rfl rfl rfl rfl rfl (ww_o rfl) (Nat.le_of_ble_eq_true rfl) (Nat.zero_le _) (Nat.zero_le _) (k_173_46 (by first | exact dq1 hd rfl | exact dq0 hd rfl | exact dq2 hd rfl | exact dq3 hd rfl | omega) hIc90 (in_w 0 1 i93 rfl) (in_w 6 7 h1 rfl) v90_46_2 v119 n119 p119) (fun e u h => h) (fun v u h => ?_)
              obtain ⟨s119, hI119, hF119, n119a, n119b, rfl, rfl, p119a, p119b⟩ := h
              obtain ⟨z119a, e119⟩ : ∃ w, w = s119.2.2.1 46 2 := ⟨_, rfl⟩
              have i119a := inv_F hI119 0 1000 rfl e119
              rw [← (show z119a = s119.2.2.1 46 2 from e119)] at n119a
              rw [← (show u_46_1 = s119.2.2.1 46 1 from fr_F (fr_F e_46_1 hFc90 rfl) hF119 rfl)] at n119a
              rw [← (show w90_46_2 = sc90.2.2.1 46 2 from v90_46_2)] at n119b
              rw [← (show z119a = s119.2.2.1 46 2 from e119)] at n119b
              show GG _ _ _ _ _ _ _ _ [] _ _ _
              have n122 : (x1).toInt = 6 → TK s119 := by intro h6; exact ⟨(Or.inr (by rw [← (show w90_46_4 = s119.2.2.1 46 4 from fr_F (v90_46_4) hF119 rfl), ← (show z119a = s119.2.2.1 46 2 from e119)]; have a0 := oa8 h2 h1 i109x5a ((inv_F hIc90 0 1000 rfl v90_46_4)) i109x5 i93 j90_3 i119a; omega)), p119b h6⟩
              have n122a : (s119.2.2.1 46 3).toInt = 1 → In (s119.2.2.1 46 5) 0 25 := by intro h1; exact absurd h1 p119a
              have n122b : (z119a).toInt ≤ (u_46_1).toInt := by have a0 := oa8 h2 h1 i109x5a ((inv_F hIc90 0 1000 rfl v90_46_4)) i109x5 i93 j90_3 i119a; omega
              have n122c : (s119.2.2.1 46 2).toInt ≤ (s119.2.2.1 46 1).toInt := by have b0 : z119a = s119.2.2.1 46 2 := e119; have b1 : u_46_1 = s119.2.2.1 46 1 := fr_F (fr_F e_46_1 hFc90 rfl) hF119 rfl; rw [← b0, ← b1]; exact n122b
              have n122d : (w90_46_4).toInt ≤ (z119a).toInt := by have a0 := oa8 h2 h1 i109x5a ((inv_F hIc90 0 1000 rfl v90_46_4)) i109x5 i93 j90_3 i119a; omega
              have n122e : (s119.2.2.1 46 4).toInt ≤ (s119.2.2.1 46 2).toInt := by have b0 : w90_46_4 = s119.2.2.1 46 4 := fr_F (v90_46_4) hF119 rfl; have b1 : z119a = s119.2.2.1 46 2 := e119; rw [← b0, ← b1]; exact n122d
              have n122f : (u_46_2).toInt ≤ (w90_46_4).toInt := by have a0 := oa8 h2 h1 i109x5a ((inv_F hIc90 0 1000 rfl v90_46_4)) i109x5 i93 j90_3 i119a; omega
              have n122g : (s.2.2.1 46 2).toInt ≤ (s119.2.2.1 46 4).toInt := by have b0 : w90_46_4 = s119.2.2.1 46 4 := fr_F (v90_46_4) hF119 rfl; rw [← b0, ← e_46_2]; exact n122f
              exact g_return (gd rfl) rfl (hP _ _ ⟨s119, hI119, (fr_tr rfl hFc90 hF119), n122c, n122e, n122g, rfl, rfl, n122, n122a⟩)
    · skip
      have i93 := z_ne 1 1 c93 j90_4 rfl
      refine g_aload_n 97 (gd rfl) rfl rfl ?_
      refine g_getI 100 (gd rfl) rfl rfl rfl (fun z97 e97 => ?_)
      have q97 : w90_46_2 = z97 := (v90_46_2).trans e97.symm
      subst q97
      refine g_iconst 1 101 (gd rfl) rfl rfl ?_
      refine g_iadd 102 (gd rfl) rfl (fun z101 e101 => ?_)
      have i101 := in_add 1 1001 e101 (inv_F hIc90 0 1000 rfl v90_46_2) (in_c 1 rfl) rfl rfl
      refine g_goto 109 (gd rfl) rfl ?_
      refine g_callv (X := _) (As := [.int z101]) (r := []) (b := A 46) (q := 46) 112 (gd rfl) rfl rfl rfl rfl rfl (ww_o rfl) (Nat.le_of_ble_eq_true rfl) (mc := 0) (ms := 0) (Nat.zero_le _) (Nat.zero_le _) (P := fun v u => _) ?_ (fun e u h => h) (fun v u h => h)
      intro po109 xx109 hp109 hx109
      refine g_enter2 (k := 172) (N := 300) (by first | exact dq1 hd rfl | exact dq0 hd rfl | exact dq2 hd rfl | exact dq3 hd rfl | omega) rfl (Nat.le_of_ble_eq_true rfl) ?_
      refine g_iload_n 1 (gd rfl) rfl rfl ?_
      refine g_aload_n 2 (gd rfl) rfl rfl ?_
      refine g_getI 5 (gd rfl) rfl rfl rfl (fun z109x2 e109x2 => ?_)
      have q109x2 : u_46_1 = z109x2 := (fr_F e_46_1 hFc90 rfl).trans e109x2.symm
      subst q109x2
      refine g_cmp_ge 8 34 (gd rfl) rfl rfl (fun c109x5 => ?_) (fun c109x5 => ?_)
      · skip
        refine g_iconst 0 35 (gd rfl) rfl rfl ?_
        refine g_ireturn (gd rfl) rfl (nb01 (in_w 0 1 (in_c 0 rfl) rfl)) (hp109 _ _ ?_)
        show GG _ _ _ _ _ _ _ _ [.int (Int32.ofInt 0)] _ _ _
        refine g_if_eq 115 123 (gd rfl) rfl rfl (fun c112 => ?_) (fun c112 => ?_)
        · skip
          have n123 : (w90_46_2).toInt + 1 ≤ (u_46_1).toInt := by first | exact n90_0 | (have a0 := oa8 h2 h1 ro_46_1 ((inv_F hIc90 0 1000 rfl v90_46_4)) ((inv_F hIc90 0 1000 rfl v90_46_2)) i93 j90_3 i101; have a8 := t_add e101 (inv_F hIc90 0 1000 rfl v90_46_2) (in_c 1 rfl) rfl; have a9 := in_u ((in_c 1 rfl)); omega)
          have n123a : (w90_46_4).toInt = (w90_46_2).toInt := by first | exact n90_1 | (have a0 := oa8 h2 h1 ro_46_1 ((inv_F hIc90 0 1000 rfl v90_46_4)) ((inv_F hIc90 0 1000 rfl v90_46_2)) i93 j90_3 i101; have a8 := t_add e101 (inv_F hIc90 0 1000 rfl v90_46_2) (in_c 1 rfl) rfl; have a9 := in_u ((in_c 1 rfl)); omega)
          have n123b : (u_46_2).toInt ≤ (w90_46_2).toInt := by first | exact n90_2 | (have a0 := oa8 h2 h1 ro_46_1 ((inv_F hIc90 0 1000 rfl v90_46_4)) ((inv_F hIc90 0 1000 rfl v90_46_2)) i93 j90_3 i101; have a8 := t_add e101 (inv_F hIc90 0 1000 rfl v90_46_2) (in_c 1 rfl) rfl; have a9 := in_u ((in_c 1 rfl)); omega)
          exact gg_w (by first | exact Nat.le_of_ble_eq_true rfl | omega) (gg_f (gf_cons rfl (gf_cons rfl (gf_cons rfl (gf_cons rfl (gf_cons rfl gf_nil))))) (ct123 sc90 y90_3 y90_4 w90_46_2 w90_46_4 hIc90 hFc90 (in_w 0 65535 j90_3 rfl) (in_w 0 1 i93 rfl) v90_46_2 v90_46_4 n123 n123a n123b))
        · skip
          exact zn_ne c112 (in_c 0 rfl) rfl
      · skip
        have i109x5 := r_lt1 1 999 c109x5 i101 ro_46_1 rfl
        have i109x5a := r_lt2 2 1000 c109x5 i101 ro_46_1 rfl
        refine g_aload_n 9 (gd rfl) rfl rfl ?_
        refine g_getA (q2 := 47) 12 (gd rfl) rfl rfl rfl rfl ?_
        refine g_iload_n 13 (gd rfl) rfl rfl ?_
        refine g_caload 14 (gd rfl) rfl (n := 1000) rfl (in_ix i109x5 rfl) (fun z109x13 e109x13 => ?_)
        have i109x13 := inv_I hIc90 (n := 1000) (t := 2) 0 65535 rfl (in_ix i109x5 rfl) rfl e109x13
        refine g_bipush 48 16 (gd rfl) rfl rfl ?_
        refine g_cmp_lt 19 34 (gd rfl) rfl rfl (fun c109x16 => ?_) (fun c109x16 => ?_)
        · skip
          have i109x16 := r_lt1 0 47 c109x16 i109x13 (in_c 48 rfl) rfl
          refine g_iconst 0 35 (gd rfl) rfl rfl ?_
          refine g_ireturn (gd rfl) rfl (nb01 (in_w 0 1 (in_c 0 rfl) rfl)) (hp109 _ _ ?_)
          show GG _ _ _ _ _ _ _ _ [.int (Int32.ofInt 0)] _ _ _
          refine g_if_eq 115 123 (gd rfl) rfl rfl (fun c112 => ?_) (fun c112 => ?_)
          · skip
            have n123 : (w90_46_2).toInt + 1 ≤ (u_46_1).toInt := by first | exact n90_0 | (have a0 := oa8 h2 h1 i109x5a ((inv_F hIc90 0 1000 rfl v90_46_4)) ((inv_F hIc90 0 1000 rfl v90_46_2)) i93 j90_3 i109x5; have a8 := t_add e101 (inv_F hIc90 0 1000 rfl v90_46_2) (in_c 1 rfl) rfl; have a9 := in_u ((in_c 1 rfl)); omega)
            have n123a : (w90_46_4).toInt = (w90_46_2).toInt := by first | exact n90_1 | (have a0 := oa8 h2 h1 i109x5a ((inv_F hIc90 0 1000 rfl v90_46_4)) ((inv_F hIc90 0 1000 rfl v90_46_2)) i93 j90_3 i109x5; have a8 := t_add e101 (inv_F hIc90 0 1000 rfl v90_46_2) (in_c 1 rfl) rfl; have a9 := in_u ((in_c 1 rfl)); omega)
            have n123b : (u_46_2).toInt ≤ (w90_46_2).toInt := by first | exact n90_2 | (have a0 := oa8 h2 h1 i109x5a ((inv_F hIc90 0 1000 rfl v90_46_4)) ((inv_F hIc90 0 1000 rfl v90_46_2)) i93 j90_3 i109x5; have a8 := t_add e101 (inv_F hIc90 0 1000 rfl v90_46_2) (in_c 1 rfl) rfl; have a9 := in_u ((in_c 1 rfl)); omega)
            exact gg_w (by first | exact Nat.le_of_ble_eq_true rfl | omega) (gg_f (gf_cons rfl (gf_cons rfl (gf_cons rfl (gf_cons rfl (gf_cons rfl gf_nil))))) (ct123 sc90 y90_3 y90_4 w90_46_2 w90_46_4 hIc90 hFc90 (in_w 0 65535 j90_3 rfl) (in_w 0 1 i93 rfl) v90_46_2 v90_46_4 n123 n123a n123b))
          · skip
            exact zn_ne c112 (in_c 0 rfl) rfl
        · skip
          have i109x16 := r_le2 48 65535 c109x16 (in_c 48 rfl) i109x13 rfl
          refine g_aload_n 20 (gd rfl) rfl rfl ?_
          refine g_getA (q2 := 47) 23 (gd rfl) rfl rfl rfl rfl ?_
          refine g_iload_n 24 (gd rfl) rfl rfl ?_
          refine g_caload 25 (gd rfl) rfl (n := 1000) rfl (in_ix i109x5 rfl) (fun z109x24 e109x24 => ?_)
          have q109x24 : z109x13 = z109x24 := (e109x13).trans e109x24.symm
          subst q109x24
          refine g_bipush 57 27 (gd rfl) rfl rfl ?_
          refine g_cmp_gt 30 34 (gd rfl) rfl rfl (fun c109x27 => ?_) (fun c109x27 => ?_)
          · skip
            have i109x27 := r_lt2 58 65535 c109x27 (in_c 57 rfl) i109x16 rfl
            refine g_iconst 0 35 (gd rfl) rfl rfl ?_
            refine g_ireturn (gd rfl) rfl (nb01 (in_w 0 1 (in_c 0 rfl) rfl)) (hp109 _ _ ?_)
            show GG _ _ _ _ _ _ _ _ [.int (Int32.ofInt 0)] _ _ _
            refine g_if_eq 115 123 (gd rfl) rfl rfl (fun c112 => ?_) (fun c112 => ?_)
            · skip
              have n123 : (w90_46_2).toInt + 1 ≤ (u_46_1).toInt := by first | exact n90_0 | (have a0 := oa8 h2 h1 i109x5a ((inv_F hIc90 0 1000 rfl v90_46_4)) ((inv_F hIc90 0 1000 rfl v90_46_2)) i93 j90_3 i109x5; have a8 := t_add e101 (inv_F hIc90 0 1000 rfl v90_46_2) (in_c 1 rfl) rfl; have a9 := in_u ((in_c 1 rfl)); omega)
              have n123a : (w90_46_4).toInt = (w90_46_2).toInt := by first | exact n90_1 | (have a0 := oa8 h2 h1 i109x5a ((inv_F hIc90 0 1000 rfl v90_46_4)) ((inv_F hIc90 0 1000 rfl v90_46_2)) i93 j90_3 i109x5; have a8 := t_add e101 (inv_F hIc90 0 1000 rfl v90_46_2) (in_c 1 rfl) rfl; have a9 := in_u ((in_c 1 rfl)); omega)
              have n123b : (u_46_2).toInt ≤ (w90_46_2).toInt := by first | exact n90_2 | (have a0 := oa8 h2 h1 i109x5a ((inv_F hIc90 0 1000 rfl v90_46_4)) ((inv_F hIc90 0 1000 rfl v90_46_2)) i93 j90_3 i109x5; have a8 := t_add e101 (inv_F hIc90 0 1000 rfl v90_46_2) (in_c 1 rfl) rfl; have a9 := in_u ((in_c 1 rfl)); omega)
              exact gg_w (by first | exact Nat.le_of_ble_eq_true rfl | omega) (gg_f (gf_cons rfl (gf_cons rfl (gf_cons rfl (gf_cons rfl (gf_cons rfl gf_nil))))) (ct123 sc90 y90_3 y90_4 w90_46_2 w90_46_4 hIc90 hFc90 (in_w 0 65535 j90_3 rfl) (in_w 0 1 i93 rfl) v90_46_2 v90_46_4 n123 n123a n123b))
            · skip
              exact zn_ne c112 (in_c 0 rfl) rfl
          · skip
            have i109x27 := r_le1 48 57 c109x27 i109x16 (in_c 57 rfl) rfl
            refine g_iconst 1 31 (gd rfl) rfl rfl ?_
            refine g_goto 35 (gd rfl) rfl ?_
            refine g_ireturn (gd rfl) rfl (nb01 (in_w 0 1 (in_c 1 rfl) rfl)) (hp109 _ _ ?_)
            show GG _ _ _ _ _ _ _ _ [.int (Int32.ofInt 1)] _ _ _
            refine g_if_eq 115 123 (gd rfl) rfl rfl (fun c112 => ?_) (fun c112 => ?_)
            · skip
              exact zn_eq c112 (in_c 1 rfl) rfl
            · skip
              refine g_aload_n 116 (gd rfl) rfl rfl ?_
              refine g_iload 118 (gd rfl) rfl rfl ?_
              refine g_iload_n 119 (gd rfl) rfl rfl ?_
              have v119 : u_46_1 = sc90.2.2.1 46 1 := fr_F e_46_1 hFc90 rfl
              have n119 : (w90_46_2).toInt + (y90_4).toInt + 1 ≤ (u_46_1).toInt := by have a0 := oa8 h2 h1 i109x5a ((inv_F hIc90 0 1000 rfl v90_46_4)) ((inv_F hIc90 0 1000 rfl v90_46_2)) i93 j90_3 i109x5; have a8 := t_add e101 (inv_F hIc90 0 1000 rfl v90_46_2) (in_c 1 rfl) rfl; have a9 := in_u ((in_c 1 rfl)); omega
              have p119 : 48 ≤ (sc90.1 47 ((sc90.2.2.1 46 2).toInt + (y90_4).toInt).toNat).toInt ∧ (sc90.1 47 ((sc90.2.2.1 46 2).toInt + (y90_4).toInt).toNat).toInt ≤ 57 := by have ei : ((sc90.2.2.1 46 2).toInt + (y90_4).toInt).toNat = z101.toNatClampNeg := (by rw [← (show w90_46_2 = sc90.2.2.1 46 2 from v90_46_2)]; show _ = z101.toInt.toNat; have a0 := oa8 h2 h1 i109x5a ((inv_F hIc90 0 1000 rfl v90_46_4)) ((inv_F hIc90 0 1000 rfl v90_46_2)) i93 j90_3 i109x5; have a8 := t_add e101 (inv_F hIc90 0 1000 rfl v90_46_2) (in_c 1 rfl) rfl; have a9 := in_u ((in_c 1 rfl)); omega); rw [ei, ← e109x13]; exact i109x27
              refine g_callv (X := _) (As := [.int y90_4, .int x1]) (r := []) (b := A 46) (q := 46) 122 (gd rfl) rfl rfl rfl rfl rfl (ww_o rfl) (Nat.le_of_ble_eq_true rfl) (Nat.zero_le _) (Nat.zero_le _) (k_173_46 (by first | exact dq1 hd rfl | exact dq0 hd rfl | exact dq2 hd rfl | exact dq3 hd rfl | omega) hIc90 (in_w 0 1 i93 rfl) (in_w 6 7 h1 rfl) v90_46_2 v119 n119 p119) (fun e u h => h) (fun v u h => ?_)
              obtain ⟨s119, hI119, hF119, n119a, n119b, rfl, rfl, p119a, p119b⟩ := h
              obtain ⟨z119a, e119⟩ : ∃ w, w = s119.2.2.1 46 2 := ⟨_, rfl⟩
              have i119a := inv_F hI119 0 1000 rfl e119
              rw [← (show z119a = s119.2.2.1 46 2 from e119)] at n119a
              rw [← (show u_46_1 = s119.2.2.1 46 1 from fr_F (fr_F e_46_1 hFc90 rfl) hF119 rfl)] at n119a
              rw [← (show w90_46_2 = sc90.2.2.1 46 2 from v90_46_2)] at n119b
              rw [← (show z119a = s119.2.2.1 46 2 from e119)] at n119b
              show GG _ _ _ _ _ _ _ _ [] _ _ _
              have n122 : (x1).toInt = 6 → TK s119 := by intro h6; exact ⟨(Or.inr (by rw [← (show w90_46_4 = s119.2.2.1 46 4 from fr_F (v90_46_4) hF119 rfl), ← (show z119a = s119.2.2.1 46 2 from e119)]; have a0 := oa9 h2 h1 i109x5a ((inv_F hIc90 0 1000 rfl v90_46_4)) ((inv_F hIc90 0 1000 rfl v90_46_2)) i93 j90_3 i119a i109x5; have a9 := t_add e101 (inv_F hIc90 0 1000 rfl v90_46_2) (in_c 1 rfl) rfl; have a10 := in_u ((in_c 1 rfl)); omega)), p119b h6⟩
              have n122a : (s119.2.2.1 46 3).toInt = 1 → In (s119.2.2.1 46 5) 0 25 := by intro h1; exact absurd h1 p119a
              have n122b : (z119a).toInt ≤ (u_46_1).toInt := by have a0 := oa9 h2 h1 i109x5a ((inv_F hIc90 0 1000 rfl v90_46_4)) ((inv_F hIc90 0 1000 rfl v90_46_2)) i93 j90_3 i119a i109x5; have a9 := t_add e101 (inv_F hIc90 0 1000 rfl v90_46_2) (in_c 1 rfl) rfl; have a10 := in_u ((in_c 1 rfl)); omega
              have n122c : (s119.2.2.1 46 2).toInt ≤ (s119.2.2.1 46 1).toInt := by have b0 : z119a = s119.2.2.1 46 2 := e119; have b1 : u_46_1 = s119.2.2.1 46 1 := fr_F (fr_F e_46_1 hFc90 rfl) hF119 rfl; rw [← b0, ← b1]; exact n122b
              have n122d : (w90_46_4).toInt ≤ (z119a).toInt := by have a0 := oa9 h2 h1 i109x5a ((inv_F hIc90 0 1000 rfl v90_46_4)) ((inv_F hIc90 0 1000 rfl v90_46_2)) i93 j90_3 i119a i109x5; have a9 := t_add e101 (inv_F hIc90 0 1000 rfl v90_46_2) (in_c 1 rfl) rfl; have a10 := in_u ((in_c 1 rfl)); omega
              have n122e : (s119.2.2.1 46 4).toInt ≤ (s119.2.2.1 46 2).toInt := by have b0 : w90_46_4 = s119.2.2.1 46 4 := fr_F (v90_46_4) hF119 rfl; have b1 : z119a = s119.2.2.1 46 2 := e119; rw [← b0, ← b1]; exact n122d
              have n122f : (u_46_2).toInt ≤ (w90_46_4).toInt := by have a0 := oa9 h2 h1 i109x5a ((inv_F hIc90 0 1000 rfl v90_46_4)) ((inv_F hIc90 0 1000 rfl v90_46_2)) i93 j90_3 i119a i109x5; have a9 := t_add e101 (inv_F hIc90 0 1000 rfl v90_46_2) (in_c 1 rfl) rfl; have a10 := in_u ((in_c 1 rfl)); omega
              have n122g : (s.2.2.1 46 2).toInt ≤ (s119.2.2.1 46 4).toInt := by have b0 : w90_46_4 = s119.2.2.1 46 4 := fr_F (v90_46_4) hF119 rfl; rw [← b0, ← e_46_2]; exact n122f
              exact g_return (gd rfl) rfl (hP _ _ ⟨s119, hI119, (fr_tr rfl hFc90 hF119), n122c, n122e, n122g, rfl, rfl, n122, n122a⟩)
  have ct38 : ∀ (sc38 : GS) (w38_46_2 : Int32), Inv sc38 → Fr fm_171_46 s sc38 → (w38_46_2 = sc38.2.2.1 46 2) → ((w38_46_2).toInt ≤ (u_46_1).toInt) → ((u_46_2).toInt ≤ (w38_46_2).toInt) → GG Z (d - 1) 171 post (gx xp) (2703) 38 (fun j => xlook j [(0, .ref (A 46)), (1, .int x1), (2, .int x2)]) [] (WW Z A sc38 ++ ex) 0 0 := by
    intro sc38 w38_46_2 hIc38 hFc38 v38_46_2 n38_0 n38_1
    refine g_aload_n 39 (gd rfl) rfl rfl ?_
    refine g_aload_n 40 (gd rfl) rfl rfl ?_
    refine g_getI 43 (gd rfl) rfl rfl rfl (fun z40 e40 => ?_)
    have q40 : w38_46_2 = z40 := (v38_46_2).trans e40.symm
    subst q40
    refine g_putI 46 (gd rfl) rfl rfl rfl rfl ?_
    have hI43 := inv_sF (q := 46) (j := 4) hIc38 rfl (in_w 0 1000 (inv_F hIc38 0 1000 rfl v38_46_2) rfl)
    refine g_aload_n 47 (gd rfl) rfl rfl ?_
    refine g_iconst 0 48 (gd rfl) rfl rfl ?_
    refine g_putI 51 (gd rfl) rfl rfl rfl rfl ?_
    have hI48 := inv_sF (q := 46) (j := 3) hI43 rfl (in_w 0 5 (in_c 0 rfl) rfl)
    refine g_aload_n 52 (gd rfl) rfl rfl ?_
    refine g_getI 55 (gd rfl) rfl rfl rfl (fun z52 e52 => ?_)
    have q52 : w38_46_2 = z52 := (sF_ne rfl (sF_ne rfl (v38_46_2))).trans e52.symm
    subst q52
    refine g_aload_n 56 (gd rfl) rfl rfl ?_
    refine g_getI 59 (gd rfl) rfl rfl rfl (fun z56 e56 => ?_)
    have q56 : u_46_1 = z56 := (sF_ne rfl (sF_ne rfl (fr_F e_46_1 hFc38 rfl))).trans e56.symm
    subst q56
    refine g_cmp_lt 62 63 (gd rfl) rfl rfl (fun c59 => ?_) (fun c59 => ?_)
    · skip
      have i59 := r_lt1 0 999 c59 (inv_F hIc38 0 1000 rfl v38_46_2) ro_46_1 rfl
      have i59a := r_lt2 1 1000 c59 (inv_F hIc38 0 1000 rfl v38_46_2) ro_46_1 rfl
      refine g_aload_n 64 (gd rfl) rfl rfl ?_
      refine g_getA (q2 := 47) 67 (gd rfl) rfl rfl rfl rfl ?_
      refine g_aload_n 68 (gd rfl) rfl rfl ?_
      refine g_getI 71 (gd rfl) rfl rfl rfl (fun z68 e68 => ?_)
      have q68 : w38_46_2 = z68 := (sF_ne rfl (sF_ne rfl (v38_46_2))).trans e68.symm
      subst q68
      refine g_caload 72 (gd rfl) rfl (n := 1000) rfl (in_ix i59 rfl) (fun z71 e71 => ?_)
      have i71 := inv_I hI48 (n := 1000) (t := 2) 0 65535 rfl (in_ix i59 rfl) rfl e71
      refine g_istore_n 73 (gd rfl) rfl (Nat.le_of_ble_eq_true rfl) ?_
      refine g_iload_n 74 (gd rfl) rfl rfl ?_
      refine g_if_eq 77 87 (gd rfl) rfl rfl (fun c74 => ?_) (fun c74 => ?_)
      · skip
        have i74 := z_eq 0 0 c74 h2 rfl
        refine g_iconst 0 88 (gd rfl) rfl rfl ?_
        refine g_istore 90 (gd rfl) rfl (Nat.le_of_ble_eq_true rfl) ?_
        have v90 : w38_46_2 = (sF (sF sc38 46 4 w38_46_2) 46 3 (Int32.ofInt 0)).2.2.1 46 2 := sF_ne rfl (sF_ne rfl (v38_46_2))
        have v90a : w38_46_2 = (sF (sF sc38 46 4 w38_46_2) 46 3 (Int32.ofInt 0)).2.2.1 46 4 := sF_ne rfl (sF_get)
        have n90 : (w38_46_2).toInt + 1 ≤ (u_46_1).toInt := by have a0 := oa6 i74 h1 i59a i59 ((in_c 0 rfl)) i71; omega
        have n90a : (w38_46_2).toInt = (w38_46_2).toInt := by have a0 := oa6 i74 h1 i59a i59 ((in_c 0 rfl)) i71; omega
        have n90b : (u_46_2).toInt ≤ (w38_46_2).toInt := by first | exact n38_1 | (have a0 := oa6 i74 h1 i59a i59 ((in_c 0 rfl)) i71; omega)
        exact gg_w (by first | exact Nat.le_of_ble_eq_true rfl | omega) (gg_f (gf_cons rfl (gf_cons rfl (gf_cons rfl (gf_cons rfl (gf_cons rfl gf_nil))))) (ct90 (sF (sF sc38 46 4 w38_46_2) 46 3 (Int32.ofInt 0)) z71 (Int32.ofInt 0) w38_46_2 w38_46_2 hI48 (fr_sF rfl (fr_sF rfl hFc38)) (in_w 0 65535 i71 rfl) (in_w 0 1 (in_c 0 rfl) rfl) v90 v90a n90 n90a n90b))
      · skip
        have i74 := z_ne 1 1 c74 h2 rfl
        refine g_iload_n 78 (gd rfl) rfl rfl ?_
        refine g_bipush 45 80 (gd rfl) rfl rfl ?_
        refine g_cmp_ne 83 87 (gd rfl) rfl rfl (fun c80 => ?_) (fun c80 => ?_)
        · skip
          refine g_iconst 0 88 (gd rfl) rfl rfl ?_
          refine g_istore 90 (gd rfl) rfl (Nat.le_of_ble_eq_true rfl) ?_
          have v90 : w38_46_2 = (sF (sF sc38 46 4 w38_46_2) 46 3 (Int32.ofInt 0)).2.2.1 46 2 := sF_ne rfl (sF_ne rfl (v38_46_2))
          have v90a : w38_46_2 = (sF (sF sc38 46 4 w38_46_2) 46 3 (Int32.ofInt 0)).2.2.1 46 4 := sF_ne rfl (sF_get)
          have n90 : (w38_46_2).toInt + 1 ≤ (u_46_1).toInt := by have a0 := oa6 i74 h1 i59a i59 ((in_c 0 rfl)) i71; omega
          have n90a : (w38_46_2).toInt = (w38_46_2).toInt := by have a0 := oa6 i74 h1 i59a i59 ((in_c 0 rfl)) i71; omega
          have n90b : (u_46_2).toInt ≤ (w38_46_2).toInt := by first | exact n38_1 | (have a0 := oa6 i74 h1 i59a i59 ((in_c 0 rfl)) i71; omega)
          exact gg_w (by first | exact Nat.le_of_ble_eq_true rfl | omega) (gg_f (gf_cons rfl (gf_cons rfl (gf_cons rfl (gf_cons rfl (gf_cons rfl gf_nil))))) (ct90 (sF (sF sc38 46 4 w38_46_2) 46 3 (Int32.ofInt 0)) z71 (Int32.ofInt 0) w38_46_2 w38_46_2 hI48 (fr_sF rfl (fr_sF rfl hFc38)) (in_w 0 65535 i71 rfl) (in_w 0 1 (in_c 0 rfl) rfl) v90 v90a n90 n90a n90b))
        · skip
          have i80 := r_eq1 45 45 c80 i71 (in_c 45 rfl) rfl
          refine g_iconst 1 84 (gd rfl) rfl rfl ?_
          refine g_goto 88 (gd rfl) rfl ?_
          refine g_istore 90 (gd rfl) rfl (Nat.le_of_ble_eq_true rfl) ?_
          have v90 : w38_46_2 = (sF (sF sc38 46 4 w38_46_2) 46 3 (Int32.ofInt 0)).2.2.1 46 2 := sF_ne rfl (sF_ne rfl (v38_46_2))
          have v90a : w38_46_2 = (sF (sF sc38 46 4 w38_46_2) 46 3 (Int32.ofInt 0)).2.2.1 46 4 := sF_ne rfl (sF_get)
          have n90 : (w38_46_2).toInt + 1 ≤ (u_46_1).toInt := by have a0 := oa7 i74 h1 i59a i59 ((in_c 1 rfl)) i80 ((in_c 0 rfl)); omega
          have n90a : (w38_46_2).toInt = (w38_46_2).toInt := by have a0 := oa7 i74 h1 i59a i59 ((in_c 1 rfl)) i80 ((in_c 0 rfl)); omega
          have n90b : (u_46_2).toInt ≤ (w38_46_2).toInt := by first | exact n38_1 | (have a0 := oa7 i74 h1 i59a i59 ((in_c 1 rfl)) i80 ((in_c 0 rfl)); omega)
          exact gg_w (by first | exact Nat.le_of_ble_eq_true rfl | omega) (gg_f (gf_cons rfl (gf_cons rfl (gf_cons rfl (gf_cons rfl (gf_cons rfl gf_nil))))) (ct90 (sF (sF sc38 46 4 w38_46_2) 46 3 (Int32.ofInt 0)) z71 (Int32.ofInt 1) w38_46_2 w38_46_2 hI48 (fr_sF rfl (fr_sF rfl hFc38)) (in_w 0 65535 i80 rfl) (in_w 0 1 (in_c 1 rfl) rfl) v90 v90a n90 n90a n90b))
    · skip
      have n62 : (x1).toInt = 6 → TK (sF (sF sc38 46 4 w38_46_2) 46 3 (Int32.ofInt 0)) := by intro h6; exact ⟨Or.inl (by rw [← (show (Int32.ofInt 0) = (sF (sF sc38 46 4 w38_46_2) 46 3 (Int32.ofInt 0)).2.2.1 46 3 from sF_get)]; decide), (fun h2 => absurd h2 (by rw [← (show (Int32.ofInt 0) = (sF (sF sc38 46 4 w38_46_2) 46 3 (Int32.ofInt 0)).2.2.1 46 3 from sF_get)]; decide))⟩
      have n62a : ((sF (sF sc38 46 4 w38_46_2) 46 3 (Int32.ofInt 0)).2.2.1 46 3).toInt = 1 → In ((sF (sF sc38 46 4 w38_46_2) 46 3 (Int32.ofInt 0)).2.2.1 46 5) 0 25 := by intro h1; rw [← (show (Int32.ofInt 0) = (sF (sF sc38 46 4 w38_46_2) 46 3 (Int32.ofInt 0)).2.2.1 46 3 from sF_get)] at h1; exact absurd h1 (by decide)
      have n62b : (w38_46_2).toInt ≤ (u_46_1).toInt := by first | exact n38_0 | (have a0 := oa5 h2 h1 ro_46_1 ((inv_F hIc38 0 1000 rfl v38_46_2)) ((in_c 0 rfl)); omega)
      have n62c : ((sF (sF sc38 46 4 w38_46_2) 46 3 (Int32.ofInt 0)).2.2.1 46 2).toInt ≤ ((sF (sF sc38 46 4 w38_46_2) 46 3 (Int32.ofInt 0)).2.2.1 46 1).toInt := by have b0 : w38_46_2 = (sF (sF sc38 46 4 w38_46_2) 46 3 (Int32.ofInt 0)).2.2.1 46 2 := sF_ne rfl (sF_ne rfl (v38_46_2)); have b1 : u_46_1 = (sF (sF sc38 46 4 w38_46_2) 46 3 (Int32.ofInt 0)).2.2.1 46 1 := sF_ne rfl (sF_ne rfl (fr_F e_46_1 hFc38 rfl)); rw [← b0, ← b1]; exact n62b
      have n62d : (w38_46_2).toInt ≤ (w38_46_2).toInt := by exact Int.le_refl _
      have n62e : ((sF (sF sc38 46 4 w38_46_2) 46 3 (Int32.ofInt 0)).2.2.1 46 4).toInt ≤ ((sF (sF sc38 46 4 w38_46_2) 46 3 (Int32.ofInt 0)).2.2.1 46 2).toInt := by have b0 : w38_46_2 = (sF (sF sc38 46 4 w38_46_2) 46 3 (Int32.ofInt 0)).2.2.1 46 4 := sF_ne rfl (sF_get); have b1 : w38_46_2 = (sF (sF sc38 46 4 w38_46_2) 46 3 (Int32.ofInt 0)).2.2.1 46 2 := sF_ne rfl (sF_ne rfl (v38_46_2)); rw [← b0, ← b1]; exact n62d
      have n62f : (u_46_2).toInt ≤ (w38_46_2).toInt := by first | exact n38_1 | (have a0 := oa5 h2 h1 ro_46_1 ((inv_F hIc38 0 1000 rfl v38_46_2)) ((in_c 0 rfl)); omega)
      have n62g : (s.2.2.1 46 2).toInt ≤ ((sF (sF sc38 46 4 w38_46_2) 46 3 (Int32.ofInt 0)).2.2.1 46 4).toInt := by have b0 : w38_46_2 = (sF (sF sc38 46 4 w38_46_2) 46 3 (Int32.ofInt 0)).2.2.1 46 4 := sF_ne rfl (sF_get); rw [← b0, ← e_46_2]; exact n62f
      exact g_return (gd rfl) rfl (hP _ _ ⟨(sF (sF sc38 46 4 w38_46_2) 46 3 (Int32.ofInt 0)), hI48, (fr_sF rfl (fr_sF rfl hFc38)), n62c, n62e, n62g, rfl, rfl, n62, n62a⟩)
  have ct0 : ∀ (k0 : Nat) (sc0 : GS) (w0_46_2 : Int32), Inv sc0 → Fr fm_171_46 s sc0 → (w0_46_2 = sc0.2.2.1 46 2) → ((w0_46_2).toInt ≤ (u_46_1).toInt) → ((u_46_2).toInt ≤ (w0_46_2).toInt) → (u_46_1).toInt - (w0_46_2).toInt < (k0 : Int) → GG Z (d - 1) 171 post (gx xp) (2704 + k0 * 900) 0 (fun j => xlook j [(0, .ref (A 46)), (1, .int x1), (2, .int x2)]) [] (WW Z A sc0 ++ ex) 0 0 := by
    intro k0
    induction k0 with
    | zero => intro sc0 w0_46_2 hIc0 hFc0 v0_46_2 n0_0 n0_1 mm0; exfalso; have a0 := oa4 h2 h1 ro_46_1 ((inv_F hIc0 0 1000 rfl v0_46_2)); omega
    | succ k0 ih0 =>
      intro sc0 w0_46_2 hIc0 hFc0 v0_46_2 n0_0 n0_1 mm0
      refine gg_w (M := 2704 + k0 * 900 + 900) gws ?_
      refine g_aload_n 1 (gd rfl) rfl rfl ?_
      refine g_getI 4 (gd rfl) rfl rfl rfl (fun z1 e1 => ?_)
      have q1 : w0_46_2 = z1 := (v0_46_2).trans e1.symm
      subst q1
      refine g_aload_n 5 (gd rfl) rfl rfl ?_
      refine g_getI 8 (gd rfl) rfl rfl rfl (fun z5 e5 => ?_)
      have q5 : u_46_1 = z5 := (fr_F e_46_1 hFc0 rfl).trans e5.symm
      subst q5
      refine g_cmp_ge 11 38 (gd rfl) rfl rfl (fun c8 => ?_) (fun c8 => ?_)
      · skip
        have n38 : (w0_46_2).toInt ≤ (u_46_1).toInt := by first | exact n0_0 | (have a0 := oa4 h2 h1 ro_46_1 ((inv_F hIc0 0 1000 rfl v0_46_2)); omega)
        have n38a : (u_46_2).toInt ≤ (w0_46_2).toInt := by first | exact n0_1 | (have a0 := oa4 h2 h1 ro_46_1 ((inv_F hIc0 0 1000 rfl v0_46_2)); omega)
        exact gg_w (by first | exact Nat.le_add_right _ _ | exact gw2 | exact gw3 | exact gwe rfl | exact gwf rfl | exact gwg rfl | exact gwh rfl | omega) (gg_f (gf_cons rfl (gf_cons rfl (gf_cons rfl gf_nil))) (ct38 sc0 w0_46_2 hIc0 hFc0 v0_46_2 n38 n38a))
      · skip
        have i8 := r_lt1 0 999 c8 (inv_F hIc0 0 1000 rfl v0_46_2) ro_46_1 rfl
        have i8a := r_lt2 1 1000 c8 (inv_F hIc0 0 1000 rfl v0_46_2) ro_46_1 rfl
        refine g_aload_n 12 (gd rfl) rfl rfl ?_
        refine g_getA (q2 := 47) 15 (gd rfl) rfl rfl rfl rfl ?_
        refine g_aload_n 16 (gd rfl) rfl rfl ?_
        refine g_getI 19 (gd rfl) rfl rfl rfl (fun z16 e16 => ?_)
        have q16 : w0_46_2 = z16 := (v0_46_2).trans e16.symm
        subst q16
        refine g_caload 20 (gd rfl) rfl (n := 1000) rfl (in_ix i8 rfl) (fun z19 e19 => ?_)
        have i19 := inv_I hIc0 (n := 1000) (t := 2) 0 65535 rfl (in_ix i8 rfl) rfl e19
        refine g_bipush 32 22 (gd rfl) rfl rfl ?_
        refine g_cmp_ne 25 38 (gd rfl) rfl rfl (fun c22 => ?_) (fun c22 => ?_)
        · skip
          have n38 : (w0_46_2).toInt ≤ (u_46_1).toInt := by first | exact n0_0 | (have a0 := oa4 h2 h1 i8a i8; omega)
          have n38a : (u_46_2).toInt ≤ (w0_46_2).toInt := by first | exact n0_1 | (have a0 := oa4 h2 h1 i8a i8; omega)
          exact gg_w (by first | exact Nat.le_add_right _ _ | exact gw2 | exact gw3 | exact gwe rfl | exact gwf rfl | exact gwg rfl | exact gwh rfl | omega) (gg_f (gf_cons rfl (gf_cons rfl (gf_cons rfl gf_nil))) (ct38 sc0 w0_46_2 hIc0 hFc0 v0_46_2 n38 n38a))
        · skip
          have i22 := r_eq1 32 32 c22 i19 (in_c 32 rfl) rfl
          refine g_aload_n 26 (gd rfl) rfl rfl ?_
          refine g_dup 27 (gd rfl) rfl rfl ?_
          refine g_getI 30 (gd rfl) rfl rfl rfl (fun z27 e27 => ?_)
          have q27 : w0_46_2 = z27 := (v0_46_2).trans e27.symm
          subst q27
          refine g_iconst 1 31 (gd rfl) rfl rfl ?_
          refine g_iadd 32 (gd rfl) rfl (fun z31 e31 => ?_)
          have i31 := in_add 1 1000 e31 i8 (in_c 1 rfl) rfl rfl
          refine g_putI 35 (gd rfl) rfl rfl rfl rfl ?_
          have hI32 := inv_sF (q := 46) (j := 2) hIc0 rfl (in_w 0 1000 i31 rfl)
          refine g_goto 0 (gd rfl) rfl ?_
          have v0 : z31 = (sF sc0 46 2 z31).2.2.1 46 2 := sF_get
          have n0 : (z31).toInt ≤ (u_46_1).toInt := by have a0 := oa5 h2 h1 i8a i8 i31; have a5 := t_add e31 i8 (in_c 1 rfl) rfl; have a6 := in_u ((in_c 1 rfl)); omega
          have n0a : (u_46_2).toInt ≤ (z31).toInt := by have a0 := oa5 h2 h1 i8a i8 i31; have a5 := t_add e31 i8 (in_c 1 rfl) rfl; have a6 := in_u ((in_c 1 rfl)); omega
          have m0 : (u_46_1).toInt - (z31).toInt < ((k0 : Nat) : Int) := by have a0 := oa5 h2 h1 i8a i8 i31; have a5 := t_add e31 i8 (in_c 1 rfl) rfl; have a6 := in_u ((in_c 1 rfl)); omega
          exact gg_w (by first | exact Nat.le_add_right _ _ | exact gw2 | exact gw3 | exact gwe rfl | exact gwf rfl | exact gwg rfl | exact gwh rfl | omega) (gg_f (gf_cons rfl (gf_cons rfl (gf_cons rfl gf_nil))) (ih0  (sF sc0 46 2 z31) z31 hI32 (fr_sF rfl hFc0) v0 n0 n0a m0))
  refine g_enter2 (k := 171) (N := 904504) (by first | exact dq1 hd rfl | exact dq0 hd rfl | exact dq2 hd rfl | exact dq3 hd rfl | omega) rfl (Nat.le_of_ble_eq_true rfl) ?_
  have n0 : (u_46_2).toInt ≤ (u_46_1).toInt := by have a0 := oa4 ((inv_F hI 0 1000 rfl e_46_1)) ((inv_F hI 0 1000 rfl e_46_2)) h2 h1; omega
  have n0a : (u_46_2).toInt ≤ (u_46_2).toInt := by exact Int.le_refl _
  have m0 : (u_46_1).toInt - (u_46_2).toInt < ((1001 : Nat) : Int) := by have a0 := oa4 ((inv_F hI 0 1000 rfl e_46_1)) ((inv_F hI 0 1000 rfl e_46_2)) h2 h1; omega
  exact gg_w (by first | exact Nat.le_of_ble_eq_true rfl | omega) (gg_f (gf_cons rfl (gf_cons rfl (gf_cons rfl gf_nil))) (ct0 1001 s u_46_2 hI fr_rf e_46_2 n0 n0a m0))
end
