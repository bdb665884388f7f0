/-! methods, by vc.py -/
def fm_173_46 : FM := ([], [], [(46, 2), (46, 3), (46, 5)], [])
/-- GraphHouse$Script.readNumber -/
theorem k_173_46 {Z : AmZ} {A : Nat → Nat} {s : GS} {ex : va_W} {d : Nat} {X : AmX} {x1 : Int32} {x2 : Int32} {u_46_2 : Int32} {u_46_1 : Int32} (hd : 3 ≤ d) (hI : Inv s) (h1 : In x1 0 1) (h2 : In x2 6 7) (e_46_2 : u_46_2 = s.2.2.1 46 2) (e_46_1 : u_46_1 = s.2.2.1 46 1) (p_0 : (u_46_2).toInt + (x1).toInt + 1 ≤ (u_46_1).toInt) (q_0 : 48 ≤ (s.1 47 ((s.2.2.1 46 2).toInt + (x1).toInt).toNat).toInt ∧ (s.1 47 ((s.2.2.1 46 2).toInt + (x1).toInt).toNat).toInt ≤ 57) : GC Z d 173 [.ref (A 46), .int x1, .int x2] (WW Z A s ++ ex) 0 0 (fun v u => ∃ t : GS, Inv t ∧ Fr fm_173_46 s t ∧ ((t.2.2.1 46 2).toInt ≤ (t.2.2.1 46 1).toInt) ∧ ((s.2.2.1 46 2).toInt + 1 ≤ (t.2.2.1 46 2).toInt) ∧ v = none ∧ u = WW Z A t ++ ex ∧ ((t.2.2.1 46 3).toInt ≠ 1) ∧ ((x2).toInt = 6 → (t.2.2.1 46 3).toInt = 2 → (t.2.2.1 46 5).toInt ≤ 999999)) X := by
  intro post xp hP hX
  have ro_46_1 := inv_F hI 0 1000 rfl e_46_1
  have ct26 : ∀ (k26 : Nat) (sc26 : GS) (y26_3 : Int32) (y26_4 : Int32) (w26_46_2 : Int32), Inv sc26 → Fr fm_173_46 s sc26 → (In y26_3 0 1000) → (In y26_4 0 9999999) → (w26_46_2 = sc26.2.2.1 46 2) → ((w26_46_2).toInt ≤ (u_46_1).toInt) → ((u_46_2).toInt + (x1).toInt ≤ (w26_46_2).toInt) → ((y26_3).toInt ≤ (w26_46_2).toInt) → (0 ≤ (y26_4).toInt ∧ ((y26_3).toInt ≤ (x2).toInt → (y26_4).toInt < (10 : Int) ^ ((y26_3).toInt).toNat) ∧ ((x2).toInt < (y26_3).toInt → (y26_4).toInt < (10 : Int) ^ ((x2).toInt).toNat)) → (u_46_1).toInt - (w26_46_2).toInt < (k26 : Int) → GG Z (d - 1) 173 post (gx xp) (1 + k26 * 900) 26 (fun j => xlook j [(0, .ref (A 46)), (1, .int x1), (2, .int x2), (3, .int y26_3), (4, .int y26_4)]) [] (WW Z A sc26 ++ ex) 0 0 := by
    intro k26
    induction k26 with
    | zero => intro sc26 y26_3 y26_4 w26_46_2 hIc26 hFc26 j26_3 j26_4 v26_46_2 n26_0 n26_1 n26_2 g26_0 mm26; exfalso; have a0 := h2; unfold In at a0; have a1 := h1; unfold In at a1; have a2 := ro_46_1; unfold In at a2; have a3 := (inv_F hIc26 0 1000 rfl v26_46_2); unfold In at a3; have a4 := j26_4; unfold In at a4; have a5 := j26_3; unfold In at a5; omega
    | succ k26 ih26 =>
      intro sc26 y26_3 y26_4 w26_46_2 hIc26 hFc26 j26_3 j26_4 v26_46_2 n26_0 n26_1 n26_2 g26_0 mm26
      refine gg_w (M := 1 + k26 * 900 + 900) (by omega) ?_
      refine g_aload_n 27 (gd rfl) rfl rfl ?_
      refine g_getI 30 (gd rfl) rfl rfl rfl (fun z27 e27 => ?_)
      have q27 : w26_46_2 = z27 := (v26_46_2).trans e27.symm
      subst q27
      refine g_aload_n 31 (gd rfl) rfl rfl ?_
      refine g_getI 34 (gd rfl) rfl rfl rfl (fun z31 e31 => ?_)
      have q31 : u_46_1 = z31 := (fr_F e_46_1 hFc26 rfl).trans e31.symm
      subst q31
      refine g_cmp_ge 37 89 (gd rfl) rfl rfl (fun c34 => ?_) (fun c34 => ?_)
      · skip
        have hq89 : (u_46_2).toInt + 1 ≤ (w26_46_2).toInt := (by have a0 := h2; unfold In at a0; have a1 := h1; unfold In at a1; have a2 := ro_46_1; unfold In at a2; have a3 := (inv_F hIc26 0 1000 rfl v26_46_2); unfold In at a3; have a4 := j26_4; unfold In at a4; have a5 := j26_3; unfold In at a5; omega)
        refine g_aload_n 90 (gd rfl) rfl rfl ?_
        refine g_iload_n 91 (gd rfl) rfl rfl ?_
        refine g_if_eq 94 100 (gd rfl) rfl rfl (fun c91 => ?_) (fun c91 => ?_)
        · skip
          have i91 := z_eq 0 0 c91 h1 rfl
          refine g_iload 102 (gd rfl) rfl rfl ?_
          refine g_putI 105 (gd rfl) rfl rfl rfl rfl ?_
          have hI102 := inv_sF (q := 46) (j := 5) hIc26 rfl (in_w (-2147483648) 2147483647 j26_4 rfl)
          refine g_aload_n 106 (gd rfl) rfl rfl ?_
          refine g_iload_n 107 (gd rfl) rfl rfl ?_
          refine g_iload_n 108 (gd rfl) rfl rfl ?_
          refine g_cmp_le 111 115 (gd rfl) rfl rfl (fun c108 => ?_) (fun c108 => ?_)
          · skip
            have i108 := r_le1 0 7 c108 j26_3 h2 rfl
            refine g_iconst 2 116 (gd rfl) rfl rfl ?_
            refine g_putI 119 (gd rfl) rfl rfl rfl rfl ?_
            have hI116 := inv_sF (q := 46) (j := 3) hI102 rfl (in_w 0 5 (in_c 2 rfl) rfl)
            have n119 : ((sF (sF sc26 46 5 y26_4) 46 3 (Int32.ofInt 2)).2.2.1 46 3).toInt ≠ 1 := by rw [← (show (Int32.ofInt 2) = (sF (sF sc26 46 5 y26_4) 46 3 (Int32.ofInt 2)).2.2.1 46 3 from sF_get)]; decide
            have n119a : (x2).toInt = 6 → ((sF (sF sc26 46 5 y26_4) 46 3 (Int32.ofInt 2)).2.2.1 46 3).toInt = 2 → ((sF (sF sc26 46 5 y26_4) 46 3 (Int32.ofInt 2)).2.2.1 46 5).toInt ≤ 999999 := by intro h6 h2; rw [← (show (Int32.ofInt 2) = (sF (sF sc26 46 5 y26_4) 46 3 (Int32.ofInt 2)).2.2.1 46 3 from sF_get)] at h2; rw [← (show y26_4 = (sF (sF sc26 46 5 y26_4) 46 3 (Int32.ofInt 2)).2.2.1 46 5 from sF_ne rfl (sF_get))]; first | (exfalso; revert h2; decide) | exact dg_6 (by have a0 := h2; unfold In at a0; have a1 := i91; unfold In at a1; have a2 := ro_46_1; unfold In at a2; have a3 := (inv_F hIc26 0 1000 rfl v26_46_2); unfold In at a3; have a4 := j26_4; unfold In at a4; have a5 := i108; unfold In at a5; have a6 := (in_c 2 rfl); unfold In at a6; omega) (by have a0 := h2; unfold In at a0; have a1 := i91; unfold In at a1; have a2 := ro_46_1; unfold In at a2; have a3 := (inv_F hIc26 0 1000 rfl v26_46_2); unfold In at a3; have a4 := j26_4; unfold In at a4; have a5 := i108; unfold In at a5; have a6 := (in_c 2 rfl); unfold In at a6; omega) (g26_0.2.1 (by have a0 := h2; unfold In at a0; have a1 := i91; unfold In at a1; have a2 := ro_46_1; unfold In at a2; have a3 := (inv_F hIc26 0 1000 rfl v26_46_2); unfold In at a3; have a4 := j26_4; unfold In at a4; have a5 := i108; unfold In at a5; have a6 := (in_c 2 rfl); unfold In at a6; omega))
            have n119b : (w26_46_2).toInt ≤ (u_46_1).toInt := by have a0 := h2; unfold In at a0; have a1 := i91; unfold In at a1; have a2 := ro_46_1; unfold In at a2; have a3 := (inv_F hIc26 0 1000 rfl v26_46_2); unfold In at a3; have a4 := j26_4; unfold In at a4; have a5 := i108; unfold In at a5; have a6 := (in_c 2 rfl); unfold In at a6; omega
            have n119c : ((sF (sF sc26 46 5 y26_4) 46 3 (Int32.ofInt 2)).2.2.1 46 2).toInt ≤ ((sF (sF sc26 46 5 y26_4) 46 3 (Int32.ofInt 2)).2.2.1 46 1).toInt := by have b0 : w26_46_2 = (sF (sF sc26 46 5 y26_4) 46 3 (Int32.ofInt 2)).2.2.1 46 2 := sF_ne rfl (sF_ne rfl (v26_46_2)); have b1 : u_46_1 = (sF (sF sc26 46 5 y26_4) 46 3 (Int32.ofInt 2)).2.2.1 46 1 := sF_ne rfl (sF_ne rfl (fr_F e_46_1 hFc26 rfl)); rw [← b0, ← b1]; exact n119b
            have n119d : (u_46_2).toInt + 1 ≤ (w26_46_2).toInt := by have a0 := h2; unfold In at a0; have a1 := i91; unfold In at a1; have a2 := ro_46_1; unfold In at a2; have a3 := (inv_F hIc26 0 1000 rfl v26_46_2); unfold In at a3; have a4 := j26_4; unfold In at a4; have a5 := i108; unfold In at a5; have a6 := (in_c 2 rfl); unfold In at a6; omega
            have n119e : (s.2.2.1 46 2).toInt + 1 ≤ ((sF (sF sc26 46 5 y26_4) 46 3 (Int32.ofInt 2)).2.2.1 46 2).toInt := by have b0 : w26_46_2 = (sF (sF sc26 46 5 y26_4) 46 3 (Int32.ofInt 2)).2.2.1 46 2 := sF_ne rfl (sF_ne rfl (v26_46_2)); first | (rw [← b0, ← e_46_2]; exact n119d) | (rw [← b0]; exact n119d)
            exact g_return (gd rfl) rfl (hP _ _ ⟨(sF (sF sc26 46 5 y26_4) 46 3 (Int32.ofInt 2)), hI116, (fr_sF rfl (fr_sF rfl hFc26)), n119c, n119e, rfl, rfl, n119, n119a⟩)
          · skip
            have i108 := r_lt2 7 1000 c108 h2 j26_3 rfl
            refine g_iconst 5 112 (gd rfl) rfl rfl ?_
            refine g_goto 116 (gd rfl) rfl ?_
            refine g_putI 119 (gd rfl) rfl rfl rfl rfl ?_
            have hI116 := inv_sF (q := 46) (j := 3) hI102 rfl (in_w 0 5 (in_c 5 rfl) rfl)
            have n119 : ((sF (sF sc26 46 5 y26_4) 46 3 (Int32.ofInt 5)).2.2.1 46 3).toInt ≠ 1 := by rw [← (show (Int32.ofInt 5) = (sF (sF sc26 46 5 y26_4) 46 3 (Int32.ofInt 5)).2.2.1 46 3 from sF_get)]; decide
            have n119a : (x2).toInt = 6 → ((sF (sF sc26 46 5 y26_4) 46 3 (Int32.ofInt 5)).2.2.1 46 3).toInt = 2 → ((sF (sF sc26 46 5 y26_4) 46 3 (Int32.ofInt 5)).2.2.1 46 5).toInt ≤ 999999 := by intro h6 h2; rw [← (show (Int32.ofInt 5) = (sF (sF sc26 46 5 y26_4) 46 3 (Int32.ofInt 5)).2.2.1 46 3 from sF_get)] at h2; rw [← (show y26_4 = (sF (sF sc26 46 5 y26_4) 46 3 (Int32.ofInt 5)).2.2.1 46 5 from sF_ne rfl (sF_get))]; first | (exfalso; revert h2; decide) | exact dg_6 (by have a0 := h2; unfold In at a0; have a1 := i91; unfold In at a1; have a2 := ro_46_1; unfold In at a2; have a3 := (inv_F hIc26 0 1000 rfl v26_46_2); unfold In at a3; have a4 := j26_4; unfold In at a4; have a5 := i108; unfold In at a5; have a6 := (in_c 5 rfl); unfold In at a6; omega) (by have a0 := h2; unfold In at a0; have a1 := i91; unfold In at a1; have a2 := ro_46_1; unfold In at a2; have a3 := (inv_F hIc26 0 1000 rfl v26_46_2); unfold In at a3; have a4 := j26_4; unfold In at a4; have a5 := i108; unfold In at a5; have a6 := (in_c 5 rfl); unfold In at a6; omega) (g26_0.2.1 (by have a0 := h2; unfold In at a0; have a1 := i91; unfold In at a1; have a2 := ro_46_1; unfold In at a2; have a3 := (inv_F hIc26 0 1000 rfl v26_46_2); unfold In at a3; have a4 := j26_4; unfold In at a4; have a5 := i108; unfold In at a5; have a6 := (in_c 5 rfl); unfold In at a6; omega))
            have n119b : (w26_46_2).toInt ≤ (u_46_1).toInt := by have a0 := h2; unfold In at a0; have a1 := i91; unfold In at a1; have a2 := ro_46_1; unfold In at a2; have a3 := (inv_F hIc26 0 1000 rfl v26_46_2); unfold In at a3; have a4 := j26_4; unfold In at a4; have a5 := i108; unfold In at a5; have a6 := (in_c 5 rfl); unfold In at a6; omega
            have n119c : ((sF (sF sc26 46 5 y26_4) 46 3 (Int32.ofInt 5)).2.2.1 46 2).toInt ≤ ((sF (sF sc26 46 5 y26_4) 46 3 (Int32.ofInt 5)).2.2.1 46 1).toInt := by have b0 : w26_46_2 = (sF (sF sc26 46 5 y26_4) 46 3 (Int32.ofInt 5)).2.2.1 46 2 := sF_ne rfl (sF_ne rfl (v26_46_2)); have b1 : u_46_1 = (sF (sF sc26 46 5 y26_4) 46 3 (Int32.ofInt 5)).2.2.1 46 1 := sF_ne rfl (sF_ne rfl (fr_F e_46_1 hFc26 rfl)); rw [← b0, ← b1]; exact n119b
            have n119d : (u_46_2).toInt + 1 ≤ (w26_46_2).toInt := by have a0 := h2; unfold In at a0; have a1 := i91; unfold In at a1; have a2 := ro_46_1; unfold In at a2; have a3 := (inv_F hIc26 0 1000 rfl v26_46_2); unfold In at a3; have a4 := j26_4; unfold In at a4; have a5 := i108; unfold In at a5; have a6 := (in_c 5 rfl); unfold In at a6; omega
            have n119e : (s.2.2.1 46 2).toInt + 1 ≤ ((sF (sF sc26 46 5 y26_4) 46 3 (Int32.ofInt 5)).2.2.1 46 2).toInt := by have b0 : w26_46_2 = (sF (sF sc26 46 5 y26_4) 46 3 (Int32.ofInt 5)).2.2.1 46 2 := sF_ne rfl (sF_ne rfl (v26_46_2)); first | (rw [← b0, ← e_46_2]; exact n119d) | (rw [← b0]; exact n119d)
            exact g_return (gd rfl) rfl (hP _ _ ⟨(sF (sF sc26 46 5 y26_4) 46 3 (Int32.ofInt 5)), hI116, (fr_sF rfl (fr_sF rfl hFc26)), n119c, n119e, rfl, rfl, n119, n119a⟩)
        · skip
          have i91 := z_ne 1 1 c91 h1 rfl
          refine g_iload 96 (gd rfl) rfl rfl ?_
          refine g_ineg 97 (gd rfl) rfl (fun z96 e96 => ?_)
          have i96 := in_neg (-9999999) 0 e96 j26_4 rfl
          refine g_goto 102 (gd rfl) rfl ?_
          refine g_putI 105 (gd rfl) rfl rfl rfl rfl ?_
          have hI102 := inv_sF (q := 46) (j := 5) hIc26 rfl (in_w (-2147483648) 2147483647 i96 rfl)
          refine g_aload_n 106 (gd rfl) rfl rfl ?_
          refine g_iload_n 107 (gd rfl) rfl rfl ?_
          refine g_iload_n 108 (gd rfl) rfl rfl ?_
          refine g_cmp_le 111 115 (gd rfl) rfl rfl (fun c108 => ?_) (fun c108 => ?_)
          · skip
            have i108 := r_le1 0 7 c108 j26_3 h2 rfl
            refine g_iconst 2 116 (gd rfl) rfl rfl ?_
            refine g_putI 119 (gd rfl) rfl rfl rfl rfl ?_
            have hI116 := inv_sF (q := 46) (j := 3) hI102 rfl (in_w 0 5 (in_c 2 rfl) rfl)
            have n119 : ((sF (sF sc26 46 5 z96) 46 3 (Int32.ofInt 2)).2.2.1 46 3).toInt ≠ 1 := by rw [← (show (Int32.ofInt 2) = (sF (sF sc26 46 5 z96) 46 3 (Int32.ofInt 2)).2.2.1 46 3 from sF_get)]; decide
            have n119a : (x2).toInt = 6 → ((sF (sF sc26 46 5 z96) 46 3 (Int32.ofInt 2)).2.2.1 46 3).toInt = 2 → ((sF (sF sc26 46 5 z96) 46 3 (Int32.ofInt 2)).2.2.1 46 5).toInt ≤ 999999 := by intro h6 h2; rw [← (show (Int32.ofInt 2) = (sF (sF sc26 46 5 z96) 46 3 (Int32.ofInt 2)).2.2.1 46 3 from sF_get)] at h2; rw [← (show z96 = (sF (sF sc26 46 5 z96) 46 3 (Int32.ofInt 2)).2.2.1 46 5 from sF_ne rfl (sF_get))]; first | (exfalso; revert h2; decide) | (have a0 := h2; unfold In at a0; have a1 := i91; unfold In at a1; have a2 := ro_46_1; unfold In at a2; have a3 := (inv_F hIc26 0 1000 rfl v26_46_2); unfold In at a3; have a4 := j26_4; unfold In at a4; have a5 := i108; unfold In at a5; have a6 := (in_c 2 rfl); unfold In at a6; have a7 := i96; unfold In at a7; omega)
            have n119b : (w26_46_2).toInt ≤ (u_46_1).toInt := by have a0 := h2; unfold In at a0; have a1 := i91; unfold In at a1; have a2 := ro_46_1; unfold In at a2; have a3 := (inv_F hIc26 0 1000 rfl v26_46_2); unfold In at a3; have a4 := j26_4; unfold In at a4; have a5 := i108; unfold In at a5; have a6 := (in_c 2 rfl); unfold In at a6; have a7 := i96; unfold In at a7; omega
            have n119c : ((sF (sF sc26 46 5 z96) 46 3 (Int32.ofInt 2)).2.2.1 46 2).toInt ≤ ((sF (sF sc26 46 5 z96) 46 3 (Int32.ofInt 2)).2.2.1 46 1).toInt := by have b0 : w26_46_2 = (sF (sF sc26 46 5 z96) 46 3 (Int32.ofInt 2)).2.2.1 46 2 := sF_ne rfl (sF_ne rfl (v26_46_2)); have b1 : u_46_1 = (sF (sF sc26 46 5 z96) 46 3 (Int32.ofInt 2)).2.2.1 46 1 := sF_ne rfl (sF_ne rfl (fr_F e_46_1 hFc26 rfl)); rw [← b0, ← b1]; exact n119b
            have n119d : (u_46_2).toInt + 1 ≤ (w26_46_2).toInt := by have a0 := h2; unfold In at a0; have a1 := i91; unfold In at a1; have a2 := ro_46_1; unfold In at a2; have a3 := (inv_F hIc26 0 1000 rfl v26_46_2); unfold In at a3; have a4 := j26_4; unfold In at a4; have a5 := i108; unfold In at a5; have a6 := (in_c 2 rfl); unfold In at a6; have a7 := i96; unfold In at a7; omega
            have n119e : (s.2.2.1 46 2).toInt + 1 ≤ ((sF (sF sc26 46 5 z96) 46 3 (Int32.ofInt 2)).2.2.1 46 2).toInt := by have b0 : w26_46_2 = (sF (sF sc26 46 5 z96) 46 3 (Int32.ofInt 2)).2.2.1 46 2 := sF_ne rfl (sF_ne rfl (v26_46_2)); first | (rw [← b0, ← e_46_2]; exact n119d) | (rw [← b0]; exact n119d)
            exact g_return (gd rfl) rfl (hP _ _ ⟨(sF (sF sc26 46 5 z96) 46 3 (Int32.ofInt 2)), hI116, (fr_sF rfl (fr_sF rfl hFc26)), n119c, n119e, rfl, rfl, n119, n119a⟩)
          · skip
            have i108 := r_lt2 7 1000 c108 h2 j26_3 rfl
            refine g_iconst 5 112 (gd rfl) rfl rfl ?_
            refine g_goto 116 (gd rfl) rfl ?_
            refine g_putI 119 (gd rfl) rfl rfl rfl rfl ?_
            have hI116 := inv_sF (q := 46) (j := 3) hI102 rfl (in_w 0 5 (in_c 5 rfl) rfl)
            have n119 : ((sF (sF sc26 46 5 z96) 46 3 (Int32.ofInt 5)).2.2.1 46 3).toInt ≠ 1 := by rw [← (show (Int32.ofInt 5) = (sF (sF sc26 46 5 z96) 46 3 (Int32.ofInt 5)).2.2.1 46 3 from sF_get)]; decide
            have n119a : (x2).toInt = 6 → ((sF (sF sc26 46 5 z96) 46 3 (Int32.ofInt 5)).2.2.1 46 3).toInt = 2 → ((sF (sF sc26 46 5 z96) 46 3 (Int32.ofInt 5)).2.2.1 46 5).toInt ≤ 999999 := by intro h6 h2; rw [← (show (Int32.ofInt 5) = (sF (sF sc26 46 5 z96) 46 3 (Int32.ofInt 5)).2.2.1 46 3 from sF_get)] at h2; rw [← (show z96 = (sF (sF sc26 46 5 z96) 46 3 (Int32.ofInt 5)).2.2.1 46 5 from sF_ne rfl (sF_get))]; first | (exfalso; revert h2; decide) | (have a0 := h2; unfold In at a0; have a1 := i91; unfold In at a1; have a2 := ro_46_1; unfold In at a2; have a3 := (inv_F hIc26 0 1000 rfl v26_46_2); unfold In at a3; have a4 := j26_4; unfold In at a4; have a5 := i108; unfold In at a5; have a6 := (in_c 5 rfl); unfold In at a6; have a7 := i96; unfold In at a7; omega)
            have n119b : (w26_46_2).toInt ≤ (u_46_1).toInt := by have a0 := h2; unfold In at a0; have a1 := i91; unfold In at a1; have a2 := ro_46_1; unfold In at a2; have a3 := (inv_F hIc26 0 1000 rfl v26_46_2); unfold In at a3; have a4 := j26_4; unfold In at a4; have a5 := i108; unfold In at a5; have a6 := (in_c 5 rfl); unfold In at a6; have a7 := i96; unfold In at a7; omega
            have n119c : ((sF (sF sc26 46 5 z96) 46 3 (Int32.ofInt 5)).2.2.1 46 2).toInt ≤ ((sF (sF sc26 46 5 z96) 46 3 (Int32.ofInt 5)).2.2.1 46 1).toInt := by have b0 : w26_46_2 = (sF (sF sc26 46 5 z96) 46 3 (Int32.ofInt 5)).2.2.1 46 2 := sF_ne rfl (sF_ne rfl (v26_46_2)); have b1 : u_46_1 = (sF (sF sc26 46 5 z96) 46 3 (Int32.ofInt 5)).2.2.1 46 1 := sF_ne rfl (sF_ne rfl (fr_F e_46_1 hFc26 rfl)); rw [← b0, ← b1]; exact n119b
            have n119d : (u_46_2).toInt + 1 ≤ (w26_46_2).toInt := by have a0 := h2; unfold In at a0; have a1 := i91; unfold In at a1; have a2 := ro_46_1; unfold In at a2; have a3 := (inv_F hIc26 0 1000 rfl v26_46_2); unfold In at a3; have a4 := j26_4; unfold In at a4; have a5 := i108; unfold In at a5; have a6 := (in_c 5 rfl); unfold In at a6; have a7 := i96; unfold In at a7; omega
            have n119e : (s.2.2.1 46 2).toInt + 1 ≤ ((sF (sF sc26 46 5 z96) 46 3 (Int32.ofInt 5)).2.2.1 46 2).toInt := by have b0 : w26_46_2 = (sF (sF sc26 46 5 z96) 46 3 (Int32.ofInt 5)).2.2.1 46 2 := sF_ne rfl (sF_ne rfl (v26_46_2)); first | (rw [← b0, ← e_46_2]; exact n119d) | (rw [← b0]; exact n119d)
            exact g_return (gd rfl) rfl (hP _ _ ⟨(sF (sF sc26 46 5 z96) 46 3 (Int32.ofInt 5)), hI116, (fr_sF rfl (fr_sF rfl hFc26)), n119c, n119e, rfl, rfl, n119, n119a⟩)
      · skip
        have i34 := r_lt1 0 999 c34 (inv_F hIc26 0 1000 rfl v26_46_2) ro_46_1 rfl
        have i34a := r_lt2 1 1000 c34 (inv_F hIc26 0 1000 rfl v26_46_2) ro_46_1 rfl
        refine g_aload_n 38 (gd rfl) rfl rfl ?_
        refine g_aload_n 39 (gd rfl) rfl rfl ?_
        refine g_getI 42 (gd rfl) rfl rfl rfl (fun z39 e39 => ?_)
        have q39 : w26_46_2 = z39 := (v26_46_2).trans e39.symm
        subst q39
        refine g_callv (X := _) (As := [.int w26_46_2]) (r := []) (b := A 46) (q := 46) 45 (gd rfl) rfl rfl rfl rfl rfl (ww_o rfl) (Nat.le_of_ble_eq_true rfl) (mc := 0) (ms := 0) (Nat.zero_le _) (Nat.zero_le _) (P := fun v u => _) ?_ (fun e u h => h) (fun v u h => h)
        intro po42 xx42 hp42 hx42
        refine g_enter2 (k := 172) (N := 300) (by omega) rfl (Nat.le_of_ble_eq_true rfl) ?_
        refine g_iload_n 1 (gd rfl) rfl rfl ?_
        refine g_aload_n 2 (gd rfl) rfl rfl ?_
        refine g_getI 5 (gd rfl) rfl rfl rfl (fun z42x2 e42x2 => ?_)
        have q42x2 : u_46_1 = z42x2 := (fr_F e_46_1 hFc26 rfl).trans e42x2.symm
        subst q42x2
        refine g_cmp_ge 8 34 (gd rfl) rfl rfl (fun c42x5 => ?_) (fun c42x5 => ?_)
        · skip
          have i42x5 := r_le1 1 999 c42x5 i34a i34 rfl
          have i42x5a := r_le2 1 999 c42x5 i34a i34 rfl
          refine g_iconst 0 35 (gd rfl) rfl rfl ?_
          refine g_ireturn (gd rfl) rfl (nb01 (in_w 0 1 (in_c 0 rfl) rfl)) (hp42 _ _ ?_)
          show GG _ _ _ _ _ _ _ _ [.int (Int32.ofInt 0)] _ _ _
          refine g_if_eq 48 89 (gd rfl) rfl rfl (fun c45 => ?_) (fun c45 => ?_)
          · skip
            have hq89 : (u_46_2).toInt + 1 ≤ (w26_46_2).toInt := (by have a0 := h2; unfold In at a0; have a1 := h1; unfold In at a1; have a2 := i42x5; unfold In at a2; have a3 := i42x5a; unfold In at a3; have a4 := j26_4; unfold In at a4; have a5 := j26_3; unfold In at a5; omega)
            refine g_aload_n 90 (gd rfl) rfl rfl ?_
            refine g_iload_n 91 (gd rfl) rfl rfl ?_
            refine g_if_eq 94 100 (gd rfl) rfl rfl (fun c91 => ?_) (fun c91 => ?_)
            · skip
              have i91 := z_eq 0 0 c91 h1 rfl
              refine g_iload 102 (gd rfl) rfl rfl ?_
              refine g_putI 105 (gd rfl) rfl rfl rfl rfl ?_
              have hI102 := inv_sF (q := 46) (j := 5) hIc26 rfl (in_w (-2147483648) 2147483647 j26_4 rfl)
              refine g_aload_n 106 (gd rfl) rfl rfl ?_
              refine g_iload_n 107 (gd rfl) rfl rfl ?_
              refine g_iload_n 108 (gd rfl) rfl rfl ?_
              refine g_cmp_le 111 115 (gd rfl) rfl rfl (fun c108 => ?_) (fun c108 => ?_)
              · skip
                have i108 := r_le1 0 7 c108 j26_3 h2 rfl
                refine g_iconst 2 116 (gd rfl) rfl rfl ?_
                refine g_putI 119 (gd rfl) rfl rfl rfl rfl ?_
                have hI116 := inv_sF (q := 46) (j := 3) hI102 rfl (in_w 0 5 (in_c 2 rfl) rfl)
                have n119 : ((sF (sF sc26 46 5 y26_4) 46 3 (Int32.ofInt 2)).2.2.1 46 3).toInt ≠ 1 := by rw [← (show (Int32.ofInt 2) = (sF (sF sc26 46 5 y26_4) 46 3 (Int32.ofInt 2)).2.2.1 46 3 from sF_get)]; decide
                have n119a : (x2).toInt = 6 → ((sF (sF sc26 46 5 y26_4) 46 3 (Int32.ofInt 2)).2.2.1 46 3).toInt = 2 → ((sF (sF sc26 46 5 y26_4) 46 3 (Int32.ofInt 2)).2.2.1 46 5).toInt ≤ 999999 := by intro h6 h2; rw [← (show (Int32.ofInt 2) = (sF (sF sc26 46 5 y26_4) 46 3 (Int32.ofInt 2)).2.2.1 46 3 from sF_get)] at h2; rw [← (show y26_4 = (sF (sF sc26 46 5 y26_4) 46 3 (Int32.ofInt 2)).2.2.1 46 5 from sF_ne rfl (sF_get))]; first | (exfalso; revert h2; decide) | exact dg_6 (by have a0 := h2; unfold In at a0; have a1 := i91; unfold In at a1; have a2 := i42x5; unfold In at a2; have a3 := i42x5a; unfold In at a3; have a4 := j26_4; unfold In at a4; have a5 := i108; unfold In at a5; have a6 := (in_c 2 rfl); unfold In at a6; omega) (by have a0 := h2; unfold In at a0; have a1 := i91; unfold In at a1; have a2 := i42x5; unfold In at a2; have a3 := i42x5a; unfold In at a3; have a4 := j26_4; unfold In at a4; have a5 := i108; unfold In at a5; have a6 := (in_c 2 rfl); unfold In at a6; omega) (g26_0.2.1 (by have a0 := h2; unfold In at a0; have a1 := i91; unfold In at a1; have a2 := i42x5; unfold In at a2; have a3 := i42x5a; unfold In at a3; have a4 := j26_4; unfold In at a4; have a5 := i108; unfold In at a5; have a6 := (in_c 2 rfl); unfold In at a6; omega))
                have n119b : (w26_46_2).toInt ≤ (u_46_1).toInt := by have a0 := h2; unfold In at a0; have a1 := i91; unfold In at a1; have a2 := i42x5; unfold In at a2; have a3 := i42x5a; unfold In at a3; have a4 := j26_4; unfold In at a4; have a5 := i108; unfold In at a5; have a6 := (in_c 2 rfl); unfold In at a6; omega
                have n119c : ((sF (sF sc26 46 5 y26_4) 46 3 (Int32.ofInt 2)).2.2.1 46 2).toInt ≤ ((sF (sF sc26 46 5 y26_4) 46 3 (Int32.ofInt 2)).2.2.1 46 1).toInt := by have b0 : w26_46_2 = (sF (sF sc26 46 5 y26_4) 46 3 (Int32.ofInt 2)).2.2.1 46 2 := sF_ne rfl (sF_ne rfl (v26_46_2)); have b1 : u_46_1 = (sF (sF sc26 46 5 y26_4) 46 3 (Int32.ofInt 2)).2.2.1 46 1 := sF_ne rfl (sF_ne rfl (fr_F e_46_1 hFc26 rfl)); rw [← b0, ← b1]; exact n119b
                have n119d : (u_46_2).toInt + 1 ≤ (w26_46_2).toInt := by have a0 := h2; unfold In at a0; have a1 := i91; unfold In at a1; have a2 := i42x5; unfold In at a2; have a3 := i42x5a; unfold In at a3; have a4 := j26_4; unfold In at a4; have a5 := i108; unfold In at a5; have a6 := (in_c 2 rfl); unfold In at a6; omega
                have n119e : (s.2.2.1 46 2).toInt + 1 ≤ ((sF (sF sc26 46 5 y26_4) 46 3 (Int32.ofInt 2)).2.2.1 46 2).toInt := by have b0 : w26_46_2 = (sF (sF sc26 46 5 y26_4) 46 3 (Int32.ofInt 2)).2.2.1 46 2 := sF_ne rfl (sF_ne rfl (v26_46_2)); first | (rw [← b0, ← e_46_2]; exact n119d) | (rw [← b0]; exact n119d)
                exact g_return (gd rfl) rfl (hP _ _ ⟨(sF (sF sc26 46 5 y26_4) 46 3 (Int32.ofInt 2)), hI116, (fr_sF rfl (fr_sF rfl hFc26)), n119c, n119e, rfl, rfl, n119, n119a⟩)
              · skip
                have i108 := r_lt2 7 1000 c108 h2 j26_3 rfl
                refine g_iconst 5 112 (gd rfl) rfl rfl ?_
                refine g_goto 116 (gd rfl) rfl ?_
                refine g_putI 119 (gd rfl) rfl rfl rfl rfl ?_
                have hI116 := inv_sF (q := 46) (j := 3) hI102 rfl (in_w 0 5 (in_c 5 rfl) rfl)
                have n119 : ((sF (sF sc26 46 5 y26_4) 46 3 (Int32.ofInt 5)).2.2.1 46 3).toInt ≠ 1 := by rw [← (show (Int32.ofInt 5) = (sF (sF sc26 46 5 y26_4) 46 3 (Int32.ofInt 5)).2.2.1 46 3 from sF_get)]; decide
                have n119a : (x2).toInt = 6 → ((sF (sF sc26 46 5 y26_4) 46 3 (Int32.ofInt 5)).2.2.1 46 3).toInt = 2 → ((sF (sF sc26 46 5 y26_4) 46 3 (Int32.ofInt 5)).2.2.1 46 5).toInt ≤ 999999 := by intro h6 h2; rw [← (show (Int32.ofInt 5) = (sF (sF sc26 46 5 y26_4) 46 3 (Int32.ofInt 5)).2.2.1 46 3 from sF_get)] at h2; rw [← (show y26_4 = (sF (sF sc26 46 5 y26_4) 46 3 (Int32.ofInt 5)).2.2.1 46 5 from sF_ne rfl (sF_get))]; first | (exfalso; revert h2; decide) | exact dg_6 (by have a0 := h2; unfold In at a0; have a1 := i91; unfold In at a1; have a2 := i42x5; unfold In at a2; have a3 := i42x5a; unfold In at a3; have a4 := j26_4; unfold In at a4; have a5 := i108; unfold In at a5; have a6 := (in_c 5 rfl); unfold In at a6; omega) (by have a0 := h2; unfold In at a0; have a1 := i91; unfold In at a1; have a2 := i42x5; unfold In at a2; have a3 := i42x5a; unfold In at a3; have a4 := j26_4; unfold In at a4; have a5 := i108; unfold In at a5; have a6 := (in_c 5 rfl); unfold In at a6; omega) (g26_0.2.1 (by have a0 := h2; unfold In at a0; have a1 := i91; unfold In at a1; have a2 := i42x5; unfold In at a2; have a3 := i42x5a; unfold In at a3; have a4 := j26_4; unfold In at a4; have a5 := i108; unfold In at a5; have a6 := (in_c 5 rfl); unfold In at a6; omega))
                have n119b : (w26_46_2).toInt ≤ (u_46_1).toInt := by have a0 := h2; unfold In at a0; have a1 := i91; unfold In at a1; have a2 := i42x5; unfold In at a2; have a3 := i42x5a; unfold In at a3; have a4 := j26_4; unfold In at a4; have a5 := i108; unfold In at a5; have a6 := (in_c 5 rfl); unfold In at a6; omega
                have n119c : ((sF (sF sc26 46 5 y26_4) 46 3 (Int32.ofInt 5)).2.2.1 46 2).toInt ≤ ((sF (sF sc26 46 5 y26_4) 46 3 (Int32.ofInt 5)).2.2.1 46 1).toInt := by have b0 : w26_46_2 = (sF (sF sc26 46 5 y26_4) 46 3 (Int32.ofInt 5)).2.2.1 46 2 := sF_ne rfl (sF_ne rfl (v26_46_2)); have b1 : u_46_1 = (sF (sF sc26 46 5 y26_4) 46 3 (Int32.ofInt 5)).2.2.1 46 1 := sF_ne rfl (sF_ne rfl (fr_F e_46_1 hFc26 rfl)); rw [← b0, ← b1]; exact n119b
                have n119d : (u_46_2).toInt + 1 ≤ (w26_46_2).toInt := by have a0 := h2; unfold In at a0; have a1 := i91; unfold In at a1; have a2 := i42x5; unfold In at a2; have a3 := i42x5a; unfold In at a3; have a4 := j26_4; unfold In at a4; have a5 := i108; unfold In at a5; have a6 := (in_c 5 rfl); unfold In at a6; omega
                have n119e : (s.2.2.1 46 2).toInt + 1 ≤ ((sF (sF sc26 46 5 y26_4) 46 3 (Int32.ofInt 5)).2.2.1 46 2).toInt := by have b0 : w26_46_2 = (sF (sF sc26 46 5 y26_4) 46 3 (Int32.ofInt 5)).2.2.1 46 2 := sF_ne rfl (sF_ne rfl (v26_46_2)); first | (rw [← b0, ← e_46_2]; exact n119d) | (rw [← b0]; exact n119d)
                exact g_return (gd rfl) rfl (hP _ _ ⟨(sF (sF sc26 46 5 y26_4) 46 3 (Int32.ofInt 5)), hI116, (fr_sF rfl (fr_sF rfl hFc26)), n119c, n119e, rfl, rfl, n119, n119a⟩)
            · skip
              have i91 := z_ne 1 1 c91 h1 rfl
              refine g_iload 96 (gd rfl) rfl rfl ?_
              refine g_ineg 97 (gd rfl) rfl (fun z96 e96 => ?_)
              have i96 := in_neg (-9999999) 0 e96 j26_4 rfl
              refine g_goto 102 (gd rfl) rfl ?_
              refine g_putI 105 (gd rfl) rfl rfl rfl rfl ?_
              have hI102 := inv_sF (q := 46) (j := 5) hIc26 rfl (in_w (-2147483648) 2147483647 i96 rfl)
              refine g_aload_n 106 (gd rfl) rfl rfl ?_
              refine g_iload_n 107 (gd rfl) rfl rfl ?_
              refine g_iload_n 108 (gd rfl) rfl rfl ?_
              refine g_cmp_le 111 115 (gd rfl) rfl rfl (fun c108 => ?_) (fun c108 => ?_)
              · skip
                have i108 := r_le1 0 7 c108 j26_3 h2 rfl
                refine g_iconst 2 116 (gd rfl) rfl rfl ?_
                refine g_putI 119 (gd rfl) rfl rfl rfl rfl ?_
                have hI116 := inv_sF (q := 46) (j := 3) hI102 rfl (in_w 0 5 (in_c 2 rfl) rfl)
                have n119 : ((sF (sF sc26 46 5 z96) 46 3 (Int32.ofInt 2)).2.2.1 46 3).toInt ≠ 1 := by rw [← (show (Int32.ofInt 2) = (sF (sF sc26 46 5 z96) 46 3 (Int32.ofInt 2)).2.2.1 46 3 from sF_get)]; decide
                have n119a : (x2).toInt = 6 → ((sF (sF sc26 46 5 z96) 46 3 (Int32.ofInt 2)).2.2.1 46 3).toInt = 2 → ((sF (sF sc26 46 5 z96) 46 3 (Int32.ofInt 2)).2.2.1 46 5).toInt ≤ 999999 := by intro h6 h2; rw [← (show (Int32.ofInt 2) = (sF (sF sc26 46 5 z96) 46 3 (Int32.ofInt 2)).2.2.1 46 3 from sF_get)] at h2; rw [← (show z96 = (sF (sF sc26 46 5 z96) 46 3 (Int32.ofInt 2)).2.2.1 46 5 from sF_ne rfl (sF_get))]; first | (exfalso; revert h2; decide) | (have a0 := h2; unfold In at a0; have a1 := i91; unfold In at a1; have a2 := i42x5; unfold In at a2; have a3 := i42x5a; unfold In at a3; have a4 := j26_4; unfold In at a4; have a5 := i108; unfold In at a5; have a6 := (in_c 2 rfl); unfold In at a6; have a7 := i96; unfold In at a7; omega)
                have n119b : (w26_46_2).toInt ≤ (u_46_1).toInt := by have a0 := h2; unfold In at a0; have a1 := i91; unfold In at a1; have a2 := i42x5; unfold In at a2; have a3 := i42x5a; unfold In at a3; have a4 := j26_4; unfold In at a4; have a5 := i108; unfold In at a5; have a6 := (in_c 2 rfl); unfold In at a6; have a7 := i96; unfold In at a7; omega
                have n119c : ((sF (sF sc26 46 5 z96) 46 3 (Int32.ofInt 2)).2.2.1 46 2).toInt ≤ ((sF (sF sc26 46 5 z96) 46 3 (Int32.ofInt 2)).2.2.1 46 1).toInt := by have b0 : w26_46_2 = (sF (sF sc26 46 5 z96) 46 3 (Int32.ofInt 2)).2.2.1 46 2 := sF_ne rfl (sF_ne rfl (v26_46_2)); have b1 : u_46_1 = (sF (sF sc26 46 5 z96) 46 3 (Int32.ofInt 2)).2.2.1 46 1 := sF_ne rfl (sF_ne rfl (fr_F e_46_1 hFc26 rfl)); rw [← b0, ← b1]; exact n119b
                have n119d : (u_46_2).toInt + 1 ≤ (w26_46_2).toInt := by have a0 := h2; unfold In at a0; have a1 := i91; unfold In at a1; have a2 := i42x5; unfold In at a2; have a3 := i42x5a; unfold In at a3; have a4 := j26_4; unfold In at a4; have a5 := i108; unfold In at a5; have a6 := (in_c 2 rfl); unfold In at a6; have a7 := i96; unfold In at a7; omega
                have n119e : (s.2.2.1 46 2).toInt + 1 ≤ ((sF (sF sc26 46 5 z96) 46 3 (Int32.ofInt 2)).2.2.1 46 2).toInt := by have b0 : w26_46_2 = (sF (sF sc26 46 5 z96) 46 3 (Int32.ofInt 2)).2.2.1 46 2 := sF_ne rfl (sF_ne rfl (v26_46_2)); first | (rw [← b0, ← e_46_2]; exact n119d) | (rw [← b0]; exact n119d)
                exact g_return (gd rfl) rfl (hP _ _ ⟨(sF (sF sc26 46 5 z96) 46 3 (Int32.ofInt 2)), hI116, (fr_sF rfl (fr_sF rfl hFc26)), n119c, n119e, rfl, rfl, n119, n119a⟩)
              · skip
                have i108 := r_lt2 7 1000 c108 h2 j26_3 rfl
                refine g_iconst 5 112 (gd rfl) rfl rfl ?_
                refine g_goto 116 (gd rfl) rfl ?_
                refine g_putI 119 (gd rfl) rfl rfl rfl rfl ?_
                have hI116 := inv_sF (q := 46) (j := 3) hI102 rfl (in_w 0 5 (in_c 5 rfl) rfl)
                have n119 : ((sF (sF sc26 46 5 z96) 46 3 (Int32.ofInt 5)).2.2.1 46 3).toInt ≠ 1 := by rw [← (show (Int32.ofInt 5) = (sF (sF sc26 46 5 z96) 46 3 (Int32.ofInt 5)).2.2.1 46 3 from sF_get)]; decide
                have n119a : (x2).toInt = 6 → ((sF (sF sc26 46 5 z96) 46 3 (Int32.ofInt 5)).2.2.1 46 3).toInt = 2 → ((sF (sF sc26 46 5 z96) 46 3 (Int32.ofInt 5)).2.2.1 46 5).toInt ≤ 999999 := by intro h6 h2; rw [← (show (Int32.ofInt 5) = (sF (sF sc26 46 5 z96) 46 3 (Int32.ofInt 5)).2.2.1 46 3 from sF_get)] at h2; rw [← (show z96 = (sF (sF sc26 46 5 z96) 46 3 (Int32.ofInt 5)).2.2.1 46 5 from sF_ne rfl (sF_get))]; first | (exfalso; revert h2; decide) | (have a0 := h2; unfold In at a0; have a1 := i91; unfold In at a1; have a2 := i42x5; unfold In at a2; have a3 := i42x5a; unfold In at a3; have a4 := j26_4; unfold In at a4; have a5 := i108; unfold In at a5; have a6 := (in_c 5 rfl); unfold In at a6; have a7 := i96; unfold In at a7; omega)
                have n119b : (w26_46_2).toInt ≤ (u_46_1).toInt := by have a0 := h2; unfold In at a0; have a1 := i91; unfold In at a1; have a2 := i42x5; unfold In at a2; have a3 := i42x5a; unfold In at a3; have a4 := j26_4; unfold In at a4; have a5 := i108; unfold In at a5; have a6 := (in_c 5 rfl); unfold In at a6; have a7 := i96; unfold In at a7; omega
                have n119c : ((sF (sF sc26 46 5 z96) 46 3 (Int32.ofInt 5)).2.2.1 46 2).toInt ≤ ((sF (sF sc26 46 5 z96) 46 3 (Int32.ofInt 5)).2.2.1 46 1).toInt := by have b0 : w26_46_2 = (sF (sF sc26 46 5 z96) 46 3 (Int32.ofInt 5)).2.2.1 46 2 := sF_ne rfl (sF_ne rfl (v26_46_2)); have b1 : u_46_1 = (sF (sF sc26 46 5 z96) 46 3 (Int32.ofInt 5)).2.2.1 46 1 := sF_ne rfl (sF_ne rfl (fr_F e_46_1 hFc26 rfl)); rw [← b0, ← b1]; exact n119b
                have n119d : (u_46_2).toInt + 1 ≤ (w26_46_2).toInt := by have a0 := h2; unfold In at a0; have a1 := i91; unfold In at a1; have a2 := i42x5; unfold In at a2; have a3 := i42x5a; unfold In at a3; have a4 := j26_4; unfold In at a4; have a5 := i108; unfold In at a5; have a6 := (in_c 5 rfl); unfold In at a6; have a7 := i96; unfold In at a7; omega
                have n119e : (s.2.2.1 46 2).toInt + 1 ≤ ((sF (sF sc26 46 5 z96) 46 3 (Int32.ofInt 5)).2.2.1 46 2).toInt := by have b0 : w26_46_2 = (sF (sF sc26 46 5 z96) 46 3 (Int32.ofInt 5)).2.2.1 46 2 := sF_ne rfl (sF_ne rfl (v26_46_2)); first | (rw [← b0, ← e_46_2]; exact n119d) | (rw [← b0]; exact n119d)
                exact g_return (gd rfl) rfl (hP _ _ ⟨(sF (sF sc26 46 5 z96) 46 3 (Int32.ofInt 5)), hI116, (fr_sF rfl (fr_sF rfl hFc26)), n119c, n119e, rfl, rfl, n119, n119a⟩)
          · skip
            exact zn_ne c45 (in_c 0 rfl) rfl
        · skip
          refine g_aload_n 9 (gd rfl) rfl rfl ?_
          refine g_getA (q2 := 47) 12 (gd rfl) rfl rfl rfl rfl ?_
          refine g_iload_n 13 (gd rfl) rfl rfl ?_
          refine g_caload 14 (gd rfl) rfl (n := 1000) rfl (in_ix i34 rfl) (fun z42x13 e42x13 => ?_)
          have i42x13 := inv_I hIc26 (n := 1000) (t := 2) 0 65535 rfl (in_ix i34 rfl) rfl e42x13
          refine g_bipush 48 16 (gd rfl) rfl rfl ?_
          refine g_cmp_lt 19 34 (gd rfl) rfl rfl (fun c42x16 => ?_) (fun c42x16 => ?_)
          · skip
            have i42x16 := r_lt1 0 47 c42x16 i42x13 (in_c 48 rfl) rfl
            refine g_iconst 0 35 (gd rfl) rfl rfl ?_
            refine g_ireturn (gd rfl) rfl (nb01 (in_w 0 1 (in_c 0 rfl) rfl)) (hp42 _ _ ?_)
            show GG _ _ _ _ _ _ _ _ [.int (Int32.ofInt 0)] _ _ _
            refine g_if_eq 48 89 (gd rfl) rfl rfl (fun c45 => ?_) (fun c45 => ?_)
            · skip
              have hq89 : (u_46_2).toInt + 1 ≤ (w26_46_2).toInt := (by have c48 : (Int32.ofInt 48).toInt = 48 := (by decide); have c57 : (Int32.ofInt 57).toInt = 57 := (by decide); have hd : w26_46_2.toInt = u_46_2.toInt + x1.toInt → 48 ≤ (z42x13).toInt ∧ (z42x13).toInt ≤ 57 := (fun h => by have e0 : (w26_46_2).toNatClampNeg = ((s.2.2.1 46 2).toInt + x1.toInt).toNat := (by rw [← e_46_2]; show (w26_46_2).toInt.toNat = _; omega); rw [e42x13, e0, hFc26.1 47 rfl]; exact q_0); have a0 := h2; unfold In at a0; have a1 := h1; unfold In at a1; have a2 := i34a; unfold In at a2; have a3 := i34; unfold In at a3; have a4 := j26_4; unfold In at a4; have a5 := j26_3; unfold In at a5; omega)
              refine g_aload_n 90 (gd rfl) rfl rfl ?_
              refine g_iload_n 91 (gd rfl) rfl rfl ?_
              refine g_if_eq 94 100 (gd rfl) rfl rfl (fun c91 => ?_) (fun c91 => ?_)
              · skip
                have i91 := z_eq 0 0 c91 h1 rfl
                refine g_iload 102 (gd rfl) rfl rfl ?_
                refine g_putI 105 (gd rfl) rfl rfl rfl rfl ?_
                have hI102 := inv_sF (q := 46) (j := 5) hIc26 rfl (in_w (-2147483648) 2147483647 j26_4 rfl)
                refine g_aload_n 106 (gd rfl) rfl rfl ?_
                refine g_iload_n 107 (gd rfl) rfl rfl ?_
                refine g_iload_n 108 (gd rfl) rfl rfl ?_
                refine g_cmp_le 111 115 (gd rfl) rfl rfl (fun c108 => ?_) (fun c108 => ?_)
                · skip
                  have i108 := r_le1 0 7 c108 j26_3 h2 rfl
                  refine g_iconst 2 116 (gd rfl) rfl rfl ?_
                  refine g_putI 119 (gd rfl) rfl rfl rfl rfl ?_
                  have hI116 := inv_sF (q := 46) (j := 3) hI102 rfl (in_w 0 5 (in_c 2 rfl) rfl)
                  have n119 : ((sF (sF sc26 46 5 y26_4) 46 3 (Int32.ofInt 2)).2.2.1 46 3).toInt ≠ 1 := by rw [← (show (Int32.ofInt 2) = (sF (sF sc26 46 5 y26_4) 46 3 (Int32.ofInt 2)).2.2.1 46 3 from sF_get)]; decide
                  have n119a : (x2).toInt = 6 → ((sF (sF sc26 46 5 y26_4) 46 3 (Int32.ofInt 2)).2.2.1 46 3).toInt = 2 → ((sF (sF sc26 46 5 y26_4) 46 3 (Int32.ofInt 2)).2.2.1 46 5).toInt ≤ 999999 := by intro h6 h2; rw [← (show (Int32.ofInt 2) = (sF (sF sc26 46 5 y26_4) 46 3 (Int32.ofInt 2)).2.2.1 46 3 from sF_get)] at h2; rw [← (show y26_4 = (sF (sF sc26 46 5 y26_4) 46 3 (Int32.ofInt 2)).2.2.1 46 5 from sF_ne rfl (sF_get))]; first | (exfalso; revert h2; decide) | exact dg_6 (by have a0 := h2; unfold In at a0; have a1 := i91; unfold In at a1; have a2 := i34a; unfold In at a2; have a3 := i34; unfold In at a3; have a4 := j26_4; unfold In at a4; have a5 := i108; unfold In at a5; have a6 := (in_c 2 rfl); unfold In at a6; omega) (by have a0 := h2; unfold In at a0; have a1 := i91; unfold In at a1; have a2 := i34a; unfold In at a2; have a3 := i34; unfold In at a3; have a4 := j26_4; unfold In at a4; have a5 := i108; unfold In at a5; have a6 := (in_c 2 rfl); unfold In at a6; omega) (g26_0.2.1 (by have a0 := h2; unfold In at a0; have a1 := i91; unfold In at a1; have a2 := i34a; unfold In at a2; have a3 := i34; unfold In at a3; have a4 := j26_4; unfold In at a4; have a5 := i108; unfold In at a5; have a6 := (in_c 2 rfl); unfold In at a6; omega))
                  have n119b : (w26_46_2).toInt ≤ (u_46_1).toInt := by have a0 := h2; unfold In at a0; have a1 := i91; unfold In at a1; have a2 := i34a; unfold In at a2; have a3 := i34; unfold In at a3; have a4 := j26_4; unfold In at a4; have a5 := i108; unfold In at a5; have a6 := (in_c 2 rfl); unfold In at a6; omega
                  have n119c : ((sF (sF sc26 46 5 y26_4) 46 3 (Int32.ofInt 2)).2.2.1 46 2).toInt ≤ ((sF (sF sc26 46 5 y26_4) 46 3 (Int32.ofInt 2)).2.2.1 46 1).toInt := by have b0 : w26_46_2 = (sF (sF sc26 46 5 y26_4) 46 3 (Int32.ofInt 2)).2.2.1 46 2 := sF_ne rfl (sF_ne rfl (v26_46_2)); have b1 : u_46_1 = (sF (sF sc26 46 5 y26_4) 46 3 (Int32.ofInt 2)).2.2.1 46 1 := sF_ne rfl (sF_ne rfl (fr_F e_46_1 hFc26 rfl)); rw [← b0, ← b1]; exact n119b
                  have n119d : (u_46_2).toInt + 1 ≤ (w26_46_2).toInt := by have a0 := h2; unfold In at a0; have a1 := i91; unfold In at a1; have a2 := i34a; unfold In at a2; have a3 := i34; unfold In at a3; have a4 := j26_4; unfold In at a4; have a5 := i108; unfold In at a5; have a6 := (in_c 2 rfl); unfold In at a6; omega
                  have n119e : (s.2.2.1 46 2).toInt + 1 ≤ ((sF (sF sc26 46 5 y26_4) 46 3 (Int32.ofInt 2)).2.2.1 46 2).toInt := by have b0 : w26_46_2 = (sF (sF sc26 46 5 y26_4) 46 3 (Int32.ofInt 2)).2.2.1 46 2 := sF_ne rfl (sF_ne rfl (v26_46_2)); first | (rw [← b0, ← e_46_2]; exact n119d) | (rw [← b0]; exact n119d)
                  exact g_return (gd rfl) rfl (hP _ _ ⟨(sF (sF sc26 46 5 y26_4) 46 3 (Int32.ofInt 2)), hI116, (fr_sF rfl (fr_sF rfl hFc26)), n119c, n119e, rfl, rfl, n119, n119a⟩)
                · skip
                  have i108 := r_lt2 7 1000 c108 h2 j26_3 rfl
                  refine g_iconst 5 112 (gd rfl) rfl rfl ?_
                  refine g_goto 116 (gd rfl) rfl ?_
                  refine g_putI 119 (gd rfl) rfl rfl rfl rfl ?_
                  have hI116 := inv_sF (q := 46) (j := 3) hI102 rfl (in_w 0 5 (in_c 5 rfl) rfl)
                  have n119 : ((sF (sF sc26 46 5 y26_4) 46 3 (Int32.ofInt 5)).2.2.1 46 3).toInt ≠ 1 := by rw [← (show (Int32.ofInt 5) = (sF (sF sc26 46 5 y26_4) 46 3 (Int32.ofInt 5)).2.2.1 46 3 from sF_get)]; decide
                  have n119a : (x2).toInt = 6 → ((sF (sF sc26 46 5 y26_4) 46 3 (Int32.ofInt 5)).2.2.1 46 3).toInt = 2 → ((sF (sF sc26 46 5 y26_4) 46 3 (Int32.ofInt 5)).2.2.1 46 5).toInt ≤ 999999 := by intro h6 h2; rw [← (show (Int32.ofInt 5) = (sF (sF sc26 46 5 y26_4) 46 3 (Int32.ofInt 5)).2.2.1 46 3 from sF_get)] at h2; rw [← (show y26_4 = (sF (sF sc26 46 5 y26_4) 46 3 (Int32.ofInt 5)).2.2.1 46 5 from sF_ne rfl (sF_get))]; first | (exfalso; revert h2; decide) | exact dg_6 (by have a0 := h2; unfold In at a0; have a1 := i91; unfold In at a1; have a2 := i34a; unfold In at a2; have a3 := i34; unfold In at a3; have a4 := j26_4; unfold In at a4; have a5 := i108; unfold In at a5; have a6 := (in_c 5 rfl); unfold In at a6; omega) (by have a0 := h2; unfold In at a0; have a1 := i91; unfold In at a1; have a2 := i34a; unfold In at a2; have a3 := i34; unfold In at a3; have a4 := j26_4; unfold In at a4; have a5 := i108; unfold In at a5; have a6 := (in_c 5 rfl); unfold In at a6; omega) (g26_0.2.1 (by have a0 := h2; unfold In at a0; have a1 := i91; unfold In at a1; have a2 := i34a; unfold In at a2; have a3 := i34; unfold In at a3; have a4 := j26_4; unfold In at a4; have a5 := i108; unfold In at a5; have a6 := (in_c 5 rfl); unfold In at a6; omega))
                  have n119b : (w26_46_2).toInt ≤ (u_46_1).toInt := by have a0 := h2; unfold In at a0; have a1 := i91; unfold In at a1; have a2 := i34a; unfold In at a2; have a3 := i34; unfold In at a3; have a4 := j26_4; unfold In at a4; have a5 := i108; unfold In at a5; have a6 := (in_c 5 rfl); unfold In at a6; omega
                  have n119c : ((sF (sF sc26 46 5 y26_4) 46 3 (Int32.ofInt 5)).2.2.1 46 2).toInt ≤ ((sF (sF sc26 46 5 y26_4) 46 3 (Int32.ofInt 5)).2.2.1 46 1).toInt := by have b0 : w26_46_2 = (sF (sF sc26 46 5 y26_4) 46 3 (Int32.ofInt 5)).2.2.1 46 2 := sF_ne rfl (sF_ne rfl (v26_46_2)); have b1 : u_46_1 = (sF (sF sc26 46 5 y26_4) 46 3 (Int32.ofInt 5)).2.2.1 46 1 := sF_ne rfl (sF_ne rfl (fr_F e_46_1 hFc26 rfl)); rw [← b0, ← b1]; exact n119b
                  have n119d : (u_46_2).toInt + 1 ≤ (w26_46_2).toInt := by have a0 := h2; unfold In at a0; have a1 := i91; unfold In at a1; have a2 := i34a; unfold In at a2; have a3 := i34; unfold In at a3; have a4 := j26_4; unfold In at a4; have a5 := i108; unfold In at a5; have a6 := (in_c 5 rfl); unfold In at a6; omega
                  have n119e : (s.2.2.1 46 2).toInt + 1 ≤ ((sF (sF sc26 46 5 y26_4) 46 3 (Int32.ofInt 5)).2.2.1 46 2).toInt := by have b0 : w26_46_2 = (sF (sF sc26 46 5 y26_4) 46 3 (Int32.ofInt 5)).2.2.1 46 2 := sF_ne rfl (sF_ne rfl (v26_46_2)); first | (rw [← b0, ← e_46_2]; exact n119d) | (rw [← b0]; exact n119d)
                  exact g_return (gd rfl) rfl (hP _ _ ⟨(sF (sF sc26 46 5 y26_4) 46 3 (Int32.ofInt 5)), hI116, (fr_sF rfl (fr_sF rfl hFc26)), n119c, n119e, rfl, rfl, n119, n119a⟩)
              · skip
                have i91 := z_ne 1 1 c91 h1 rfl
                refine g_iload 96 (gd rfl) rfl rfl ?_
                refine g_ineg 97 (gd rfl) rfl (fun z96 e96 => ?_)
                have i96 := in_neg (-9999999) 0 e96 j26_4 rfl
                refine g_goto 102 (gd rfl) rfl ?_
                refine g_putI 105 (gd rfl) rfl rfl rfl rfl ?_
                have hI102 := inv_sF (q := 46) (j := 5) hIc26 rfl (in_w (-2147483648) 2147483647 i96 rfl)
                refine g_aload_n 106 (gd rfl) rfl rfl ?_
                refine g_iload_n 107 (gd rfl) rfl rfl ?_
                refine g_iload_n 108 (gd rfl) rfl rfl ?_
                refine g_cmp_le 111 115 (gd rfl) rfl rfl (fun c108 => ?_) (fun c108 => ?_)
                · skip
                  have i108 := r_le1 0 7 c108 j26_3 h2 rfl
                  refine g_iconst 2 116 (gd rfl) rfl rfl ?_
                  refine g_putI 119 (gd rfl) rfl rfl rfl rfl ?_
                  have hI116 := inv_sF (q := 46) (j := 3) hI102 rfl (in_w 0 5 (in_c 2 rfl) rfl)
                  have n119 : ((sF (sF sc26 46 5 z96) 46 3 (Int32.ofInt 2)).2.2.1 46 3).toInt ≠ 1 := by rw [← (show (Int32.ofInt 2) = (sF (sF sc26 46 5 z96) 46 3 (Int32.ofInt 2)).2.2.1 46 3 from sF_get)]; decide
                  have n119a : (x2).toInt = 6 → ((sF (sF sc26 46 5 z96) 46 3 (Int32.ofInt 2)).2.2.1 46 3).toInt = 2 → ((sF (sF sc26 46 5 z96) 46 3 (Int32.ofInt 2)).2.2.1 46 5).toInt ≤ 999999 := by intro h6 h2; rw [← (show (Int32.ofInt 2) = (sF (sF sc26 46 5 z96) 46 3 (Int32.ofInt 2)).2.2.1 46 3 from sF_get)] at h2; rw [← (show z96 = (sF (sF sc26 46 5 z96) 46 3 (Int32.ofInt 2)).2.2.1 46 5 from sF_ne rfl (sF_get))]; first | (exfalso; revert h2; decide) | (have a0 := h2; unfold In at a0; have a1 := i91; unfold In at a1; have a2 := i34a; unfold In at a2; have a3 := i34; unfold In at a3; have a4 := j26_4; unfold In at a4; have a5 := i108; unfold In at a5; have a6 := (in_c 2 rfl); unfold In at a6; have a7 := i96; unfold In at a7; omega)
                  have n119b : (w26_46_2).toInt ≤ (u_46_1).toInt := by have a0 := h2; unfold In at a0; have a1 := i91; unfold In at a1; have a2 := i34a; unfold In at a2; have a3 := i34; unfold In at a3; have a4 := j26_4; unfold In at a4; have a5 := i108; unfold In at a5; have a6 := (in_c 2 rfl); unfold In at a6; have a7 := i96; unfold In at a7; omega
                  have n119c : ((sF (sF sc26 46 5 z96) 46 3 (Int32.ofInt 2)).2.2.1 46 2).toInt ≤ ((sF (sF sc26 46 5 z96) 46 3 (Int32.ofInt 2)).2.2.1 46 1).toInt := by have b0 : w26_46_2 = (sF (sF sc26 46 5 z96) 46 3 (Int32.ofInt 2)).2.2.1 46 2 := sF_ne rfl (sF_ne rfl (v26_46_2)); have b1 : u_46_1 = (sF (sF sc26 46 5 z96) 46 3 (Int32.ofInt 2)).2.2.1 46 1 := sF_ne rfl (sF_ne rfl (fr_F e_46_1 hFc26 rfl)); rw [← b0, ← b1]; exact n119b
                  have n119d : (u_46_2).toInt + 1 ≤ (w26_46_2).toInt := by have a0 := h2; unfold In at a0; have a1 := i91; unfold In at a1; have a2 := i34a; unfold In at a2; have a3 := i34; unfold In at a3; have a4 := j26_4; unfold In at a4; have a5 := i108; unfold In at a5; have a6 := (in_c 2 rfl); unfold In at a6; have a7 := i96; unfold In at a7; omega
                  have n119e : (s.2.2.1 46 2).toInt + 1 ≤ ((sF (sF sc26 46 5 z96) 46 3 (Int32.ofInt 2)).2.2.1 46 2).toInt := by have b0 : w26_46_2 = (sF (sF sc26 46 5 z96) 46 3 (Int32.ofInt 2)).2.2.1 46 2 := sF_ne rfl (sF_ne rfl (v26_46_2)); first | (rw [← b0, ← e_46_2]; exact n119d) | (rw [← b0]; exact n119d)
                  exact g_return (gd rfl) rfl (hP _ _ ⟨(sF (sF sc26 46 5 z96) 46 3 (Int32.ofInt 2)), hI116, (fr_sF rfl (fr_sF rfl hFc26)), n119c, n119e, rfl, rfl, n119, n119a⟩)
                · skip
                  have i108 := r_lt2 7 1000 c108 h2 j26_3 rfl
                  refine g_iconst 5 112 (gd rfl) rfl rfl ?_
                  refine g_goto 116 (gd rfl) rfl ?_
                  refine g_putI 119 (gd rfl) rfl rfl rfl rfl ?_
                  have hI116 := inv_sF (q := 46) (j := 3) hI102 rfl (in_w 0 5 (in_c 5 rfl) rfl)
                  have n119 : ((sF (sF sc26 46 5 z96) 46 3 (Int32.ofInt 5)).2.2.1 46 3).toInt ≠ 1 := by rw [← (show (Int32.ofInt 5) = (sF (sF sc26 46 5 z96) 46 3 (Int32.ofInt 5)).2.2.1 46 3 from sF_get)]; decide
                  have n119a : (x2).toInt = 6 → ((sF (sF sc26 46 5 z96) 46 3 (Int32.ofInt 5)).2.2.1 46 3).toInt = 2 → ((sF (sF sc26 46 5 z96) 46 3 (Int32.ofInt 5)).2.2.1 46 5).toInt ≤ 999999 := by intro h6 h2; rw [← (show (Int32.ofInt 5) = (sF (sF sc26 46 5 z96) 46 3 (Int32.ofInt 5)).2.2.1 46 3 from sF_get)] at h2; rw [← (show z96 = (sF (sF sc26 46 5 z96) 46 3 (Int32.ofInt 5)).2.2.1 46 5 from sF_ne rfl (sF_get))]; first | (exfalso; revert h2; decide) | (have a0 := h2; unfold In at a0; have a1 := i91; unfold In at a1; have a2 := i34a; unfold In at a2; have a3 := i34; unfold In at a3; have a4 := j26_4; unfold In at a4; have a5 := i108; unfold In at a5; have a6 := (in_c 5 rfl); unfold In at a6; have a7 := i96; unfold In at a7; omega)
                  have n119b : (w26_46_2).toInt ≤ (u_46_1).toInt := by have a0 := h2; unfold In at a0; have a1 := i91; unfold In at a1; have a2 := i34a; unfold In at a2; have a3 := i34; unfold In at a3; have a4 := j26_4; unfold In at a4; have a5 := i108; unfold In at a5; have a6 := (in_c 5 rfl); unfold In at a6; have a7 := i96; unfold In at a7; omega
                  have n119c : ((sF (sF sc26 46 5 z96) 46 3 (Int32.ofInt 5)).2.2.1 46 2).toInt ≤ ((sF (sF sc26 46 5 z96) 46 3 (Int32.ofInt 5)).2.2.1 46 1).toInt := by have b0 : w26_46_2 = (sF (sF sc26 46 5 z96) 46 3 (Int32.ofInt 5)).2.2.1 46 2 := sF_ne rfl (sF_ne rfl (v26_46_2)); have b1 : u_46_1 = (sF (sF sc26 46 5 z96) 46 3 (Int32.ofInt 5)).2.2.1 46 1 := sF_ne rfl (sF_ne rfl (fr_F e_46_1 hFc26 rfl)); rw [← b0, ← b1]; exact n119b
                  have n119d : (u_46_2).toInt + 1 ≤ (w26_46_2).toInt := by have a0 := h2; unfold In at a0; have a1 := i91; unfold In at a1; have a2 := i34a; unfold In at a2; have a3 := i34; unfold In at a3; have a4 := j26_4; unfold In at a4; have a5 := i108; unfold In at a5; have a6 := (in_c 5 rfl); unfold In at a6; have a7 := i96; unfold In at a7; omega
                  have n119e : (s.2.2.1 46 2).toInt + 1 ≤ ((sF (sF sc26 46 5 z96) 46 3 (Int32.ofInt 5)).2.2.1 46 2).toInt := by have b0 : w26_46_2 = (sF (sF sc26 46 5 z96) 46 3 (Int32.ofInt 5)).2.2.1 46 2 := sF_ne rfl (sF_ne rfl (v26_46_2)); first | (rw [← b0, ← e_46_2]; exact n119d) | (rw [← b0]; exact n119d)
                  exact g_return (gd rfl) rfl (hP _ _ ⟨(sF (sF sc26 46 5 z96) 46 3 (Int32.ofInt 5)), hI116, (fr_sF rfl (fr_sF rfl hFc26)), n119c, n119e, rfl, rfl, n119, n119a⟩)
            · skip
              exact zn_ne c45 (in_c 0 rfl) rfl
          · skip
            have i42x16 := r_le2 48 65535 c42x16 (in_c 48 rfl) i42x13 rfl
            refine g_aload_n 20 (gd rfl) rfl rfl ?_
            refine g_getA (q2 := 47) 23 (gd rfl) rfl rfl rfl rfl ?_
            refine g_iload_n 24 (gd rfl) rfl rfl ?_
            refine g_caload 25 (gd rfl) rfl (n := 1000) rfl (in_ix i34 rfl) (fun z42x24 e42x24 => ?_)
            have q42x24 : z42x13 = z42x24 := (e42x13).trans e42x24.symm
            subst q42x24
            refine g_bipush 57 27 (gd rfl) rfl rfl ?_
            refine g_cmp_gt 30 34 (gd rfl) rfl rfl (fun c42x27 => ?_) (fun c42x27 => ?_)
            · skip
              have i42x27 := r_lt2 58 65535 c42x27 (in_c 57 rfl) i42x16 rfl
              refine g_iconst 0 35 (gd rfl) rfl rfl ?_
              refine g_ireturn (gd rfl) rfl (nb01 (in_w 0 1 (in_c 0 rfl) rfl)) (hp42 _ _ ?_)
              show GG _ _ _ _ _ _ _ _ [.int (Int32.ofInt 0)] _ _ _
              refine g_if_eq 48 89 (gd rfl) rfl rfl (fun c45 => ?_) (fun c45 => ?_)
              · skip
                have hq89 : (u_46_2).toInt + 1 ≤ (w26_46_2).toInt := (by have c48 : (Int32.ofInt 48).toInt = 48 := (by decide); have c57 : (Int32.ofInt 57).toInt = 57 := (by decide); have hd : w26_46_2.toInt = u_46_2.toInt + x1.toInt → 48 ≤ (z42x13).toInt ∧ (z42x13).toInt ≤ 57 := (fun h => by have e0 : (w26_46_2).toNatClampNeg = ((s.2.2.1 46 2).toInt + x1.toInt).toNat := (by rw [← e_46_2]; show (w26_46_2).toInt.toNat = _; omega); rw [e42x13, e0, hFc26.1 47 rfl]; exact q_0); have a0 := h2; unfold In at a0; have a1 := h1; unfold In at a1; have a2 := i34a; unfold In at a2; have a3 := i34; unfold In at a3; have a4 := j26_4; unfold In at a4; have a5 := j26_3; unfold In at a5; omega)
                refine g_aload_n 90 (gd rfl) rfl rfl ?_
                refine g_iload_n 91 (gd rfl) rfl rfl ?_
                refine g_if_eq 94 100 (gd rfl) rfl rfl (fun c91 => ?_) (fun c91 => ?_)
                · skip
                  have i91 := z_eq 0 0 c91 h1 rfl
                  refine g_iload 102 (gd rfl) rfl rfl ?_
                  refine g_putI 105 (gd rfl) rfl rfl rfl rfl ?_
                  have hI102 := inv_sF (q := 46) (j := 5) hIc26 rfl (in_w (-2147483648) 2147483647 j26_4 rfl)
                  refine g_aload_n 106 (gd rfl) rfl rfl ?_
                  refine g_iload_n 107 (gd rfl) rfl rfl ?_
                  refine g_iload_n 108 (gd rfl) rfl rfl ?_
                  refine g_cmp_le 111 115 (gd rfl) rfl rfl (fun c108 => ?_) (fun c108 => ?_)
                  · skip
                    have i108 := r_le1 0 7 c108 j26_3 h2 rfl
                    refine g_iconst 2 116 (gd rfl) rfl rfl ?_
                    refine g_putI 119 (gd rfl) rfl rfl rfl rfl ?_
                    have hI116 := inv_sF (q := 46) (j := 3) hI102 rfl (in_w 0 5 (in_c 2 rfl) rfl)
                    have n119 : ((sF (sF sc26 46 5 y26_4) 46 3 (Int32.ofInt 2)).2.2.1 46 3).toInt ≠ 1 := by rw [← (show (Int32.ofInt 2) = (sF (sF sc26 46 5 y26_4) 46 3 (Int32.ofInt 2)).2.2.1 46 3 from sF_get)]; decide
                    have n119a : (x2).toInt = 6 → ((sF (sF sc26 46 5 y26_4) 46 3 (Int32.ofInt 2)).2.2.1 46 3).toInt = 2 → ((sF (sF sc26 46 5 y26_4) 46 3 (Int32.ofInt 2)).2.2.1 46 5).toInt ≤ 999999 := by intro h6 h2; rw [← (show (Int32.ofInt 2) = (sF (sF sc26 46 5 y26_4) 46 3 (Int32.ofInt 2)).2.2.1 46 3 from sF_get)] at h2; rw [← (show y26_4 = (sF (sF sc26 46 5 y26_4) 46 3 (Int32.ofInt 2)).2.2.1 46 5 from sF_ne rfl (sF_get))]; first | (exfalso; revert h2; decide) | exact dg_6 (by have a0 := h2; unfold In at a0; have a1 := i91; unfold In at a1; have a2 := i34a; unfold In at a2; have a3 := i34; unfold In at a3; have a4 := j26_4; unfold In at a4; have a5 := i108; unfold In at a5; have a6 := (in_c 2 rfl); unfold In at a6; omega) (by have a0 := h2; unfold In at a0; have a1 := i91; unfold In at a1; have a2 := i34a; unfold In at a2; have a3 := i34; unfold In at a3; have a4 := j26_4; unfold In at a4; have a5 := i108; unfold In at a5; have a6 := (in_c 2 rfl); unfold In at a6; omega) (g26_0.2.1 (by have a0 := h2; unfold In at a0; have a1 := i91; unfold In at a1; have a2 := i34a; unfold In at a2; have a3 := i34; unfold In at a3; have a4 := j26_4; unfold In at a4; have a5 := i108; unfold In at a5; have a6 := (in_c 2 rfl); unfold In at a6; omega))
                    have n119b : (w26_46_2).toInt ≤ (u_46_1).toInt := by have a0 := h2; unfold In at a0; have a1 := i91; unfold In at a1; have a2 := i34a; unfold In at a2; have a3 := i34; unfold In at a3; have a4 := j26_4; unfold In at a4; have a5 := i108; unfold In at a5; have a6 := (in_c 2 rfl); unfold In at a6; omega
                    have n119c : ((sF (sF sc26 46 5 y26_4) 46 3 (Int32.ofInt 2)).2.2.1 46 2).toInt ≤ ((sF (sF sc26 46 5 y26_4) 46 3 (Int32.ofInt 2)).2.2.1 46 1).toInt := by have b0 : w26_46_2 = (sF (sF sc26 46 5 y26_4) 46 3 (Int32.ofInt 2)).2.2.1 46 2 := sF_ne rfl (sF_ne rfl (v26_46_2)); have b1 : u_46_1 = (sF (sF sc26 46 5 y26_4) 46 3 (Int32.ofInt 2)).2.2.1 46 1 := sF_ne rfl (sF_ne rfl (fr_F e_46_1 hFc26 rfl)); rw [← b0, ← b1]; exact n119b
                    have n119d : (u_46_2).toInt + 1 ≤ (w26_46_2).toInt := by have a0 := h2; unfold In at a0; have a1 := i91; unfold In at a1; have a2 := i34a; unfold In at a2; have a3 := i34; unfold In at a3; have a4 := j26_4; unfold In at a4; have a5 := i108; unfold In at a5; have a6 := (in_c 2 rfl); unfold In at a6; omega
                    have n119e : (s.2.2.1 46 2).toInt + 1 ≤ ((sF (sF sc26 46 5 y26_4) 46 3 (Int32.ofInt 2)).2.2.1 46 2).toInt := by have b0 : w26_46_2 = (sF (sF sc26 46 5 y26_4) 46 3 (Int32.ofInt 2)).2.2.1 46 2 := sF_ne rfl (sF_ne rfl (v26_46_2)); first | (rw [← b0, ← e_46_2]; exact n119d) | (rw [← b0]; exact n119d)
                    exact g_return (gd rfl) rfl (hP _ _ ⟨(sF (sF sc26 46 5 y26_4) 46 3 (Int32.ofInt 2)), hI116, (fr_sF rfl (fr_sF rfl hFc26)), n119c, n119e, rfl, rfl, n119, n119a⟩)
                  · skip
                    have i108 := r_lt2 7 1000 c108 h2 j26_3 rfl
                    refine g_iconst 5 112 (gd rfl) rfl rfl ?_
                    refine g_goto 116 (gd rfl) rfl ?_
                    refine g_putI 119 (gd rfl) rfl rfl rfl rfl ?_
                    have hI116 := inv_sF (q := 46) (j := 3) hI102 rfl (in_w 0 5 (in_c 5 rfl) rfl)
                    have n119 : ((sF (sF sc26 46 5 y26_4) 46 3 (Int32.ofInt 5)).2.2.1 46 3).toInt ≠ 1 := by rw [← (show (Int32.ofInt 5) = (sF (sF sc26 46 5 y26_4) 46 3 (Int32.ofInt 5)).2.2.1 46 3 from sF_get)]; decide
                    have n119a : (x2).toInt = 6 → ((sF (sF sc26 46 5 y26_4) 46 3 (Int32.ofInt 5)).2.2.1 46 3).toInt = 2 → ((sF (sF sc26 46 5 y26_4) 46 3 (Int32.ofInt 5)).2.2.1 46 5).toInt ≤ 999999 := by intro h6 h2; rw [← (show (Int32.ofInt 5) = (sF (sF sc26 46 5 y26_4) 46 3 (Int32.ofInt 5)).2.2.1 46 3 from sF_get)] at h2; rw [← (show y26_4 = (sF (sF sc26 46 5 y26_4) 46 3 (Int32.ofInt 5)).2.2.1 46 5 from sF_ne rfl (sF_get))]; first | (exfalso; revert h2; decide) | exact dg_6 (by have a0 := h2; unfold In at a0; have a1 := i91; unfold In at a1; have a2 := i34a; unfold In at a2; have a3 := i34; unfold In at a3; have a4 := j26_4; unfold In at a4; have a5 := i108; unfold In at a5; have a6 := (in_c 5 rfl); unfold In at a6; omega) (by have a0 := h2; unfold In at a0; have a1 := i91; unfold In at a1; have a2 := i34a; unfold In at a2; have a3 := i34; unfold In at a3; have a4 := j26_4; unfold In at a4; have a5 := i108; unfold In at a5; have a6 := (in_c 5 rfl); unfold In at a6; omega) (g26_0.2.1 (by have a0 := h2; unfold In at a0; have a1 := i91; unfold In at a1; have a2 := i34a; unfold In at a2; have a3 := i34; unfold In at a3; have a4 := j26_4; unfold In at a4; have a5 := i108; unfold In at a5; have a6 := (in_c 5 rfl); unfold In at a6; omega))
                    have n119b : (w26_46_2).toInt ≤ (u_46_1).toInt := by have a0 := h2; unfold In at a0; have a1 := i91; unfold In at a1; have a2 := i34a; unfold In at a2; have a3 := i34; unfold In at a3; have a4 := j26_4; unfold In at a4; have a5 := i108; unfold In at a5; have a6 := (in_c 5 rfl); unfold In at a6; omega
                    have n119c : ((sF (sF sc26 46 5 y26_4) 46 3 (Int32.ofInt 5)).2.2.1 46 2).toInt ≤ ((sF (sF sc26 46 5 y26_4) 46 3 (Int32.ofInt 5)).2.2.1 46 1).toInt := by have b0 : w26_46_2 = (sF (sF sc26 46 5 y26_4) 46 3 (Int32.ofInt 5)).2.2.1 46 2 := sF_ne rfl (sF_ne rfl (v26_46_2)); have b1 : u_46_1 = (sF (sF sc26 46 5 y26_4) 46 3 (Int32.ofInt 5)).2.2.1 46 1 := sF_ne rfl (sF_ne rfl (fr_F e_46_1 hFc26 rfl)); rw [← b0, ← b1]; exact n119b
                    have n119d : (u_46_2).toInt + 1 ≤ (w26_46_2).toInt := by have a0 := h2; unfold In at a0; have a1 := i91; unfold In at a1; have a2 := i34a; unfold In at a2; have a3 := i34; unfold In at a3; have a4 := j26_4; unfold In at a4; have a5 := i108; unfold In at a5; have a6 := (in_c 5 rfl); unfold In at a6; omega
                    have n119e : (s.2.2.1 46 2).toInt + 1 ≤ ((sF (sF sc26 46 5 y26_4) 46 3 (Int32.ofInt 5)).2.2.1 46 2).toInt := by have b0 : w26_46_2 = (sF (sF sc26 46 5 y26_4) 46 3 (Int32.ofInt 5)).2.2.1 46 2 := sF_ne rfl (sF_ne rfl (v26_46_2)); first | (rw [← b0, ← e_46_2]; exact n119d) | (rw [← b0]; exact n119d)
                    exact g_return (gd rfl) rfl (hP _ _ ⟨(sF (sF sc26 46 5 y26_4) 46 3 (Int32.ofInt 5)), hI116, (fr_sF rfl (fr_sF rfl hFc26)), n119c, n119e, rfl, rfl, n119, n119a⟩)
                · skip
                  have i91 := z_ne 1 1 c91 h1 rfl
                  refine g_iload 96 (gd rfl) rfl rfl ?_
                  refine g_ineg 97 (gd rfl) rfl (fun z96 e96 => ?_)
                  have i96 := in_neg (-9999999) 0 e96 j26_4 rfl
                  refine g_goto 102 (gd rfl) rfl ?_
                  refine g_putI 105 (gd rfl) rfl rfl rfl rfl ?_
                  have hI102 := inv_sF (q := 46) (j := 5) hIc26 rfl (in_w (-2147483648) 2147483647 i96 rfl)
                  refine g_aload_n 106 (gd rfl) rfl rfl ?_
                  refine g_iload_n 107 (gd rfl) rfl rfl ?_
                  refine g_iload_n 108 (gd rfl) rfl rfl ?_
                  refine g_cmp_le 111 115 (gd rfl) rfl rfl (fun c108 => ?_) (fun c108 => ?_)
                  · skip
                    have i108 := r_le1 0 7 c108 j26_3 h2 rfl
                    refine g_iconst 2 116 (gd rfl) rfl rfl ?_
                    refine g_putI 119 (gd rfl) rfl rfl rfl rfl ?_
                    have hI116 := inv_sF (q := 46) (j := 3) hI102 rfl (in_w 0 5 (in_c 2 rfl) rfl)
                    have n119 : ((sF (sF sc26 46 5 z96) 46 3 (Int32.ofInt 2)).2.2.1 46 3).toInt ≠ 1 := by rw [← (show (Int32.ofInt 2) = (sF (sF sc26 46 5 z96) 46 3 (Int32.ofInt 2)).2.2.1 46 3 from sF_get)]; decide
                    have n119a : (x2).toInt = 6 → ((sF (sF sc26 46 5 z96) 46 3 (Int32.ofInt 2)).2.2.1 46 3).toInt = 2 → ((sF (sF sc26 46 5 z96) 46 3 (Int32.ofInt 2)).2.2.1 46 5).toInt ≤ 999999 := by intro h6 h2; rw [← (show (Int32.ofInt 2) = (sF (sF sc26 46 5 z96) 46 3 (Int32.ofInt 2)).2.2.1 46 3 from sF_get)] at h2; rw [← (show z96 = (sF (sF sc26 46 5 z96) 46 3 (Int32.ofInt 2)).2.2.1 46 5 from sF_ne rfl (sF_get))]; first | (exfalso; revert h2; decide) | (have a0 := h2; unfold In at a0; have a1 := i91; unfold In at a1; have a2 := i34a; unfold In at a2; have a3 := i34; unfold In at a3; have a4 := j26_4; unfold In at a4; have a5 := i108; unfold In at a5; have a6 := (in_c 2 rfl); unfold In at a6; have a7 := i96; unfold In at a7; omega)
                    have n119b : (w26_46_2).toInt ≤ (u_46_1).toInt := by have a0 := h2; unfold In at a0; have a1 := i91; unfold In at a1; have a2 := i34a; unfold In at a2; have a3 := i34; unfold In at a3; have a4 := j26_4; unfold In at a4; have a5 := i108; unfold In at a5; have a6 := (in_c 2 rfl); unfold In at a6; have a7 := i96; unfold In at a7; omega
                    have n119c : ((sF (sF sc26 46 5 z96) 46 3 (Int32.ofInt 2)).2.2.1 46 2).toInt ≤ ((sF (sF sc26 46 5 z96) 46 3 (Int32.ofInt 2)).2.2.1 46 1).toInt := by have b0 : w26_46_2 = (sF (sF sc26 46 5 z96) 46 3 (Int32.ofInt 2)).2.2.1 46 2 := sF_ne rfl (sF_ne rfl (v26_46_2)); have b1 : u_46_1 = (sF (sF sc26 46 5 z96) 46 3 (Int32.ofInt 2)).2.2.1 46 1 := sF_ne rfl (sF_ne rfl (fr_F e_46_1 hFc26 rfl)); rw [← b0, ← b1]; exact n119b
                    have n119d : (u_46_2).toInt + 1 ≤ (w26_46_2).toInt := by have a0 := h2; unfold In at a0; have a1 := i91; unfold In at a1; have a2 := i34a; unfold In at a2; have a3 := i34; unfold In at a3; have a4 := j26_4; unfold In at a4; have a5 := i108; unfold In at a5; have a6 := (in_c 2 rfl); unfold In at a6; have a7 := i96; unfold In at a7; omega
                    have n119e : (s.2.2.1 46 2).toInt + 1 ≤ ((sF (sF sc26 46 5 z96) 46 3 (Int32.ofInt 2)).2.2.1 46 2).toInt := by have b0 : w26_46_2 = (sF (sF sc26 46 5 z96) 46 3 (Int32.ofInt 2)).2.2.1 46 2 := sF_ne rfl (sF_ne rfl (v26_46_2)); first | (rw [← b0, ← e_46_2]; exact n119d) | (rw [← b0]; exact n119d)
                    exact g_return (gd rfl) rfl (hP _ _ ⟨(sF (sF sc26 46 5 z96) 46 3 (Int32.ofInt 2)), hI116, (fr_sF rfl (fr_sF rfl hFc26)), n119c, n119e, rfl, rfl, n119, n119a⟩)
                  · skip
                    have i108 := r_lt2 7 1000 c108 h2 j26_3 rfl
                    refine g_iconst 5 112 (gd rfl) rfl rfl ?_
                    refine g_goto 116 (gd rfl) rfl ?_
                    refine g_putI 119 (gd rfl) rfl rfl rfl rfl ?_
                    have hI116 := inv_sF (q := 46) (j := 3) hI102 rfl (in_w 0 5 (in_c 5 rfl) rfl)
                    have n119 : ((sF (sF sc26 46 5 z96) 46 3 (Int32.ofInt 5)).2.2.1 46 3).toInt ≠ 1 := by rw [← (show (Int32.ofInt 5) = (sF (sF sc26 46 5 z96) 46 3 (Int32.ofInt 5)).2.2.1 46 3 from sF_get)]; decide
                    have n119a : (x2).toInt = 6 → ((sF (sF sc26 46 5 z96) 46 3 (Int32.ofInt 5)).2.2.1 46 3).toInt = 2 → ((sF (sF sc26 46 5 z96) 46 3 (Int32.ofInt 5)).2.2.1 46 5).toInt ≤ 999999 := by intro h6 h2; rw [← (show (Int32.ofInt 5) = (sF (sF sc26 46 5 z96) 46 3 (Int32.ofInt 5)).2.2.1 46 3 from sF_get)] at h2; rw [← (show z96 = (sF (sF sc26 46 5 z96) 46 3 (Int32.ofInt 5)).2.2.1 46 5 from sF_ne rfl (sF_get))]; first | (exfalso; revert h2; decide) | (have a0 := h2; unfold In at a0; have a1 := i91; unfold In at a1; have a2 := i34a; unfold In at a2; have a3 := i34; unfold In at a3; have a4 := j26_4; unfold In at a4; have a5 := i108; unfold In at a5; have a6 := (in_c 5 rfl); unfold In at a6; have a7 := i96; unfold In at a7; omega)
                    have n119b : (w26_46_2).toInt ≤ (u_46_1).toInt := by have a0 := h2; unfold In at a0; have a1 := i91; unfold In at a1; have a2 := i34a; unfold In at a2; have a3 := i34; unfold In at a3; have a4 := j26_4; unfold In at a4; have a5 := i108; unfold In at a5; have a6 := (in_c 5 rfl); unfold In at a6; have a7 := i96; unfold In at a7; omega
                    have n119c : ((sF (sF sc26 46 5 z96) 46 3 (Int32.ofInt 5)).2.2.1 46 2).toInt ≤ ((sF (sF sc26 46 5 z96) 46 3 (Int32.ofInt 5)).2.2.1 46 1).toInt := by have b0 : w26_46_2 = (sF (sF sc26 46 5 z96) 46 3 (Int32.ofInt 5)).2.2.1 46 2 := sF_ne rfl (sF_ne rfl (v26_46_2)); have b1 : u_46_1 = (sF (sF sc26 46 5 z96) 46 3 (Int32.ofInt 5)).2.2.1 46 1 := sF_ne rfl (sF_ne rfl (fr_F e_46_1 hFc26 rfl)); rw [← b0, ← b1]; exact n119b
                    have n119d : (u_46_2).toInt + 1 ≤ (w26_46_2).toInt := by have a0 := h2; unfold In at a0; have a1 := i91; unfold In at a1; have a2 := i34a; unfold In at a2; have a3 := i34; unfold In at a3; have a4 := j26_4; unfold In at a4; have a5 := i108; unfold In at a5; have a6 := (in_c 5 rfl); unfold In at a6; have a7 := i96; unfold In at a7; omega
                    have n119e : (s.2.2.1 46 2).toInt + 1 ≤ ((sF (sF sc26 46 5 z96) 46 3 (Int32.ofInt 5)).2.2.1 46 2).toInt := by have b0 : w26_46_2 = (sF (sF sc26 46 5 z96) 46 3 (Int32.ofInt 5)).2.2.1 46 2 := sF_ne rfl (sF_ne rfl (v26_46_2)); first | (rw [← b0, ← e_46_2]; exact n119d) | (rw [← b0]; exact n119d)
                    exact g_return (gd rfl) rfl (hP _ _ ⟨(sF (sF sc26 46 5 z96) 46 3 (Int32.ofInt 5)), hI116, (fr_sF rfl (fr_sF rfl hFc26)), n119c, n119e, rfl, rfl, n119, n119a⟩)
              · skip
                exact zn_ne c45 (in_c 0 rfl) rfl
            · skip
              have i42x27 := r_le1 48 57 c42x27 i42x16 (in_c 57 rfl) rfl
              refine g_iconst 1 31 (gd rfl) rfl rfl ?_
              refine g_goto 35 (gd rfl) rfl ?_
              refine g_ireturn (gd rfl) rfl (nb01 (in_w 0 1 (in_c 1 rfl) rfl)) (hp42 _ _ ?_)
              show GG _ _ _ _ _ _ _ _ [.int (Int32.ofInt 1)] _ _ _
              refine g_if_eq 48 89 (gd rfl) rfl rfl (fun c45 => ?_) (fun c45 => ?_)
              · skip
                exact zn_eq c45 (in_c 1 rfl) rfl
              · skip
                refine g_iinc 51 (gd rfl) rfl rfl (Nat.le_of_ble_eq_true rfl) (fun z48 e48 => ?_)
                have i48 := in_add 1 1001 e48 j26_3 (in_c 1 rfl) rfl rfl
                refine g_iload_n 52 (gd rfl) rfl rfl ?_
                refine g_iload_n 53 (gd rfl) rfl rfl ?_
                refine g_cmp_gt 56 76 (gd rfl) rfl rfl (fun c53 => ?_) (fun c53 => ?_)
                · skip
                  have i53 := r_lt2 7 1001 c53 h2 i48 rfl
                  refine g_aload_n 77 (gd rfl) rfl rfl ?_
                  refine g_dup 78 (gd rfl) rfl rfl ?_
                  refine g_getI 81 (gd rfl) rfl rfl rfl (fun z78 e78 => ?_)
                  have q78 : w26_46_2 = z78 := (v26_46_2).trans e78.symm
                  subst q78
                  refine g_iconst 1 82 (gd rfl) rfl rfl ?_
                  refine g_iadd 83 (gd rfl) rfl (fun z82 e82 => ?_)
                  have i82 := in_add 1 1000 e82 i34 (in_c 1 rfl) rfl rfl
                  refine g_putI 86 (gd rfl) rfl rfl rfl rfl ?_
                  have hI83 := inv_sF (q := 46) (j := 2) hIc26 rfl (in_w 0 1000 i82 rfl)
                  refine g_goto 26 (gd rfl) rfl ?_
                  have i26 : In z48 0 1000 := by exact ⟨by have a0 := h2; unfold In at a0; have a1 := h1; unfold In at a1; have a2 := i34a; unfold In at a2; have a3 := i34; unfold In at a3; have a4 := j26_4; unfold In at a4; have a5 := j26_3; unfold In at a5; have a6 := i53; unfold In at a6; have a7 := t_add e48 j26_3 (in_c 1 rfl) rfl; have a8 := (in_c 1 rfl); unfold In at a8; have a9 := i82; unfold In at a9; have a10 := t_add e82 i34 (in_c 1 rfl) rfl; omega, by have a0 := h2; unfold In at a0; have a1 := h1; unfold In at a1; have a2 := i34a; unfold In at a2; have a3 := i34; unfold In at a3; have a4 := j26_4; unfold In at a4; have a5 := j26_3; unfold In at a5; have a6 := i53; unfold In at a6; have a7 := t_add e48 j26_3 (in_c 1 rfl) rfl; have a8 := (in_c 1 rfl); unfold In at a8; have a9 := i82; unfold In at a9; have a10 := t_add e82 i34 (in_c 1 rfl) rfl; omega⟩
                  have v26 : z82 = (sF sc26 46 2 z82).2.2.1 46 2 := sF_get
                  have n26 : (z82).toInt ≤ (u_46_1).toInt := by have a0 := h2; unfold In at a0; have a1 := h1; unfold In at a1; have a2 := i34a; unfold In at a2; have a3 := i34; unfold In at a3; have a4 := j26_4; unfold In at a4; have a5 := j26_3; unfold In at a5; have a6 := i26; unfold In at a6; have a7 := t_add e48 j26_3 (in_c 1 rfl) rfl; have a8 := (in_c 1 rfl); unfold In at a8; have a9 := i82; unfold In at a9; have a10 := t_add e82 i34 (in_c 1 rfl) rfl; omega
                  have n26a : (u_46_2).toInt + (x1).toInt ≤ (z82).toInt := by have a0 := h2; unfold In at a0; have a1 := h1; unfold In at a1; have a2 := i34a; unfold In at a2; have a3 := i34; unfold In at a3; have a4 := j26_4; unfold In at a4; have a5 := j26_3; unfold In at a5; have a6 := i26; unfold In at a6; have a7 := t_add e48 j26_3 (in_c 1 rfl) rfl; have a8 := (in_c 1 rfl); unfold In at a8; have a9 := i82; unfold In at a9; have a10 := t_add e82 i34 (in_c 1 rfl) rfl; omega
                  have n26b : (z48).toInt ≤ (z82).toInt := by have a0 := h2; unfold In at a0; have a1 := h1; unfold In at a1; have a2 := i34a; unfold In at a2; have a3 := i34; unfold In at a3; have a4 := j26_4; unfold In at a4; have a5 := j26_3; unfold In at a5; have a6 := i26; unfold In at a6; have a7 := t_add e48 j26_3 (in_c 1 rfl) rfl; have a8 := (in_c 1 rfl); unfold In at a8; have a9 := i82; unfold In at a9; have a10 := t_add e82 i34 (in_c 1 rfl) rfl; omega
                  have n26c : 0 ≤ (y26_4).toInt ∧ ((z48).toInt ≤ (x2).toInt → (y26_4).toInt < (10 : Int) ^ ((z48).toInt).toNat) ∧ ((x2).toInt < (z48).toInt → (y26_4).toInt < (10 : Int) ^ ((x2).toInt).toNat) := by exact ⟨g26_0.1, fun h => absurd h (by have a0 := h2; unfold In at a0; have a1 := h1; unfold In at a1; have a2 := i34a; unfold In at a2; have a3 := i34; unfold In at a3; have a4 := j26_4; unfold In at a4; have a5 := j26_3; unfold In at a5; have a6 := i26; unfold In at a6; have a7 := t_add e48 j26_3 (in_c 1 rfl) rfl; have a8 := (in_c 1 rfl); unfold In at a8; have a9 := i82; unfold In at a9; have a10 := t_add e82 i34 (in_c 1 rfl) rfl; omega), fun _ => (Int.lt_or_le (x2).toInt (y26_3).toInt).elim g26_0.2.2 (fun hh => by have e7 : y26_3.toInt = x2.toInt := (by have a0 := h2; unfold In at a0; have a1 := h1; unfold In at a1; have a2 := i34a; unfold In at a2; have a3 := i34; unfold In at a3; have a4 := j26_4; unfold In at a4; have a5 := j26_3; unfold In at a5; have a6 := i26; unfold In at a6; have a7 := t_add e48 j26_3 (in_c 1 rfl) rfl; have a8 := (in_c 1 rfl); unfold In at a8; have a9 := i82; unfold In at a9; have a10 := t_add e82 i34 (in_c 1 rfl) rfl; omega); rw [← e7]; exact g26_0.2.1 hh)⟩
                  have m26 : (u_46_1).toInt - (z82).toInt < ((k26 : Nat) : Int) := by have a0 := h2; unfold In at a0; have a1 := h1; unfold In at a1; have a2 := i34a; unfold In at a2; have a3 := i34; unfold In at a3; have a4 := j26_4; unfold In at a4; have a5 := j26_3; unfold In at a5; have a6 := i26; unfold In at a6; have a7 := t_add e48 j26_3 (in_c 1 rfl) rfl; have a8 := (in_c 1 rfl); unfold In at a8; have a9 := i82; unfold In at a9; have a10 := t_add e82 i34 (in_c 1 rfl) rfl; omega
                  exact gg_w (by omega) (gg_f (gf_cons rfl (gf_cons rfl (gf_cons rfl (gf_cons rfl (gf_cons rfl gf_nil))))) (ih26  (sF sc26 46 2 z82) z48 y26_4 z82 hI83 (fr_sF rfl hFc26) i26 (in_w 0 9999999 j26_4 rfl) v26 n26 n26a n26b n26c m26))
                · skip
                  have i53 := r_le1 1 7 c53 i48 h2 rfl
                  refine g_iload 58 (gd rfl) rfl rfl ?_
                  refine g_bipush 10 60 (gd rfl) rfl rfl ?_
                  refine g_imul 61 (gd rfl) rfl (fun z60 e60 => ?_)
                  have i60 := in_mulc 10 0 99999990 (Or.inr e60) j26_4 rfl rfl
                  refine g_aload_n 62 (gd rfl) rfl rfl ?_
                  refine g_getA (q2 := 47) 65 (gd rfl) rfl rfl rfl rfl ?_
                  refine g_aload_n 66 (gd rfl) rfl rfl ?_
                  refine g_getI 69 (gd rfl) rfl rfl rfl (fun z66 e66 => ?_)
                  have q66 : w26_46_2 = z66 := (v26_46_2).trans e66.symm
                  subst q66
                  refine g_caload 70 (gd rfl) rfl (n := 1000) rfl (in_ix i34 rfl) (fun z69 e69 => ?_)
                  have q69 : z42x13 = z69 := (e42x13).trans e69.symm
                  subst q69
                  refine g_bipush 48 72 (gd rfl) rfl rfl ?_
                  refine g_isub 73 (gd rfl) rfl (fun z72 e72 => ?_)
                  have i72 := in_sub 0 9 e72 i42x27 (in_c 48 rfl) rfl rfl
                  refine g_iadd 74 (gd rfl) rfl (fun z73 e73 => ?_)
                  have i73 := in_add 0 99999999 e73 i60 i72 rfl rfl
                  have hq := dg_st (a := y26_4.toInt) (d := z72.toInt) (n := y26_3.toInt) (by have a0 := h2; unfold In at a0; have a1 := h1; unfold In at a1; have a2 := i34a; unfold In at a2; have a3 := i34; unfold In at a3; have a4 := j26_4; unfold In at a4; have a5 := j26_3; unfold In at a5; have a6 := i53; unfold In at a6; have a7 := t_add e48 j26_3 (in_c 1 rfl) rfl; have a8 := (in_c 1 rfl); unfold In at a8; have a9 := i73; unfold In at a9; have a10 := t_add e73 i60 i72 rfl; have a11 := i72; unfold In at a11; have a12 := t_sub e72 i42x27 (in_c 48 rfl) rfl; have a13 := (in_c 48 rfl); unfold In at a13; have a14 := i42x27; unfold In at a14; have a15 := i60; unfold In at a15; have a16 := (t_mulc 10 (Or.inr e60) j26_4 rfl).1; omega) g26_0.1 (g26_0.2.1 (by have a0 := h2; unfold In at a0; have a1 := h1; unfold In at a1; have a2 := i34a; unfold In at a2; have a3 := i34; unfold In at a3; have a4 := j26_4; unfold In at a4; have a5 := j26_3; unfold In at a5; have a6 := i53; unfold In at a6; have a7 := t_add e48 j26_3 (in_c 1 rfl) rfl; have a8 := (in_c 1 rfl); unfold In at a8; have a9 := i73; unfold In at a9; have a10 := t_add e73 i60 i72 rfl; have a11 := i72; unfold In at a11; have a12 := t_sub e72 i42x27 (in_c 48 rfl) rfl; have a13 := (in_c 48 rfl); unfold In at a13; have a14 := i42x27; unfold In at a14; have a15 := i60; unfold In at a15; have a16 := (t_mulc 10 (Or.inr e60) j26_4 rfl).1; omega)) (by have a0 := h2; unfold In at a0; have a1 := h1; unfold In at a1; have a2 := i34a; unfold In at a2; have a3 := i34; unfold In at a3; have a4 := j26_4; unfold In at a4; have a5 := j26_3; unfold In at a5; have a6 := i53; unfold In at a6; have a7 := t_add e48 j26_3 (in_c 1 rfl) rfl; have a8 := (in_c 1 rfl); unfold In at a8; have a9 := i73; unfold In at a9; have a10 := t_add e73 i60 i72 rfl; have a11 := i72; unfold In at a11; have a12 := t_sub e72 i42x27 (in_c 48 rfl) rfl; have a13 := (in_c 48 rfl); unfold In at a13; have a14 := i42x27; unfold In at a14; have a15 := i60; unfold In at a15; have a16 := (t_mulc 10 (Or.inr e60) j26_4 rfl).1; omega)
                  have iq : In z73 0 9999999 := (by have e7 : z73.toInt = y26_4.toInt * 10 + z72.toInt := (by have a0 := h2; unfold In at a0; have a1 := h1; unfold In at a1; have a2 := i34a; unfold In at a2; have a3 := i34; unfold In at a3; have a4 := j26_4; unfold In at a4; have a5 := j26_3; unfold In at a5; have a6 := i53; unfold In at a6; have a7 := t_add e48 j26_3 (in_c 1 rfl) rfl; have a8 := (in_c 1 rfl); unfold In at a8; have a9 := i73; unfold In at a9; have a10 := t_add e73 i60 i72 rfl; have a11 := i72; unfold In at a11; have a12 := t_sub e72 i42x27 (in_c 48 rfl) rfl; have a13 := (in_c 48 rfl); unfold In at a13; have a14 := i42x27; unfold In at a14; have a15 := i60; unfold In at a15; have a16 := (t_mulc 10 (Or.inr e60) j26_4 rfl).1; omega); have h7 := dg_7 (n := y26_3.toInt + 1) (by have a0 := h2; unfold In at a0; have a1 := h1; unfold In at a1; have a2 := i34a; unfold In at a2; have a3 := i34; unfold In at a3; have a4 := j26_4; unfold In at a4; have a5 := j26_3; unfold In at a5; have a6 := i53; unfold In at a6; have a7 := t_add e48 j26_3 (in_c 1 rfl) rfl; have a8 := (in_c 1 rfl); unfold In at a8; have a9 := i73; unfold In at a9; have a10 := t_add e73 i60 i72 rfl; have a11 := i72; unfold In at a11; have a12 := t_sub e72 i42x27 (in_c 48 rfl) rfl; have a13 := (in_c 48 rfl); unfold In at a13; have a14 := i42x27; unfold In at a14; have a15 := i60; unfold In at a15; have a16 := (t_mulc 10 (Or.inr e60) j26_4 rfl).1; omega) (by have a0 := h2; unfold In at a0; have a1 := h1; unfold In at a1; have a2 := i34a; unfold In at a2; have a3 := i34; unfold In at a3; have a4 := j26_4; unfold In at a4; have a5 := j26_3; unfold In at a5; have a6 := i53; unfold In at a6; have a7 := t_add e48 j26_3 (in_c 1 rfl) rfl; have a8 := (in_c 1 rfl); unfold In at a8; have a9 := i73; unfold In at a9; have a10 := t_add e73 i60 i72 rfl; have a11 := i72; unfold In at a11; have a12 := t_sub e72 i42x27 (in_c 48 rfl) rfl; have a13 := (in_c 48 rfl); unfold In at a13; have a14 := i42x27; unfold In at a14; have a15 := i60; unfold In at a15; have a16 := (t_mulc 10 (Or.inr e60) j26_4 rfl).1; omega) hq.2; exact ⟨by rw [e7]; exact hq.1, by rw [e7]; exact h7⟩)
                  have i74 : In z73 0 9999999 := by exact iq
                  refine g_istore 76 (gd rfl) rfl (Nat.le_of_ble_eq_true rfl) ?_
                  refine g_aload_n 77 (gd rfl) rfl rfl ?_
                  refine g_dup 78 (gd rfl) rfl rfl ?_
                  refine g_getI 81 (gd rfl) rfl rfl rfl (fun z78 e78 => ?_)
                  have q78 : w26_46_2 = z78 := (v26_46_2).trans e78.symm
                  subst q78
                  refine g_iconst 1 82 (gd rfl) rfl rfl ?_
                  refine g_iadd 83 (gd rfl) rfl (fun z82 e82 => ?_)
                  have i82 := in_add 1 1000 e82 i34 (in_c 1 rfl) rfl rfl
                  refine g_putI 86 (gd rfl) rfl rfl rfl rfl ?_
                  have hI83 := inv_sF (q := 46) (j := 2) hIc26 rfl (in_w 0 1000 i82 rfl)
                  refine g_goto 26 (gd rfl) rfl ?_
                  have v26 : z82 = (sF sc26 46 2 z82).2.2.1 46 2 := sF_get
                  have n26 : (z82).toInt ≤ (u_46_1).toInt := by have a0 := h2; unfold In at a0; have a1 := h1; unfold In at a1; have a2 := i34a; unfold In at a2; have a3 := i34; unfold In at a3; have a4 := j26_4; unfold In at a4; have a5 := j26_3; unfold In at a5; have a6 := i74; unfold In at a6; have a7 := t_add e73 i60 i72 rfl; have a8 := i72; unfold In at a8; have a9 := t_sub e72 i42x27 (in_c 48 rfl) rfl; have a10 := (in_c 48 rfl); unfold In at a10; have a11 := i42x27; unfold In at a11; have a12 := i60; unfold In at a12; have a13 := (t_mulc 10 (Or.inr e60) j26_4 rfl).1; have a14 := i53; unfold In at a14; have a15 := t_add e48 j26_3 (in_c 1 rfl) rfl; have a16 := (in_c 1 rfl); unfold In at a16; have a17 := i82; unfold In at a17; have a18 := t_add e82 i34 (in_c 1 rfl) rfl; omega
                  have n26a : (u_46_2).toInt + (x1).toInt ≤ (z82).toInt := by have a0 := h2; unfold In at a0; have a1 := h1; unfold In at a1; have a2 := i34a; unfold In at a2; have a3 := i34; unfold In at a3; have a4 := j26_4; unfold In at a4; have a5 := j26_3; unfold In at a5; have a6 := i74; unfold In at a6; have a7 := t_add e73 i60 i72 rfl; have a8 := i72; unfold In at a8; have a9 := t_sub e72 i42x27 (in_c 48 rfl) rfl; have a10 := (in_c 48 rfl); unfold In at a10; have a11 := i42x27; unfold In at a11; have a12 := i60; unfold In at a12; have a13 := (t_mulc 10 (Or.inr e60) j26_4 rfl).1; have a14 := i53; unfold In at a14; have a15 := t_add e48 j26_3 (in_c 1 rfl) rfl; have a16 := (in_c 1 rfl); unfold In at a16; have a17 := i82; unfold In at a17; have a18 := t_add e82 i34 (in_c 1 rfl) rfl; omega
                  have n26b : (z48).toInt ≤ (z82).toInt := by have a0 := h2; unfold In at a0; have a1 := h1; unfold In at a1; have a2 := i34a; unfold In at a2; have a3 := i34; unfold In at a3; have a4 := j26_4; unfold In at a4; have a5 := j26_3; unfold In at a5; have a6 := i74; unfold In at a6; have a7 := t_add e73 i60 i72 rfl; have a8 := i72; unfold In at a8; have a9 := t_sub e72 i42x27 (in_c 48 rfl) rfl; have a10 := (in_c 48 rfl); unfold In at a10; have a11 := i42x27; unfold In at a11; have a12 := i60; unfold In at a12; have a13 := (t_mulc 10 (Or.inr e60) j26_4 rfl).1; have a14 := i53; unfold In at a14; have a15 := t_add e48 j26_3 (in_c 1 rfl) rfl; have a16 := (in_c 1 rfl); unfold In at a16; have a17 := i82; unfold In at a17; have a18 := t_add e82 i34 (in_c 1 rfl) rfl; omega
                  have n26c : 0 ≤ (z73).toInt ∧ ((z48).toInt ≤ (x2).toInt → (z73).toInt < (10 : Int) ^ ((z48).toInt).toNat) ∧ ((x2).toInt < (z48).toInt → (z73).toInt < (10 : Int) ^ ((x2).toInt).toNat) := by have e7 : z73.toInt = y26_4.toInt * 10 + z72.toInt := (by have a0 := h2; unfold In at a0; have a1 := h1; unfold In at a1; have a2 := i34a; unfold In at a2; have a3 := i34; unfold In at a3; have a4 := j26_4; unfold In at a4; have a5 := j26_3; unfold In at a5; have a6 := i74; unfold In at a6; have a7 := t_add e73 i60 i72 rfl; have a8 := i72; unfold In at a8; have a9 := t_sub e72 i42x27 (in_c 48 rfl) rfl; have a10 := (in_c 48 rfl); unfold In at a10; have a11 := i42x27; unfold In at a11; have a12 := i60; unfold In at a12; have a13 := (t_mulc 10 (Or.inr e60) j26_4 rfl).1; have a14 := i53; unfold In at a14; have a15 := t_add e48 j26_3 (in_c 1 rfl) rfl; have a16 := (in_c 1 rfl); unfold In at a16; have a17 := i82; unfold In at a17; have a18 := t_add e82 i34 (in_c 1 rfl) rfl; omega); have e8 : z48.toInt = y26_3.toInt + 1 := (by have a0 := h2; unfold In at a0; have a1 := h1; unfold In at a1; have a2 := i34a; unfold In at a2; have a3 := i34; unfold In at a3; have a4 := j26_4; unfold In at a4; have a5 := j26_3; unfold In at a5; have a6 := i74; unfold In at a6; have a7 := t_add e73 i60 i72 rfl; have a8 := i72; unfold In at a8; have a9 := t_sub e72 i42x27 (in_c 48 rfl) rfl; have a10 := (in_c 48 rfl); unfold In at a10; have a11 := i42x27; unfold In at a11; have a12 := i60; unfold In at a12; have a13 := (t_mulc 10 (Or.inr e60) j26_4 rfl).1; have a14 := i53; unfold In at a14; have a15 := t_add e48 j26_3 (in_c 1 rfl) rfl; have a16 := (in_c 1 rfl); unfold In at a16; have a17 := i82; unfold In at a17; have a18 := t_add e82 i34 (in_c 1 rfl) rfl; omega); exact ⟨by rw [e7]; exact hq.1, fun _ => by rw [e7, e8]; exact hq.2, fun h => absurd h (by have a0 := h2; unfold In at a0; have a1 := h1; unfold In at a1; have a2 := i34a; unfold In at a2; have a3 := i34; unfold In at a3; have a4 := j26_4; unfold In at a4; have a5 := j26_3; unfold In at a5; have a6 := i74; unfold In at a6; have a7 := t_add e73 i60 i72 rfl; have a8 := i72; unfold In at a8; have a9 := t_sub e72 i42x27 (in_c 48 rfl) rfl; have a10 := (in_c 48 rfl); unfold In at a10; have a11 := i42x27; unfold In at a11; have a12 := i60; unfold In at a12; have a13 := (t_mulc 10 (Or.inr e60) j26_4 rfl).1; have a14 := i53; unfold In at a14; have a15 := t_add e48 j26_3 (in_c 1 rfl) rfl; have a16 := (in_c 1 rfl); unfold In at a16; have a17 := i82; unfold In at a17; have a18 := t_add e82 i34 (in_c 1 rfl) rfl; omega)⟩
                  have m26 : (u_46_1).toInt - (z82).toInt < ((k26 : Nat) : Int) := by have a0 := h2; unfold In at a0; have a1 := h1; unfold In at a1; have a2 := i34a; unfold In at a2; have a3 := i34; unfold In at a3; have a4 := j26_4; unfold In at a4; have a5 := j26_3; unfold In at a5; have a6 := i74; unfold In at a6; have a7 := t_add e73 i60 i72 rfl; have a8 := i72; unfold In at a8; have a9 := t_sub e72 i42x27 (in_c 48 rfl) rfl; have a10 := (in_c 48 rfl); unfold In at a10; have a11 := i42x27; unfold In at a11; have a12 := i60; unfold In at a12; have a13 := (t_mulc 10 (Or.inr e60) j26_4 rfl).1; have a14 := i53; unfold In at a14; have a15 := t_add e48 j26_3 (in_c 1 rfl) rfl; have a16 := (in_c 1 rfl); unfold In at a16; have a17 := i82; unfold In at a17; have a18 := t_add e82 i34 (in_c 1 rfl) rfl; omega
                  exact gg_w (by omega) (gg_f (gf_cons rfl (gf_cons rfl (gf_cons rfl (gf_cons rfl (gf_cons rfl gf_nil))))) (ih26  (sF sc26 46 2 z82) z48 z73 z82 hI83 (fr_sF rfl hFc26) (in_w 0 1000 i53 rfl) (in_w 0 9999999 i74 rfl) v26 n26 n26a n26b n26c m26))
  refine g_enter2 (k := 173) (N := 901801) (by omega) rfl (Nat.le_of_ble_eq_true rfl) ?_
  refine g_iconst 0 1 (gd rfl) rfl rfl ?_
  refine g_istore_n 2 (gd rfl) rfl (Nat.le_of_ble_eq_true rfl) ?_
  refine g_iconst 0 3 (gd rfl) rfl rfl ?_
  refine g_istore 5 (gd rfl) rfl (Nat.le_of_ble_eq_true rfl) ?_
  refine g_aload_n 6 (gd rfl) rfl rfl ?_
  refine g_iload_n 7 (gd rfl) rfl rfl ?_
  refine g_if_eq 10 19 (gd rfl) rfl rfl (fun c7 => ?_) (fun c7 => ?_)
  · skip
    have i7 := z_eq 0 0 c7 h1 rfl
    refine g_aload_n 20 (gd rfl) rfl rfl ?_
    refine g_getI 23 (gd rfl) rfl rfl rfl (fun z20 e20 => ?_)
    have q20 : u_46_2 = z20 := (e_46_2).trans e20.symm
    subst q20
    refine g_putI 26 (gd rfl) rfl rfl rfl rfl ?_
    have hI23 := inv_sF (q := 46) (j := 2) hI rfl (in_w 0 1000 (inv_F hI 0 1000 rfl e_46_2) rfl)
    have v26 : u_46_2 = (sF s 46 2 u_46_2).2.2.1 46 2 := sF_get
    have n26 : (u_46_2).toInt ≤ (u_46_1).toInt := by have a0 := (inv_F hI 0 1000 rfl e_46_1); unfold In at a0; have a1 := (inv_F hI 0 1000 rfl e_46_2); unfold In at a1; have a2 := h2; unfold In at a2; have a3 := i7; unfold In at a3; have a4 := (in_c 0 rfl); unfold In at a4; omega
    have n26a : (u_46_2).toInt + (x1).toInt ≤ (u_46_2).toInt := by have a0 := (inv_F hI 0 1000 rfl e_46_1); unfold In at a0; have a1 := (inv_F hI 0 1000 rfl e_46_2); unfold In at a1; have a2 := h2; unfold In at a2; have a3 := i7; unfold In at a3; have a4 := (in_c 0 rfl); unfold In at a4; omega
    have n26b : ((Int32.ofInt 0)).toInt ≤ (u_46_2).toInt := by have a0 := (inv_F hI 0 1000 rfl e_46_1); unfold In at a0; have a1 := (inv_F hI 0 1000 rfl e_46_2); unfold In at a1; have a2 := h2; unfold In at a2; have a3 := i7; unfold In at a3; have a4 := (in_c 0 rfl); unfold In at a4; omega
    have n26c : 0 ≤ ((Int32.ofInt 0)).toInt ∧ (((Int32.ofInt 0)).toInt ≤ (x2).toInt → ((Int32.ofInt 0)).toInt < (10 : Int) ^ (((Int32.ofInt 0)).toInt).toNat) ∧ ((x2).toInt < ((Int32.ofInt 0)).toInt → ((Int32.ofInt 0)).toInt < (10 : Int) ^ ((x2).toInt).toNat) := by exact ⟨by decide, fun _ => by decide, fun h => absurd h (by have h9 : (Int32.ofInt 0).toInt = 0 := rfl; have a0 := (inv_F hI 0 1000 rfl e_46_1); unfold In at a0; have a1 := (inv_F hI 0 1000 rfl e_46_2); unfold In at a1; have a2 := h2; unfold In at a2; have a3 := i7; unfold In at a3; have a4 := (in_c 0 rfl); unfold In at a4; omega)⟩
    have m26 : (u_46_1).toInt - (u_46_2).toInt < ((1001 : Nat) : Int) := by have a0 := (inv_F hI 0 1000 rfl e_46_1); unfold In at a0; have a1 := (inv_F hI 0 1000 rfl e_46_2); unfold In at a1; have a2 := h2; unfold In at a2; have a3 := i7; unfold In at a3; have a4 := (in_c 0 rfl); unfold In at a4; omega
    exact gg_w (by omega) (gg_f (gf_cons rfl (gf_cons rfl (gf_cons rfl (gf_cons rfl (gf_cons rfl gf_nil))))) (ct26 1001 (sF s 46 2 u_46_2) (Int32.ofInt 0) (Int32.ofInt 0) u_46_2 hI23 (fr_sF rfl fr_rf) (in_w 0 1000 (in_c 0 rfl) rfl) (in_w 0 9999999 (in_c 0 rfl) rfl) v26 n26 n26a n26b n26c m26))
  · skip
    have i7 := z_ne 1 1 c7 h1 rfl
    refine g_aload_n 11 (gd rfl) rfl rfl ?_
    refine g_getI 14 (gd rfl) rfl rfl rfl (fun z11 e11 => ?_)
    have q11 : u_46_2 = z11 := (e_46_2).trans e11.symm
    subst q11
    refine g_iconst 1 15 (gd rfl) rfl rfl ?_
    refine g_iadd 16 (gd rfl) rfl (fun z15 e15 => ?_)
    have i15 := in_add 1 1001 e15 (inv_F hI 0 1000 rfl e_46_2) (in_c 1 rfl) rfl rfl
    refine g_goto 23 (gd rfl) rfl ?_
    have i23 : In z15 0 1000 := by have a0 := (inv_F hI 0 1000 rfl e_46_1); unfold In at a0; have a1 := (inv_F hI 0 1000 rfl e_46_2); unfold In at a1; have a2 := h2; unfold In at a2; have a3 := i7; unfold In at a3; have a4 := (in_c 0 rfl); unfold In at a4; have a5 := i15; unfold In at a5; have a6 := t_add e15 (inv_F hI 0 1000 rfl e_46_2) (in_c 1 rfl) rfl; have a7 := (in_c 1 rfl); unfold In at a7; exact ⟨by omega, by omega⟩
    refine g_putI 26 (gd rfl) rfl rfl rfl rfl ?_
    have hI23 := inv_sF (q := 46) (j := 2) hI rfl (in_w 0 1000 i23 rfl)
    have v26 : z15 = (sF s 46 2 z15).2.2.1 46 2 := sF_get
    have n26 : (z15).toInt ≤ (u_46_1).toInt := by have a0 := (inv_F hI 0 1000 rfl e_46_1); unfold In at a0; have a1 := (inv_F hI 0 1000 rfl e_46_2); unfold In at a1; have a2 := h2; unfold In at a2; have a3 := i7; unfold In at a3; have a4 := (in_c 0 rfl); unfold In at a4; have a5 := i23; unfold In at a5; have a6 := t_add e15 (inv_F hI 0 1000 rfl e_46_2) (in_c 1 rfl) rfl; have a7 := (in_c 1 rfl); unfold In at a7; omega
    have n26a : (u_46_2).toInt + (x1).toInt ≤ (z15).toInt := by have a0 := (inv_F hI 0 1000 rfl e_46_1); unfold In at a0; have a1 := (inv_F hI 0 1000 rfl e_46_2); unfold In at a1; have a2 := h2; unfold In at a2; have a3 := i7; unfold In at a3; have a4 := (in_c 0 rfl); unfold In at a4; have a5 := i23; unfold In at a5; have a6 := t_add e15 (inv_F hI 0 1000 rfl e_46_2) (in_c 1 rfl) rfl; have a7 := (in_c 1 rfl); unfold In at a7; omega
    have n26b : ((Int32.ofInt 0)).toInt ≤ (z15).toInt := by have a0 := (inv_F hI 0 1000 rfl e_46_1); unfold In at a0; have a1 := (inv_F hI 0 1000 rfl e_46_2); unfold In at a1; have a2 := h2; unfold In at a2; have a3 := i7; unfold In at a3; have a4 := (in_c 0 rfl); unfold In at a4; have a5 := i23; unfold In at a5; have a6 := t_add e15 (inv_F hI 0 1000 rfl e_46_2) (in_c 1 rfl) rfl; have a7 := (in_c 1 rfl); unfold In at a7; omega
    have n26c : 0 ≤ ((Int32.ofInt 0)).toInt ∧ (((Int32.ofInt 0)).toInt ≤ (x2).toInt → ((Int32.ofInt 0)).toInt < (10 : Int) ^ (((Int32.ofInt 0)).toInt).toNat) ∧ ((x2).toInt < ((Int32.ofInt 0)).toInt → ((Int32.ofInt 0)).toInt < (10 : Int) ^ ((x2).toInt).toNat) := by exact ⟨by decide, fun _ => by decide, fun h => absurd h (by have h9 : (Int32.ofInt 0).toInt = 0 := rfl; have a0 := (inv_F hI 0 1000 rfl e_46_1); unfold In at a0; have a1 := (inv_F hI 0 1000 rfl e_46_2); unfold In at a1; have a2 := h2; unfold In at a2; have a3 := i7; unfold In at a3; have a4 := (in_c 0 rfl); unfold In at a4; have a5 := i23; unfold In at a5; have a6 := t_add e15 (inv_F hI 0 1000 rfl e_46_2) (in_c 1 rfl) rfl; have a7 := (in_c 1 rfl); unfold In at a7; omega)⟩
    have m26 : (u_46_1).toInt - (z15).toInt < ((1001 : Nat) : Int) := by have a0 := (inv_F hI 0 1000 rfl e_46_1); unfold In at a0; have a1 := (inv_F hI 0 1000 rfl e_46_2); unfold In at a1; have a2 := h2; unfold In at a2; have a3 := i7; unfold In at a3; have a4 := (in_c 0 rfl); unfold In at a4; have a5 := i23; unfold In at a5; have a6 := t_add e15 (inv_F hI 0 1000 rfl e_46_2) (in_c 1 rfl) rfl; have a7 := (in_c 1 rfl); unfold In at a7; omega
    exact gg_w (by omega) (gg_f (gf_cons rfl (gf_cons rfl (gf_cons rfl (gf_cons rfl (gf_cons rfl gf_nil))))) (ct26 1001 (sF s 46 2 z15) (Int32.ofInt 0) (Int32.ofInt 0) z15 hI23 (fr_sF rfl fr_rf) (in_w 0 1000 (in_c 0 rfl) rfl) (in_w 0 9999999 (in_c 0 rfl) rfl) v26 n26 n26a n26b n26c m26))

def fm_57_102 : FM := ([104], [], [(102, 4)], [])
/-- GraphHouse$Engine.emit -/
theorem k_57_102 {Z : AmZ} {A : Nat → Nat} {s : GS} {ex : va_W} {d : Nat} {X : AmX} {x1 : Int32} {u_102_4 : Int32} (hd : 1 ≤ d) (hI : Inv s) (e_102_4 : u_102_4 = s.2.2.1 102 4) (p_0 : (u_102_4).toInt ≤ 119) : GC Z d 57 [.ref (A 102), .int x1] (WW Z A s ++ ex) 0 0 (fun v u => ∃ t : GS, Inv t ∧ Fr fm_57_102 s t ∧ ((t.2.2.1 102 4).toInt = (s.2.2.1 102 4).toInt + 1) ∧ ∃ z : Int32, v = some (.int z) ∧ u = WW Z A t ++ ex ∧ In z 1 1 ∧ (t.1 104 = upd (s.1 104) (s.2.2.1 102 4).toNatClampNeg x1)) X := by
  intro post xp hP hX
  refine g_enter2 (k := 57) (N := 900) (by omega) rfl (Nat.le_of_ble_eq_true rfl) ?_
  refine g_aload_n 1 (gd rfl) rfl rfl ?_
  refine g_getI 4 (gd rfl) rfl rfl rfl (fun z1 e1 => ?_)
  have q1 : u_102_4 = z1 := (e_102_4).trans e1.symm
  subst q1
  refine g_bipush 120 6 (gd rfl) rfl rfl ?_
  refine g_cmp_ge 9 29 (gd rfl) rfl rfl (fun c6 => ?_) (fun c6 => ?_)
  · skip
    have i6 := r_le2 120 120 c6 (in_c 120 rfl) (inv_F hI 0 120 rfl e_102_4) rfl
    exfalso
    have a0 := i6; unfold In at a0; omega
  · skip
    have i6 := r_lt1 0 119 c6 (inv_F hI 0 120 rfl e_102_4) (in_c 120 rfl) rfl
    refine g_aload_n 10 (gd rfl) rfl rfl ?_
    refine g_getA (q2 := 104) 13 (gd rfl) rfl rfl rfl rfl ?_
    refine g_aload_n 14 (gd rfl) rfl rfl ?_
    refine g_getI 17 (gd rfl) rfl rfl rfl (fun z14 e14 => ?_)
    have q14 : u_102_4 = z14 := (e_102_4).trans e14.symm
    subst q14
    refine g_iload_n 18 (gd rfl) rfl rfl ?_
    refine g_iastore 19 (gd rfl) rfl (n := 120) rfl (in_ix i6 rfl) ?_
    have hI18 := inv_sI (q := 104) (j := u_102_4.toNatClampNeg) hI rfl (in_w (-2147483648) 2147483647 (i_rng x1) rfl)
    refine g_aload_n 20 (gd rfl) rfl rfl ?_
    refine g_dup 21 (gd rfl) rfl rfl ?_
    refine g_getI 24 (gd rfl) rfl rfl rfl (fun z21 e21 => ?_)
    have q21 : u_102_4 = z21 := (sI_F (e_102_4)).trans e21.symm
    subst q21
    refine g_iconst 1 25 (gd rfl) rfl rfl ?_
    refine g_iadd 26 (gd rfl) rfl (fun z25 e25 => ?_)
    have i25 := in_add 1 120 e25 i6 (in_c 1 rfl) rfl rfl
    refine g_putI 29 (gd rfl) rfl rfl rfl rfl ?_
    have hI26 := inv_sF (q := 102) (j := 4) hI18 rfl (in_w 0 120 i25 rfl)
    refine g_iconst 1 30 (gd rfl) rfl rfl ?_
    have n30 : (sF (sI s 104 u_102_4.toNatClampNeg x1) 102 4 z25).1 104 = upd (s.1 104) (s.2.2.1 102 4).toNatClampNeg x1 := by rw [← e_102_4]; simp [sI, sF]
    have n30a : (z25).toInt = (u_102_4).toInt + 1 := by have a0 := i6; unfold In at a0; have a1 := i25; unfold In at a1; have a2 := t_add e25 i6 (in_c 1 rfl) rfl; have a3 := (in_c 1 rfl); unfold In at a3; omega
    have n30b : ((sF (sI s 104 u_102_4.toNatClampNeg x1) 102 4 z25).2.2.1 102 4).toInt = (s.2.2.1 102 4).toInt + 1 := by have b0 : z25 = (sF (sI s 104 u_102_4.toNatClampNeg x1) 102 4 z25).2.2.1 102 4 := sF_get; first | (rw [← b0, ← e_102_4]; exact n30a) | (rw [← b0]; exact n30a)
    exact g_ireturn (gd rfl) rfl (nb01 (in_w 0 1 (in_c 1 rfl) rfl)) (hP _ _ ⟨(sF (sI s 104 u_102_4.toNatClampNeg x1) 102 4 z25), hI26, (fr_sF rfl (fr_sI rfl fr_rf)), n30b, (Int32.ofInt 1), rfl, rfl, in_w 1 1 (in_c 1 rfl) rfl, n30⟩)

def fm_105_2 : FM := ([4], [], [(2, 2), (2, 3)], [])
/-- GraphHouse$Graph.dropAt -/
theorem k_105_2 {Z : AmZ} {A : Nat → Nat} {s : GS} {ex : va_W} {d : Nat} {X : AmX} {x1 : Int32} (hd : 1 ≤ d) (hI : Rng s) (h1 : In x1 0 159) : GC Z d 105 [.ref (A 2), .int x1] (WW Z A s ++ ex) 0 0 (fun v u => ∃ t : GS, Rng t ∧ Fr fm_105_2 s t ∧ v = none ∧ u = WW Z A t ++ ex ∧ (t.1 4 = upd (s.1 4) (x1).toNatClampNeg (Int32.ofInt (-1)))) X := by
  intro post xp hP hX
  have ct17 : ∀ (k17 : Nat) (sc17 : GS) (w17_2_3 : Int32), Rng sc17 → Fr fm_105_2 s sc17 → (w17_2_3 = sc17.2.2.1 2 3) → (sc17.1 4 = upd (s.1 4) (x1).toNatClampNeg (Int32.ofInt (-1))) → (w17_2_3).toInt < (k17 : Int) → GG Z (d - 1) 105 post (gx xp) (1 + k17 * 900) 17 (fun j => xlook j [(0, .ref (A 2)), (1, .int x1)]) [] (WW Z A sc17 ++ ex) 0 0 := by
    intro k17
    induction k17 with
    | zero => intro sc17 w17_2_3 hIc17 hFc17 v17_2_3 g17_0 mm17; exfalso; have a0 := h1; unfold In at a0; have a1 := (rng_F hIc17 0 160 rfl v17_2_3); unfold In at a1; omega
    | succ k17 ih17 =>
      intro sc17 w17_2_3 hIc17 hFc17 v17_2_3 g17_0 mm17
      refine gg_w (M := 1 + k17 * 900 + 900) (by omega) ?_
      refine g_aload_n 18 (gd rfl) rfl rfl ?_
      refine g_getI 21 (gd rfl) rfl rfl rfl (fun z18 e18 => ?_)
      have q18 : w17_2_3 = z18 := (v17_2_3).trans e18.symm
      subst q18
      refine g_if_le 24 52 (gd rfl) rfl rfl (fun c21 => ?_) (fun c21 => ?_)
      · skip
        have i21 := z_le 0 0 c21 (rng_F hIc17 0 160 rfl v17_2_3) rfl
        have n52 : sc17.1 4 = upd (s.1 4) (x1).toNatClampNeg (Int32.ofInt (-1)) := by exact g17_0
        exact g_return (gd rfl) rfl (hP _ _ ⟨sc17, hIc17, hFc17, rfl, rfl, n52⟩)
      · skip
        have i21 := z_gt 1 160 c21 (rng_F hIc17 0 160 rfl v17_2_3) rfl
        refine g_aload_n 25 (gd rfl) rfl rfl ?_
        refine g_getA (q2 := 4) 28 (gd rfl) rfl rfl rfl rfl ?_
        refine g_aload_n 29 (gd rfl) rfl rfl ?_
        refine g_getI 32 (gd rfl) rfl rfl rfl (fun z29 e29 => ?_)
        have q29 : w17_2_3 = z29 := (v17_2_3).trans e29.symm
        subst q29
        refine g_iconst 1 33 (gd rfl) rfl rfl ?_
        refine g_isub 34 (gd rfl) rfl (fun z33 e33 => ?_)
        have i33 := in_sub 0 159 e33 i21 (in_c 1 rfl) rfl rfl
        refine g_iaload 35 (gd rfl) rfl (n := 160) rfl (in_ix i33 rfl) (fun z34 e34 => ?_)
        have i34 := rng_I hIc17 (n := 160) (t := 0) (-1) 31 rfl (in_ix i33 rfl) rfl e34
        refine g_iconst (-1) 36 (gd rfl) rfl rfl ?_
        refine g_cmp_ne 39 52 (gd rfl) rfl rfl (fun c36 => ?_) (fun c36 => ?_)
        · skip
          have i36 := r_ne1 0 31 c36 i34 (in_c (-1) rfl) rfl
          have n52 : sc17.1 4 = upd (s.1 4) (x1).toNatClampNeg (Int32.ofInt (-1)) := by exact g17_0
          exact g_return (gd rfl) rfl (hP _ _ ⟨sc17, hIc17, hFc17, rfl, rfl, n52⟩)
        · skip
          have i36 := r_eq1 (-1) (-1) c36 i34 (in_c (-1) rfl) rfl
          refine g_aload_n 40 (gd rfl) rfl rfl ?_
          refine g_dup 41 (gd rfl) rfl rfl ?_
          refine g_getI 44 (gd rfl) rfl rfl rfl (fun z41 e41 => ?_)
          have q41 : w17_2_3 = z41 := (v17_2_3).trans e41.symm
          subst q41
          refine g_iconst 1 45 (gd rfl) rfl rfl ?_
          refine g_isub 46 (gd rfl) rfl (fun z45 e45 => ?_)
          have i45 := in_sub 0 159 e45 i21 (in_c 1 rfl) rfl rfl
          refine g_putI 49 (gd rfl) rfl rfl rfl rfl ?_
          have hI46 := rng_sF (q := 2) (j := 3) hIc17 rfl (in_w 0 160 i45 rfl)
          refine g_goto 17 (gd rfl) rfl ?_
          have v17 : z45 = (sF sc17 2 3 z45).2.2.1 2 3 := sF_get
          have n17 : (sF sc17 2 3 z45).1 4 = upd (s.1 4) (x1).toNatClampNeg (Int32.ofInt (-1)) := by exact g17_0
          have m17 : (z45).toInt < ((k17 : Nat) : Int) := by have a0 := h1; unfold In at a0; have a1 := i21; unfold In at a1; have a2 := i45; unfold In at a2; have a3 := t_sub e45 i21 (in_c 1 rfl) rfl; have a4 := (in_c 1 rfl); unfold In at a4; have a5 := i33; unfold In at a5; have a6 := t_sub e33 i21 (in_c 1 rfl) rfl; omega
          exact gg_w (by omega) (gg_f (gf_cons rfl (gf_cons rfl gf_nil)) (ih17  (sF sc17 2 3 z45) z45 hI46 (fr_sF rfl hFc17) v17 n17 m17))
  refine g_enter2 (k := 105) (N := 145801) (by omega) rfl (Nat.le_of_ble_eq_true rfl) ?_
  refine g_aload_n 1 (gd rfl) rfl rfl ?_
  refine g_getA (q2 := 4) 4 (gd rfl) rfl rfl rfl rfl ?_
  refine g_iload_n 5 (gd rfl) rfl rfl ?_
  refine g_iconst (-1) 6 (gd rfl) rfl rfl ?_
  refine g_iastore 7 (gd rfl) rfl (n := 160) rfl (in_ix h1 rfl) ?_
  have hI6 := rng_sI (q := 4) (j := x1.toNatClampNeg) hI rfl (in_w (-1) 31 (in_c (-1) rfl) rfl)
  refine g_aload_n 8 (gd rfl) rfl rfl ?_
  refine g_dup 9 (gd rfl) rfl rfl ?_
  refine g_getI 12 (gd rfl) rfl rfl rfl (fun z9 e9 => ?_)
  refine g_iconst 1 13 (gd rfl) rfl rfl ?_
  refine g_isub 14 (gd rfl) rfl (fun z13 e13 => ?_)
  refine g_putI 17 (gd rfl) rfl rfl rfl rfl ?_
  have hI14 := rng_sF (q := 2) (j := 2) hI6 rfl (in_w (-2147483648) 2147483647 (i_rng z13) rfl)
  have n17 : (sF (sI s 4 x1.toNatClampNeg (Int32.ofInt (-1))) 2 2 z13).1 4 = upd (s.1 4) (x1).toNatClampNeg (Int32.ofInt (-1)) := by simp [sI, sF]
  have m17 : (((sF (sI s 4 x1.toNatClampNeg (Int32.ofInt (-1))) 2 2 z13).2.2.1 2 3)).toInt < ((161 : Nat) : Int) := by have a0 := h1; unfold In at a0; have a1 := (show In ((sF (sI s 4 x1.toNatClampNeg (Int32.ofInt (-1))) 2 2 z13).2.2.1 2 3) 0 160 from rng_F hI14 0 160 rfl rfl); unfold In at a1; omega
  exact gg_w (by omega) (gg_f (gf_cons rfl (gf_cons rfl gf_nil)) (ct17 161 (sF (sI s 4 x1.toNatClampNeg (Int32.ofInt (-1))) 2 2 z13) _ hI14 (fr_sF rfl (fr_sI rfl fr_rf)) rfl n17 m17))

def fm_132_1_2 : FM := ([4, 5, 6, 7, 8], [], [(2, 2), (2, 3)], [])
/-- GraphHouse$Ledger.applyArc -/
theorem k_132_1_2 {Z : AmZ} {A : Nat → Nat} {s : GS} {ex : va_W} {d : Nat} {X : AmX} {x2 : Int32} {x3 : Int32} {u_30_0 : Int32} (hd : 3 ≤ d) (hI : Rng s) (h2 : In x2 0 27993) (h3 : In x3 0 159) (e_30_0 : u_30_0 = s.2.2.1 30 0) (p_0 : (x2).toInt + 7 ≤ (u_30_0).toInt) (q_0 : In (s.1 30 ((x2).toInt + 2).toNat) (0) 31) (q_1 : In (s.1 30 ((x2).toInt + 3).toNat) (0) 31) (q_2 : In (s.1 30 ((x2).toInt + 4).toNat) (-1000000) 1000000) (q_3 : In (s.1 30 ((x2).toInt + 5).toNat) (0) 1000000) (q_4 : In (s.1 30 ((x2).toInt + 6).toNat) (0) 25) : GC Z d 132 [.ref (A 1), .ref (A 2), .int x2, .int x3] (WW Z A s ++ ex) 0 0 (fun v u => ∃ t : GS, Rng t ∧ Fr fm_132_1_2 s t ∧ v = none ∧ u = WW Z A t ++ ex ∧ (t.1 4 = upd (s.1 4) (x3).toNatClampNeg (s.1 30 ((x2).toInt + 2).toNat)) ∧ (t.1 5 = upd (s.1 5) (x3).toNatClampNeg (s.1 30 ((x2).toInt + 3).toNat))) X := by
  intro post xp hP hX
  have ro_30_0 := rng_F hI 448 28000 rfl e_30_0
  refine g_enter2 (k := 132) (N := 900) (by omega) rfl (Nat.le_of_ble_eq_true rfl) ?_
  refine g_aload_n 1 (gd rfl) rfl rfl ?_
  refine g_getA (q2 := 4) 4 (gd rfl) rfl rfl rfl rfl ?_
  refine g_iload_n 5 (gd rfl) rfl rfl ?_
  refine g_aload_n 6 (gd rfl) rfl rfl ?_
  refine g_getA (q2 := 30) 9 (gd rfl) rfl rfl rfl rfl ?_
  refine g_iload_n 10 (gd rfl) rfl rfl ?_
  refine g_iconst 2 11 (gd rfl) rfl rfl ?_
  refine g_iadd 12 (gd rfl) rfl (fun z11 e11 => ?_)
  have i11 := in_add 2 27995 e11 h2 (in_c 2 rfl) rfl rfl
  have hx12 : vp_in z11 (s.2.2.1 30 0).toNatClampNeg := lg_in (by have a0 := (rng_F hI 448 28000 rfl e_30_0); unfold In at a0; have a1 := h3; unfold In at a1; have a2 := h2; unfold In at a2; have a3 := i11; unfold In at a3; have a4 := t_add e11 h2 (in_c 2 rfl) rfl; have a5 := (in_c 2 rfl); unfold In at a5; omega) (by rw [← (show u_30_0 = s.2.2.1 30 0 from e_30_0)]; have a0 := (rng_F hI 448 28000 rfl e_30_0); unfold In at a0; have a1 := h3; unfold In at a1; have a2 := h2; unfold In at a2; have a3 := i11; unfold In at a3; have a4 := t_add e11 h2 (in_c 2 rfl) rfl; have a5 := (in_c 2 rfl); unfold In at a5; omega)
  refine g_lgload 13 (gd rfl) rfl hx12 (fun z12 e12 => ?_)
  have i13 : In z12 0 31 := by have hi : (z12) = s.1 30 ((x2).toInt + 2).toNat := (by rw [e12, show (z11).toNatClampNeg = ((x2).toInt + 2).toNat from (by show (z11).toInt.toNat = _; have a0 := (rng_F hI 448 28000 rfl e_30_0); unfold In at a0; have a1 := h3; unfold In at a1; have a2 := h2; unfold In at a2; have a3 := i11; unfold In at a3; have a4 := t_add e11 h2 (in_c 2 rfl) rfl; have a5 := (in_c 2 rfl); unfold In at a5; omega)] <;> simp [sI]); rw [hi]; exact q_0
  have hf2 : z12 = s.1 30 ((x2).toInt + 2).toNat := (by rw [e12, show (z11).toNatClampNeg = ((x2).toInt + 2).toNat from (by show (z11).toInt.toNat = _; have a0 := (rng_F hI 448 28000 rfl e_30_0); unfold In at a0; have a1 := h3; unfold In at a1; have a2 := h2; unfold In at a2; have a3 := i11; unfold In at a3; have a4 := t_add e11 h2 (in_c 2 rfl) rfl; have a5 := (in_c 2 rfl); unfold In at a5; omega)] <;> simp [sI])
  refine g_iastore 14 (gd rfl) rfl (n := 160) rfl (in_ix h3 rfl) ?_
  have hI13 := rng_sI (q := 4) (j := x3.toNatClampNeg) hI rfl (in_w (-1) 31 i13 rfl)
  refine g_aload_n 15 (gd rfl) rfl rfl ?_
  refine g_getA (q2 := 5) 18 (gd rfl) rfl rfl rfl rfl ?_
  refine g_iload_n 19 (gd rfl) rfl rfl ?_
  refine g_aload_n 20 (gd rfl) rfl rfl ?_
  refine g_getA (q2 := 30) 23 (gd rfl) rfl rfl rfl rfl ?_
  refine g_iload_n 24 (gd rfl) rfl rfl ?_
  refine g_iconst 3 25 (gd rfl) rfl rfl ?_
  refine g_iadd 26 (gd rfl) rfl (fun z25 e25 => ?_)
  have i25 := in_add 3 27996 e25 h2 (in_c 3 rfl) rfl rfl
  have hx26 : vp_in z25 ((sI s 4 x3.toNatClampNeg z12).2.2.1 30 0).toNatClampNeg := lg_in (by have a0 := (rng_F hI 448 28000 rfl e_30_0); unfold In at a0; have a1 := h3; unfold In at a1; have a2 := h2; unfold In at a2; have a3 := i25; unfold In at a3; have a4 := t_add e25 h2 (in_c 3 rfl) rfl; have a5 := (in_c 3 rfl); unfold In at a5; have a6 := i11; unfold In at a6; have a7 := t_add e11 h2 (in_c 2 rfl) rfl; have a8 := (in_c 2 rfl); unfold In at a8; omega) (by rw [← (show u_30_0 = (sI s 4 x3.toNatClampNeg z12).2.2.1 30 0 from sI_F (e_30_0))]; have a0 := (rng_F hI 448 28000 rfl e_30_0); unfold In at a0; have a1 := h3; unfold In at a1; have a2 := h2; unfold In at a2; have a3 := i25; unfold In at a3; have a4 := t_add e25 h2 (in_c 3 rfl) rfl; have a5 := (in_c 3 rfl); unfold In at a5; have a6 := i11; unfold In at a6; have a7 := t_add e11 h2 (in_c 2 rfl) rfl; have a8 := (in_c 2 rfl); unfold In at a8; omega)
  refine g_lgload 27 (gd rfl) rfl hx26 (fun z26 e26 => ?_)
  have i27 : In z26 0 31 := by have hi : (z26) = s.1 30 ((x2).toInt + 3).toNat := (by rw [e26, show (z25).toNatClampNeg = ((x2).toInt + 3).toNat from (by show (z25).toInt.toNat = _; have a0 := (rng_F hI 448 28000 rfl e_30_0); unfold In at a0; have a1 := h3; unfold In at a1; have a2 := h2; unfold In at a2; have a3 := i25; unfold In at a3; have a4 := t_add e25 h2 (in_c 3 rfl) rfl; have a5 := (in_c 3 rfl); unfold In at a5; have a6 := i11; unfold In at a6; have a7 := t_add e11 h2 (in_c 2 rfl) rfl; have a8 := (in_c 2 rfl); unfold In at a8; omega)] <;> simp [sI]); rw [hi]; exact q_1
  have hf3 : z26 = s.1 30 ((x2).toInt + 3).toNat := (by rw [e26, show (z25).toNatClampNeg = ((x2).toInt + 3).toNat from (by show (z25).toInt.toNat = _; have a0 := (rng_F hI 448 28000 rfl e_30_0); unfold In at a0; have a1 := h3; unfold In at a1; have a2 := h2; unfold In at a2; have a3 := i25; unfold In at a3; have a4 := t_add e25 h2 (in_c 3 rfl) rfl; have a5 := (in_c 3 rfl); unfold In at a5; have a6 := i11; unfold In at a6; have a7 := t_add e11 h2 (in_c 2 rfl) rfl; have a8 := (in_c 2 rfl); unfold In at a8; omega)] <;> simp [sI])
  refine g_iastore 28 (gd rfl) rfl (n := 160) rfl (in_ix h3 rfl) ?_
  have hI27 := rng_sI (q := 5) (j := x3.toNatClampNeg) hI13 rfl (in_w 0 31 i27 rfl)
  refine g_aload_n 29 (gd rfl) rfl rfl ?_
  refine g_getA (q2 := 6) 32 (gd rfl) rfl rfl rfl rfl ?_
  refine g_iload_n 33 (gd rfl) rfl rfl ?_
  refine g_aload_n 34 (gd rfl) rfl rfl ?_
  refine g_getA (q2 := 30) 37 (gd rfl) rfl rfl rfl rfl ?_
  refine g_iload_n 38 (gd rfl) rfl rfl ?_
  refine g_iconst 4 39 (gd rfl) rfl rfl ?_
  refine g_iadd 40 (gd rfl) rfl (fun z39 e39 => ?_)
  have i39 := in_add 4 27997 e39 h2 (in_c 4 rfl) rfl rfl
  have hx40 : vp_in z39 ((sI (sI s 4 x3.toNatClampNeg z12) 5 x3.toNatClampNeg z26).2.2.1 30 0).toNatClampNeg := lg_in (by have a0 := (rng_F hI 448 28000 rfl e_30_0); unfold In at a0; have a1 := h3; unfold In at a1; have a2 := h2; unfold In at a2; have a3 := i39; unfold In at a3; have a4 := t_add e39 h2 (in_c 4 rfl) rfl; have a5 := (in_c 4 rfl); unfold In at a5; have a6 := i25; unfold In at a6; have a7 := t_add e25 h2 (in_c 3 rfl) rfl; have a8 := (in_c 3 rfl); unfold In at a8; have a9 := i11; unfold In at a9; have a10 := t_add e11 h2 (in_c 2 rfl) rfl; have a11 := (in_c 2 rfl); unfold In at a11; omega) (by rw [← (show u_30_0 = (sI (sI s 4 x3.toNatClampNeg z12) 5 x3.toNatClampNeg z26).2.2.1 30 0 from sI_F (sI_F (e_30_0)))]; have a0 := (rng_F hI 448 28000 rfl e_30_0); unfold In at a0; have a1 := h3; unfold In at a1; have a2 := h2; unfold In at a2; have a3 := i39; unfold In at a3; have a4 := t_add e39 h2 (in_c 4 rfl) rfl; have a5 := (in_c 4 rfl); unfold In at a5; have a6 := i25; unfold In at a6; have a7 := t_add e25 h2 (in_c 3 rfl) rfl; have a8 := (in_c 3 rfl); unfold In at a8; have a9 := i11; unfold In at a9; have a10 := t_add e11 h2 (in_c 2 rfl) rfl; have a11 := (in_c 2 rfl); unfold In at a11; omega)
  refine g_lgload 41 (gd rfl) rfl hx40 (fun z40 e40 => ?_)
  have i41 : In z40 (-1000000) 1000000 := by have hi : (z40) = s.1 30 ((x2).toInt + 4).toNat := (by rw [e40, show (z39).toNatClampNeg = ((x2).toInt + 4).toNat from (by show (z39).toInt.toNat = _; have a0 := (rng_F hI 448 28000 rfl e_30_0); unfold In at a0; have a1 := h3; unfold In at a1; have a2 := h2; unfold In at a2; have a3 := i39; unfold In at a3; have a4 := t_add e39 h2 (in_c 4 rfl) rfl; have a5 := (in_c 4 rfl); unfold In at a5; have a6 := i25; unfold In at a6; have a7 := t_add e25 h2 (in_c 3 rfl) rfl; have a8 := (in_c 3 rfl); unfold In at a8; have a9 := i11; unfold In at a9; have a10 := t_add e11 h2 (in_c 2 rfl) rfl; have a11 := (in_c 2 rfl); unfold In at a11; omega)] <;> simp [sI]); rw [hi]; exact q_2
  refine g_iastore 42 (gd rfl) rfl (n := 160) rfl (in_ix h3 rfl) ?_
  have hI41 := rng_sI (q := 6) (j := x3.toNatClampNeg) hI27 rfl (in_w (-1000000) 1000000 i41 rfl)
  refine g_aload_n 43 (gd rfl) rfl rfl ?_
  refine g_getA (q2 := 7) 46 (gd rfl) rfl rfl rfl rfl ?_
  refine g_iload_n 47 (gd rfl) rfl rfl ?_
  refine g_aload_n 48 (gd rfl) rfl rfl ?_
  refine g_getA (q2 := 30) 51 (gd rfl) rfl rfl rfl rfl ?_
  refine g_iload_n 52 (gd rfl) rfl rfl ?_
  refine g_iconst 5 53 (gd rfl) rfl rfl ?_
  refine g_iadd 54 (gd rfl) rfl (fun z53 e53 => ?_)
  have i53 := in_add 5 27998 e53 h2 (in_c 5 rfl) rfl rfl
  have hx54 : vp_in z53 ((sI (sI (sI s 4 x3.toNatClampNeg z12) 5 x3.toNatClampNeg z26) 6 x3.toNatClampNeg z40).2.2.1 30 0).toNatClampNeg := lg_in (by have a0 := (rng_F hI 448 28000 rfl e_30_0); unfold In at a0; have a1 := h3; unfold In at a1; have a2 := h2; unfold In at a2; have a3 := i53; unfold In at a3; have a4 := t_add e53 h2 (in_c 5 rfl) rfl; have a5 := (in_c 5 rfl); unfold In at a5; have a6 := i39; unfold In at a6; have a7 := t_add e39 h2 (in_c 4 rfl) rfl; have a8 := (in_c 4 rfl); unfold In at a8; have a9 := i25; unfold In at a9; have a10 := t_add e25 h2 (in_c 3 rfl) rfl; have a11 := (in_c 3 rfl); unfold In at a11; have a12 := i11; unfold In at a12; have a13 := t_add e11 h2 (in_c 2 rfl) rfl; have a14 := (in_c 2 rfl); unfold In at a14; omega) (by rw [← (show u_30_0 = (sI (sI (sI s 4 x3.toNatClampNeg z12) 5 x3.toNatClampNeg z26) 6 x3.toNatClampNeg z40).2.2.1 30 0 from sI_F (sI_F (sI_F (e_30_0))))]; have a0 := (rng_F hI 448 28000 rfl e_30_0); unfold In at a0; have a1 := h3; unfold In at a1; have a2 := h2; unfold In at a2; have a3 := i53; unfold In at a3; have a4 := t_add e53 h2 (in_c 5 rfl) rfl; have a5 := (in_c 5 rfl); unfold In at a5; have a6 := i39; unfold In at a6; have a7 := t_add e39 h2 (in_c 4 rfl) rfl; have a8 := (in_c 4 rfl); unfold In at a8; have a9 := i25; unfold In at a9; have a10 := t_add e25 h2 (in_c 3 rfl) rfl; have a11 := (in_c 3 rfl); unfold In at a11; have a12 := i11; unfold In at a12; have a13 := t_add e11 h2 (in_c 2 rfl) rfl; have a14 := (in_c 2 rfl); unfold In at a14; omega)
  refine g_lgload 55 (gd rfl) rfl hx54 (fun z54 e54 => ?_)
  have i55 : In z54 0 1000000 := by have hi : (z54) = s.1 30 ((x2).toInt + 5).toNat := (by rw [e54, show (z53).toNatClampNeg = ((x2).toInt + 5).toNat from (by show (z53).toInt.toNat = _; have a0 := (rng_F hI 448 28000 rfl e_30_0); unfold In at a0; have a1 := h3; unfold In at a1; have a2 := h2; unfold In at a2; have a3 := i53; unfold In at a3; have a4 := t_add e53 h2 (in_c 5 rfl) rfl; have a5 := (in_c 5 rfl); unfold In at a5; have a6 := i39; unfold In at a6; have a7 := t_add e39 h2 (in_c 4 rfl) rfl; have a8 := (in_c 4 rfl); unfold In at a8; have a9 := i25; unfold In at a9; have a10 := t_add e25 h2 (in_c 3 rfl) rfl; have a11 := (in_c 3 rfl); unfold In at a11; have a12 := i11; unfold In at a12; have a13 := t_add e11 h2 (in_c 2 rfl) rfl; have a14 := (in_c 2 rfl); unfold In at a14; omega)] <;> simp [sI]); rw [hi]; exact q_3
  refine g_iastore 56 (gd rfl) rfl (n := 160) rfl (in_ix h3 rfl) ?_
  have hI55 := rng_sI (q := 7) (j := x3.toNatClampNeg) hI41 rfl (in_w 0 1000000 i55 rfl)
  refine g_aload_n 57 (gd rfl) rfl rfl ?_
  refine g_getA (q2 := 8) 60 (gd rfl) rfl rfl rfl rfl ?_
  refine g_iload_n 61 (gd rfl) rfl rfl ?_
  refine g_aload_n 62 (gd rfl) rfl rfl ?_
  refine g_getA (q2 := 30) 65 (gd rfl) rfl rfl rfl rfl ?_
  refine g_iload_n 66 (gd rfl) rfl rfl ?_
  refine g_bipush 6 68 (gd rfl) rfl rfl ?_
  refine g_iadd 69 (gd rfl) rfl (fun z68 e68 => ?_)
  have i68 := in_add 6 27999 e68 h2 (in_c 6 rfl) rfl rfl
  have hx69 : vp_in z68 ((sI (sI (sI (sI s 4 x3.toNatClampNeg z12) 5 x3.toNatClampNeg z26) 6 x3.toNatClampNeg z40) 7 x3.toNatClampNeg z54).2.2.1 30 0).toNatClampNeg := lg_in (by have a0 := (rng_F hI 448 28000 rfl e_30_0); unfold In at a0; have a1 := h3; unfold In at a1; have a2 := h2; unfold In at a2; have a3 := i68; unfold In at a3; have a4 := t_add e68 h2 (in_c 6 rfl) rfl; have a5 := (in_c 6 rfl); unfold In at a5; have a6 := i53; unfold In at a6; have a7 := t_add e53 h2 (in_c 5 rfl) rfl; have a8 := (in_c 5 rfl); unfold In at a8; have a9 := i39; unfold In at a9; have a10 := t_add e39 h2 (in_c 4 rfl) rfl; have a11 := (in_c 4 rfl); unfold In at a11; have a12 := i25; unfold In at a12; have a13 := t_add e25 h2 (in_c 3 rfl) rfl; have a14 := (in_c 3 rfl); unfold In at a14; have a15 := i11; unfold In at a15; have a16 := t_add e11 h2 (in_c 2 rfl) rfl; have a17 := (in_c 2 rfl); unfold In at a17; omega) (by rw [← (show u_30_0 = (sI (sI (sI (sI s 4 x3.toNatClampNeg z12) 5 x3.toNatClampNeg z26) 6 x3.toNatClampNeg z40) 7 x3.toNatClampNeg z54).2.2.1 30 0 from sI_F (sI_F (sI_F (sI_F (e_30_0)))))]; have a0 := (rng_F hI 448 28000 rfl e_30_0); unfold In at a0; have a1 := h3; unfold In at a1; have a2 := h2; unfold In at a2; have a3 := i68; unfold In at a3; have a4 := t_add e68 h2 (in_c 6 rfl) rfl; have a5 := (in_c 6 rfl); unfold In at a5; have a6 := i53; unfold In at a6; have a7 := t_add e53 h2 (in_c 5 rfl) rfl; have a8 := (in_c 5 rfl); unfold In at a8; have a9 := i39; unfold In at a9; have a10 := t_add e39 h2 (in_c 4 rfl) rfl; have a11 := (in_c 4 rfl); unfold In at a11; have a12 := i25; unfold In at a12; have a13 := t_add e25 h2 (in_c 3 rfl) rfl; have a14 := (in_c 3 rfl); unfold In at a14; have a15 := i11; unfold In at a15; have a16 := t_add e11 h2 (in_c 2 rfl) rfl; have a17 := (in_c 2 rfl); unfold In at a17; omega)
  refine g_lgload 70 (gd rfl) rfl hx69 (fun z69 e69 => ?_)
  have i70 : In z69 0 25 := by have hi : (z69) = s.1 30 ((x2).toInt + 6).toNat := (by rw [e69, show (z68).toNatClampNeg = ((x2).toInt + 6).toNat from (by show (z68).toInt.toNat = _; have a0 := (rng_F hI 448 28000 rfl e_30_0); unfold In at a0; have a1 := h3; unfold In at a1; have a2 := h2; unfold In at a2; have a3 := i68; unfold In at a3; have a4 := t_add e68 h2 (in_c 6 rfl) rfl; have a5 := (in_c 6 rfl); unfold In at a5; have a6 := i53; unfold In at a6; have a7 := t_add e53 h2 (in_c 5 rfl) rfl; have a8 := (in_c 5 rfl); unfold In at a8; have a9 := i39; unfold In at a9; have a10 := t_add e39 h2 (in_c 4 rfl) rfl; have a11 := (in_c 4 rfl); unfold In at a11; have a12 := i25; unfold In at a12; have a13 := t_add e25 h2 (in_c 3 rfl) rfl; have a14 := (in_c 3 rfl); unfold In at a14; have a15 := i11; unfold In at a15; have a16 := t_add e11 h2 (in_c 2 rfl) rfl; have a17 := (in_c 2 rfl); unfold In at a17; omega)] <;> simp [sI]); rw [hi]; exact q_4
  refine g_iastore 71 (gd rfl) rfl (n := 160) rfl (in_ix h3 rfl) ?_
  have hI70 := rng_sI (q := 8) (j := x3.toNatClampNeg) hI55 rfl (in_w 0 25 i70 rfl)
  refine g_aload_n 72 (gd rfl) rfl rfl ?_
  refine g_dup 73 (gd rfl) rfl rfl ?_
  refine g_getI 76 (gd rfl) rfl rfl rfl (fun z73 e73 => ?_)
  refine g_iconst 1 77 (gd rfl) rfl rfl ?_
  refine g_iadd 78 (gd rfl) rfl (fun z77 e77 => ?_)
  refine g_putI 81 (gd rfl) rfl rfl rfl rfl ?_
  have hI78 := rng_sF (q := 2) (j := 2) hI70 rfl (in_w (-2147483648) 2147483647 (i_rng z77) rfl)
  refine g_aload_n 82 (gd rfl) rfl rfl ?_
  refine g_aload_n 83 (gd rfl) rfl rfl ?_
  refine g_getI 86 (gd rfl) rfl rfl rfl (fun z83 e83 => ?_)
  have i83 := rng_F hI78 0 160 rfl e83
  refine g_iload_n 87 (gd rfl) rfl rfl ?_
  refine g_iconst 1 88 (gd rfl) rfl rfl ?_
  refine g_iadd 89 (gd rfl) rfl (fun z88 e88 => ?_)
  have i88 := in_add 1 160 e88 h3 (in_c 1 rfl) rfl rfl
  refine g_calls (As := [.int z83, .int z88]) (r := [.ref (A 2)]) 92 (gd rfl) rfl rfl rfl rfl rfl (Nat.le_of_ble_eq_true rfl) (mc := 0) (ms := 0) (Nat.zero_le _) (Nat.zero_le _) (P := fun v u => _) ?_ (fun v u h => h)
  intro po89 xx89 hp89 hx89
  refine g_enter2 (k := 422) (N := 300) (by omega) rfl (Nat.le_of_ble_eq_true rfl) ?_
  refine g_iload_n 1 (gd rfl) rfl rfl ?_
  refine g_iload_n 2 (gd rfl) rfl rfl ?_
  refine g_cmp_lt 5 9 (gd rfl) rfl rfl (fun c89x2 => ?_) (fun c89x2 => ?_)
  · skip
    have i89x2 := r_lt1 0 159 c89x2 i83 i88 rfl
    refine g_iload_n 10 (gd rfl) rfl rfl ?_
    refine g_ireturn (gd rfl) rfl rfl (hp89 _ _ ?_)
    show GG _ _ _ _ _ _ _ _ [.int z88, .ref (A 2)] _ _ _
    refine g_putI 95 (gd rfl) rfl rfl rfl rfl ?_
    have hI92 := rng_sF (q := 2) (j := 3) hI78 rfl (in_w 0 160 i88 rfl)
    have n95 : (sF (sF (sI (sI (sI (sI (sI s 4 x3.toNatClampNeg z12) 5 x3.toNatClampNeg z26) 6 x3.toNatClampNeg z40) 7 x3.toNatClampNeg z54) 8 x3.toNatClampNeg z69) 2 2 z77) 2 3 z88).1 4 = upd (s.1 4) (x3).toNatClampNeg (s.1 30 ((x2).toInt + 2).toNat) := by rw [← hf2]; simp [sI, sF]
    have n95a : (sF (sF (sI (sI (sI (sI (sI s 4 x3.toNatClampNeg z12) 5 x3.toNatClampNeg z26) 6 x3.toNatClampNeg z40) 7 x3.toNatClampNeg z54) 8 x3.toNatClampNeg z69) 2 2 z77) 2 3 z88).1 5 = upd (s.1 5) (x3).toNatClampNeg (s.1 30 ((x2).toInt + 3).toNat) := by rw [← hf3]; simp [sI, sF]
    exact g_return (gd rfl) rfl (hP _ _ ⟨(sF (sF (sI (sI (sI (sI (sI s 4 x3.toNatClampNeg z12) 5 x3.toNatClampNeg z26) 6 x3.toNatClampNeg z40) 7 x3.toNatClampNeg z54) 8 x3.toNatClampNeg z69) 2 2 z77) 2 3 z88), hI92, (fr_sF rfl (fr_sF rfl (fr_sI rfl (fr_sI rfl (fr_sI rfl (fr_sI rfl (fr_sI rfl fr_rf))))))), rfl, rfl, n95, n95a⟩)
  · skip
    have i89x2 := r_le2 1 160 c89x2 i88 i83 rfl
    refine g_iload_n 6 (gd rfl) rfl rfl ?_
    refine g_goto 10 (gd rfl) rfl ?_
    refine g_ireturn (gd rfl) rfl rfl (hp89 _ _ ?_)
    show GG _ _ _ _ _ _ _ _ [.int z83, .ref (A 2)] _ _ _
    refine g_putI 95 (gd rfl) rfl rfl rfl rfl ?_
    have hI92 := rng_sF (q := 2) (j := 3) hI78 rfl (in_w 0 160 i89x2 rfl)
    have n95 : (sF (sF (sI (sI (sI (sI (sI s 4 x3.toNatClampNeg z12) 5 x3.toNatClampNeg z26) 6 x3.toNatClampNeg z40) 7 x3.toNatClampNeg z54) 8 x3.toNatClampNeg z69) 2 2 z77) 2 3 z83).1 4 = upd (s.1 4) (x3).toNatClampNeg (s.1 30 ((x2).toInt + 2).toNat) := by rw [← hf2]; simp [sI, sF]
    have n95a : (sF (sF (sI (sI (sI (sI (sI s 4 x3.toNatClampNeg z12) 5 x3.toNatClampNeg z26) 6 x3.toNatClampNeg z40) 7 x3.toNatClampNeg z54) 8 x3.toNatClampNeg z69) 2 2 z77) 2 3 z83).1 5 = upd (s.1 5) (x3).toNatClampNeg (s.1 30 ((x2).toInt + 3).toNat) := by rw [← hf3]; simp [sI, sF]
    exact g_return (gd rfl) rfl (hP _ _ ⟨(sF (sF (sI (sI (sI (sI (sI s 4 x3.toNatClampNeg z12) 5 x3.toNatClampNeg z26) 6 x3.toNatClampNeg z40) 7 x3.toNatClampNeg z54) 8 x3.toNatClampNeg z69) 2 2 z77) 2 3 z83), hI92, (fr_sF rfl (fr_sF rfl (fr_sI rfl (fr_sI rfl (fr_sI rfl (fr_sI rfl (fr_sI rfl fr_rf))))))), rfl, rfl, n95, n95a⟩)

def fm_133_1_2 : FM := ([6, 7, 8], [], [], [])
/-- GraphHouse$Ledger.applyValue -/
theorem k_133_1_2 {Z : AmZ} {A : Nat → Nat} {s : GS} {ex : va_W} {d : Nat} {X : AmX} {x2 : Int32} {x3 : Int32} {x4 : Int32} (hd : 1 ≤ d) (hI : Rng s) (h2 : In x2 0 159) (q_0 : (x3).toInt = 0 → In x4 (-1000000) 1000000) (q_1 : (x3).toInt = 1 → In x4 0 1000000) (q_2 : (x3).toInt ≠ 0 → (x3).toInt ≠ 1 → In x4 0 25) : GC Z d 133 [.ref (A 1), .ref (A 2), .int x2, .int x3, .int x4] (WW Z A s ++ ex) 0 0 (fun v u => ∃ t : GS, Rng t ∧ Fr fm_133_1_2 s t ∧ v = none ∧ u = WW Z A t ++ ex) X := by
  intro post xp hP hX
  refine g_enter2 (k := 133) (N := 900) (by omega) rfl (Nat.le_of_ble_eq_true rfl) ?_
  refine g_iload_n 1 (gd rfl) rfl rfl ?_
  refine g_if_ne 4 15 (gd rfl) rfl rfl (fun c1 => ?_) (fun c1 => ?_)
  · skip
    refine g_iload_n 16 (gd rfl) rfl rfl ?_
    refine g_iconst 1 17 (gd rfl) rfl rfl ?_
    refine g_cmp_ne 20 31 (gd rfl) rfl rfl (fun c17 => ?_) (fun c17 => ?_)
    · skip
      refine g_aload_n 32 (gd rfl) rfl rfl ?_
      refine g_getA (q2 := 8) 35 (gd rfl) rfl rfl rfl rfl ?_
      refine g_iload_n 36 (gd rfl) rfl rfl ?_
      refine g_iload 38 (gd rfl) rfl rfl ?_
      have i38 : In x4 0 25 := by exact q_2 c1 c17
      refine g_iastore 39 (gd rfl) rfl (n := 160) rfl (in_ix h2 rfl) ?_
      have hI38 := rng_sI (q := 8) (j := x2.toNatClampNeg) hI rfl (in_w 0 25 i38 rfl)
      exact g_return (gd rfl) rfl (hP _ _ ⟨(sI s 8 x2.toNatClampNeg x4), hI38, (fr_sI rfl fr_rf), rfl, rfl⟩)
    · skip
      have i17 := r_eq1 1 1 c17 (i_rng x3) (in_c 1 rfl) rfl
      refine g_aload_n 21 (gd rfl) rfl rfl ?_
      refine g_getA (q2 := 7) 24 (gd rfl) rfl rfl rfl rfl ?_
      refine g_iload_n 25 (gd rfl) rfl rfl ?_
      refine g_iload 27 (gd rfl) rfl rfl ?_
      have i27 : In x4 0 1000000 := by exact q_1 c17
      refine g_iastore 28 (gd rfl) rfl (n := 160) rfl (in_ix h2 rfl) ?_
      have hI27 := rng_sI (q := 7) (j := x2.toNatClampNeg) hI rfl (in_w 0 1000000 i27 rfl)
      refine g_goto 39 (gd rfl) rfl ?_
      exact g_return (gd rfl) rfl (hP _ _ ⟨(sI s 7 x2.toNatClampNeg x4), hI27, (fr_sI rfl fr_rf), rfl, rfl⟩)
  · skip
    have i1 := z_eq 0 0 c1 (i_rng x3) rfl
    refine g_aload_n 5 (gd rfl) rfl rfl ?_
    refine g_getA (q2 := 6) 8 (gd rfl) rfl rfl rfl rfl ?_
    refine g_iload_n 9 (gd rfl) rfl rfl ?_
    refine g_iload 11 (gd rfl) rfl rfl ?_
    have i11 : In x4 (-1000000) 1000000 := by exact q_0 c1
    refine g_iastore 12 (gd rfl) rfl (n := 160) rfl (in_ix h2 rfl) ?_
    have hI11 := rng_sI (q := 6) (j := x2.toNatClampNeg) hI rfl (in_w (-1000000) 1000000 i11 rfl)
    refine g_goto 39 (gd rfl) rfl ?_
    exact g_return (gd rfl) rfl (hP _ _ ⟨(sI s 6 x2.toNatClampNeg x4), hI11, (fr_sI rfl fr_rf), rfl, rfl⟩)

def fm_131_1_2 : FM := ([3, 4, 5, 6, 7, 8], [], [(2, 0), (2, 1), (2, 2), (2, 3)], [])
/-- GraphHouse$Ledger.apply -/
theorem k_131_1_2 {Z : AmZ} {A : Nat → Nat} {s : GS} {ex : va_W} {d : Nat} {X : AmX} {u_2_0 : Int32} {u_2_1 : Int32} {u_30_0 : Int32} (hd : 4 ≤ d) (hI : Inv s) (e_2_0 : u_2_0 = s.2.2.1 2 0) (e_2_1 : u_2_1 = s.2.2.1 2 1) (e_30_0 : u_30_0 = s.2.2.1 30 0) (r_2_0 : In u_2_0 0 3999) (p_0 : 7 * (u_2_0).toInt + 7 ≤ (u_30_0).toInt) (q_0 : RW7 (s.1 30) (s.2.2.1 2 0).toInt.toNat) (q_1 : KV s 2) : GC Z d 131 [.ref (A 1), .ref (A 2)] (WW Z A s ++ ex) 0 0 (fun v u => ∃ t : GS, Inv t ∧ Fr fm_131_1_2 s t ∧ ((t.2.2.1 2 0).toInt = (s.2.2.1 2 0).toInt + 1) ∧ v = none ∧ u = WW Z A t ++ ex ∧ (KV t 2)) X := by
  intro post xp hP hX
  have ro_30_0 := inv_F hI 448 28000 rfl e_30_0
  refine g_enter2 (k := 131) (N := 900) (by omega) rfl (Nat.le_of_ble_eq_true rfl) ?_
  refine g_aload_n 1 (gd rfl) rfl rfl ?_
  refine g_getI 4 (gd rfl) rfl rfl rfl (fun z1 e1 => ?_)
  have q1 : u_2_0 = z1 := (e_2_0).trans e1.symm
  subst q1
  refine g_bipush 7 6 (gd rfl) rfl rfl ?_
  refine g_imul 7 (gd rfl) rfl (fun z6 e6 => ?_)
  have i6 := in_mulc 7 0 27993 (Or.inr e6) r_2_0 rfl rfl
  refine g_istore_n 8 (gd rfl) rfl (Nat.le_of_ble_eq_true rfl) ?_
  have hk : z6.toInt = 7 * (((s.2.2.1 2 0).toInt.toNat : Nat) : Int) := (by rw [← e_2_0]; have a0 := (rng_F hI.1 448 28000 rfl e_30_0); unfold In at a0; have a1 := (rng_F hI.1 0 32 rfl e_2_1); unfold In at a1; have a2 := r_2_0; unfold In at a2; have a3 := i6; unfold In at a3; have a4 := (t_mulc 7 (Or.inr e6) r_2_0 rfl).1; omega)
  refine g_aload_n 9 (gd rfl) rfl rfl ?_
  refine g_getA (q2 := 30) 12 (gd rfl) rfl rfl rfl rfl ?_
  refine g_iload_n 13 (gd rfl) rfl rfl ?_
  refine g_iconst 1 14 (gd rfl) rfl rfl ?_
  refine g_iadd 15 (gd rfl) rfl (fun z14 e14 => ?_)
  have i14 := in_add 1 27994 e14 i6 (in_c 1 rfl) rfl rfl
  have hx15 : vp_in z14 (s.2.2.1 30 0).toNatClampNeg := lg_in (by have a0 := (rng_F hI.1 448 28000 rfl e_30_0); unfold In at a0; have a1 := (rng_F hI.1 0 32 rfl e_2_1); unfold In at a1; have a2 := r_2_0; unfold In at a2; have a3 := i6; unfold In at a3; have a4 := (t_mulc 7 (Or.inr e6) r_2_0 rfl).1; have a5 := i14; unfold In at a5; have a6 := t_add e14 i6 (in_c 1 rfl) rfl; have a7 := (in_c 1 rfl); unfold In at a7; omega) (by rw [← (show u_30_0 = s.2.2.1 30 0 from e_30_0)]; have a0 := (rng_F hI.1 448 28000 rfl e_30_0); unfold In at a0; have a1 := (rng_F hI.1 0 32 rfl e_2_1); unfold In at a1; have a2 := r_2_0; unfold In at a2; have a3 := i6; unfold In at a3; have a4 := (t_mulc 7 (Or.inr e6) r_2_0 rfl).1; have a5 := i14; unfold In at a5; have a6 := t_add e14 i6 (in_c 1 rfl) rfl; have a7 := (in_c 1 rfl); unfold In at a7; omega)
  refine g_lgload 16 (gd rfl) rfl hx15 (fun z15 e15 => ?_)
  refine g_istore_n 17 (gd rfl) rfl (Nat.le_of_ble_eq_true rfl) ?_
  have hp : z15 = s.1 30 (7 * (s.2.2.1 2 0).toInt.toNat + 1) := rw7_v (c := 1) (by have a0 := (rng_F hI.1 448 28000 rfl e_30_0); unfold In at a0; have a1 := (rng_F hI.1 0 32 rfl e_2_1); unfold In at a1; have a2 := r_2_0; unfold In at a2; have a3 := i6; unfold In at a3; have a4 := (t_mulc 7 (Or.inr e6) r_2_0 rfl).1; have a5 := i14; unfold In at a5; have a6 := t_add e14 i6 (in_c 1 rfl) rfl; have a7 := (in_c 1 rfl); unfold In at a7; omega) e15
  refine g_aload_n 18 (gd rfl) rfl rfl ?_
  refine g_dup 19 (gd rfl) rfl rfl ?_
  refine g_getI 22 (gd rfl) rfl rfl rfl (fun z19 e19 => ?_)
  have q19 : u_2_0 = z19 := (e_2_0).trans e19.symm
  subst q19
  refine g_iconst 1 23 (gd rfl) rfl rfl ?_
  refine g_iadd 24 (gd rfl) rfl (fun z23 e23 => ?_)
  have i23 := in_add 1 4000 e23 r_2_0 (in_c 1 rfl) rfl rfl
  refine g_putI 27 (gd rfl) rfl rfl rfl rfl ?_
  have hI24 := rng_sF (q := 2) (j := 0) hI.1 rfl (in_w 0 4000 i23 rfl)
  refine g_aload_n 28 (gd rfl) rfl rfl ?_
  refine g_getA (q2 := 30) 31 (gd rfl) rfl rfl rfl rfl ?_
  refine g_iload_n 32 (gd rfl) rfl rfl ?_
  have hx32 : vp_in z6 ((sF s 2 0 z23).2.2.1 30 0).toNatClampNeg := lg_in (by have a0 := (rng_F hI.1 448 28000 rfl e_30_0); unfold In at a0; have a1 := (rng_F hI.1 0 32 rfl e_2_1); unfold In at a1; have a2 := r_2_0; unfold In at a2; have a3 := i6; unfold In at a3; have a4 := (t_mulc 7 (Or.inr e6) r_2_0 rfl).1; have a5 := i23; unfold In at a5; have a6 := t_add e23 r_2_0 (in_c 1 rfl) rfl; have a7 := (in_c 1 rfl); unfold In at a7; have a8 := i14; unfold In at a8; have a9 := t_add e14 i6 (in_c 1 rfl) rfl; omega) (by rw [← (show u_30_0 = (sF s 2 0 z23).2.2.1 30 0 from sF_ne rfl (e_30_0))]; have a0 := (rng_F hI.1 448 28000 rfl e_30_0); unfold In at a0; have a1 := (rng_F hI.1 0 32 rfl e_2_1); unfold In at a1; have a2 := r_2_0; unfold In at a2; have a3 := i6; unfold In at a3; have a4 := (t_mulc 7 (Or.inr e6) r_2_0 rfl).1; have a5 := i23; unfold In at a5; have a6 := t_add e23 r_2_0 (in_c 1 rfl) rfl; have a7 := (in_c 1 rfl); unfold In at a7; have a8 := i14; unfold In at a8; have a9 := t_add e14 i6 (in_c 1 rfl) rfl; omega)
  refine g_lgload 33 (gd rfl) rfl hx32 (fun z32 e32 => ?_)
  refine g_tsw [64, 91, 101, 109] 134 (gd rfl) rfl rfl rfl ⟨fun c33 => ?_, fun c33 => ?_, fun c33 => ?_, fun c33 => ?_, trivial⟩ (fun c33 => ?_)
  · skip
    have i33 := sw_eq c33
    have h32 : z32 = s.1 30 (7 * (s.2.2.1 2 0).toInt.toNat) := rw7_v (c := 0) (by have a0 := (rng_F hI.1 448 28000 rfl e_30_0); unfold In at a0; have a1 := (rng_F hI.1 0 32 rfl e_2_1); unfold In at a1; have a2 := r_2_0; unfold In at a2; have a3 := i6; unfold In at a3; have a4 := (t_mulc 7 (Or.inr e6) r_2_0 rfl).1; have a5 := i23; unfold In at a5; have a6 := t_add e23 r_2_0 (in_c 1 rfl) rfl; have a7 := (in_c 1 rfl); unfold In at a7; have a8 := i14; unfold In at a8; have a9 := t_add e14 i6 (in_c 1 rfl) rfl; omega) e32
    have hr := rw7_0 q_0 hk e32 c33
    have i64 : In z15 0 31 := by rw [hp]; have h1 := hr.1; have h2 := hr.2.1; exact ⟨by omega, by omega⟩
    have i64a : In u_2_1 0 31 := by have h1 := q_1.1; have h2 := hr.2.1; rw [e_2_1]; exact ⟨by omega, by omega⟩
    refine g_aload_n 65 (gd rfl) rfl rfl ?_
    refine g_getA (q2 := 3) 68 (gd rfl) rfl rfl rfl rfl ?_
    refine g_iload_n 69 (gd rfl) rfl rfl ?_
    refine g_aload_n 70 (gd rfl) rfl rfl ?_
    refine g_getA (q2 := 30) 73 (gd rfl) rfl rfl rfl rfl ?_
    refine g_iload_n 74 (gd rfl) rfl rfl ?_
    refine g_iconst 2 75 (gd rfl) rfl rfl ?_
    refine g_iadd 76 (gd rfl) rfl (fun z75 e75 => ?_)
    have i75 := in_add 2 27995 e75 i6 (in_c 2 rfl) rfl rfl
    have hx76 : vp_in z75 ((sF s 2 0 z23).2.2.1 30 0).toNatClampNeg := lg_in (by have a0 := (rng_F hI.1 448 28000 rfl e_30_0); unfold In at a0; have a1 := i64a; unfold In at a1; have a2 := r_2_0; unfold In at a2; have a3 := i64; unfold In at a3; have a4 := i6; unfold In at a4; have a5 := (t_mulc 7 (Or.inr e6) r_2_0 rfl).1; have a6 := i23; unfold In at a6; have a7 := t_add e23 r_2_0 (in_c 1 rfl) rfl; have a8 := (in_c 1 rfl); unfold In at a8; have a9 := i75; unfold In at a9; have a10 := t_add e75 i6 (in_c 2 rfl) rfl; have a11 := (in_c 2 rfl); unfold In at a11; have a12 := i14; unfold In at a12; have a13 := t_add e14 i6 (in_c 1 rfl) rfl; omega) (by rw [← (show u_30_0 = (sF s 2 0 z23).2.2.1 30 0 from sF_ne rfl (e_30_0))]; have a0 := (rng_F hI.1 448 28000 rfl e_30_0); unfold In at a0; have a1 := i64a; unfold In at a1; have a2 := r_2_0; unfold In at a2; have a3 := i64; unfold In at a3; have a4 := i6; unfold In at a4; have a5 := (t_mulc 7 (Or.inr e6) r_2_0 rfl).1; have a6 := i23; unfold In at a6; have a7 := t_add e23 r_2_0 (in_c 1 rfl) rfl; have a8 := (in_c 1 rfl); unfold In at a8; have a9 := i75; unfold In at a9; have a10 := t_add e75 i6 (in_c 2 rfl) rfl; have a11 := (in_c 2 rfl); unfold In at a11; have a12 := i14; unfold In at a12; have a13 := t_add e14 i6 (in_c 1 rfl) rfl; omega)
    refine g_lgload 77 (gd rfl) rfl hx76 (fun z76 e76 => ?_)
    have i77 : In z76 0 25 := by rw [rw7_v (k := (s.2.2.1 2 0).toInt.toNat) (c := 2) (by have a0 := (rng_F hI.1 448 28000 rfl e_30_0); unfold In at a0; have a1 := i64a; unfold In at a1; have a2 := r_2_0; unfold In at a2; have a3 := i64; unfold In at a3; have a4 := i6; unfold In at a4; have a5 := (t_mulc 7 (Or.inr e6) r_2_0 rfl).1; have a6 := i23; unfold In at a6; have a7 := t_add e23 r_2_0 (in_c 1 rfl) rfl; have a8 := (in_c 1 rfl); unfold In at a8; have a9 := i75; unfold In at a9; have a10 := t_add e75 i6 (in_c 2 rfl) rfl; have a11 := (in_c 2 rfl); unfold In at a11; have a12 := i14; unfold In at a12; have a13 := t_add e14 i6 (in_c 1 rfl) rfl; omega) e76]; exact hr.2.2
    refine g_iastore 78 (gd rfl) rfl (n := 32) rfl (in_ix i64 rfl) ?_
    have hI77 := rng_sI (q := 3) (j := z15.toNatClampNeg) hI24 rfl (in_w 0 25 i77 rfl)
    refine g_aload_n 79 (gd rfl) rfl rfl ?_
    refine g_dup 80 (gd rfl) rfl rfl ?_
    refine g_getI 83 (gd rfl) rfl rfl rfl (fun z80 e80 => ?_)
    have q80 : u_2_1 = z80 := (sI_F (sF_ne rfl (e_2_1))).trans e80.symm
    subst q80
    refine g_iconst 1 84 (gd rfl) rfl rfl ?_
    refine g_iadd 85 (gd rfl) rfl (fun z84 e84 => ?_)
    have i84 := in_add 1 32 e84 i64a (in_c 1 rfl) rfl rfl
    refine g_putI 88 (gd rfl) rfl rfl rfl rfl ?_
    have hI85 := rng_sF (q := 2) (j := 1) hI77 rfl (in_w 0 32 i84 rfl)
    refine g_goto 148 (gd rfl) rfl ?_
    have hI148 : Inv (sF (sI (sF s 2 0 z23) 3 z15.toNatClampNeg z76) 2 1 z84) := by have hFF : Fr fm_131_1_2 s (sF (sI (sF s 2 0 z23) 3 z15.toNatClampNeg z76) 2 1 z84) := (fr_sF rfl (fr_sI rfl (fr_sF rfl fr_rf))); exact ⟨hI85, kk_ap2 hI.2 hFF rfl (by rw [hFF.2.2.1 2 4 rfl, ← (show z23 = (sF (sI (sF s 2 0 z23) 3 z15.toNatClampNeg z76) 2 1 z84).2.2.1 2 0 from sF_ne rfl (sI_F (sF_get)))]; have hg := hI.2.1.1; rw [mF_at rfl, mF_at rfl, ← e_2_0] at hg; have a0 := (rng_F hI.1 448 28000 rfl e_30_0); unfold In at a0; have a1 := i64a; unfold In at a1; have a2 := r_2_0; unfold In at a2; have a3 := i64; unfold In at a3; have a4 := i6; unfold In at a4; have a5 := (t_mulc 7 (Or.inr e6) r_2_0 rfl).1; have a6 := i84; unfold In at a6; have a7 := t_add e84 i64a (in_c 1 rfl) rfl; have a8 := (in_c 1 rfl); unfold In at a8; have a9 := i23; unfold In at a9; have a10 := t_add e23 r_2_0 (in_c 1 rfl) rfl; have a11 := i75; unfold In at a11; have a12 := t_add e75 i6 (in_c 2 rfl) rfl; have a13 := (in_c 2 rfl); unfold In at a13; have a14 := i14; unfold In at a14; have a15 := t_add e14 i6 (in_c 1 rfl) rfl; omega)⟩
    have n148 : KV (sF (sI (sF s 2 0 z23) 3 z15.toNatClampNeg z76) 2 1 z84) 2 := by have hif : (if (s.1 30 (7 * (s.2.2.1 2 0).toInt.toNat)).toInt = 0 then (1 : Int) else 0) = 1 := if_pos (by rw [← h32]; exact c33); exact kv_st q_1 rfl (rng_F hI.1 0 4000 (q := 2) (j := 0) rfl rfl).1 (by rw [← (show z23 = (sF (sI (sF s 2 0 z23) 3 z15.toNatClampNeg z76) 2 1 z84).2.2.1 2 0 from sF_ne rfl (sI_F (sF_get))), ← e_2_0]; have a0 := (rng_F hI.1 448 28000 rfl e_30_0); unfold In at a0; have a1 := i64a; unfold In at a1; have a2 := r_2_0; unfold In at a2; have a3 := i64; unfold In at a3; have a4 := i6; unfold In at a4; have a5 := (t_mulc 7 (Or.inr e6) r_2_0 rfl).1; have a6 := i84; unfold In at a6; have a7 := t_add e84 i64a (in_c 1 rfl) rfl; have a8 := (in_c 1 rfl); unfold In at a8; have a9 := i23; unfold In at a9; have a10 := t_add e23 r_2_0 (in_c 1 rfl) rfl; have a11 := i75; unfold In at a11; have a12 := t_add e75 i6 (in_c 2 rfl) rfl; have a13 := (in_c 2 rfl); unfold In at a13; have a14 := i14; unfold In at a14; have a15 := t_add e14 i6 (in_c 1 rfl) rfl; omega) (by rw [hif, ← (show z84 = (sF (sI (sF s 2 0 z23) 3 z15.toNatClampNeg z76) 2 1 z84).2.2.1 2 1 from sF_get), ← e_2_1]; have a0 := (rng_F hI.1 448 28000 rfl e_30_0); unfold In at a0; have a1 := i64a; unfold In at a1; have a2 := r_2_0; unfold In at a2; have a3 := i64; unfold In at a3; have a4 := i6; unfold In at a4; have a5 := (t_mulc 7 (Or.inr e6) r_2_0 rfl).1; have a6 := i84; unfold In at a6; have a7 := t_add e84 i64a (in_c 1 rfl) rfl; have a8 := (in_c 1 rfl); unfold In at a8; have a9 := i23; unfold In at a9; have a10 := t_add e23 r_2_0 (in_c 1 rfl) rfl; have a11 := i75; unfold In at a11; have a12 := t_add e75 i6 (in_c 2 rfl) rfl; have a13 := (in_c 2 rfl); unfold In at a13; have a14 := i14; unfold In at a14; have a15 := t_add e14 i6 (in_c 1 rfl) rfl; omega) (kn_up q_1.2 (by rw [← (show z84 = (sF (sI (sF s 2 0 z23) 3 z15.toNatClampNeg z76) 2 1 z84).2.2.1 2 1 from sF_get), ← e_2_1]; have a0 := (rng_F hI.1 448 28000 rfl e_30_0); unfold In at a0; have a1 := i64a; unfold In at a1; have a2 := r_2_0; unfold In at a2; have a3 := i64; unfold In at a3; have a4 := i6; unfold In at a4; have a5 := (t_mulc 7 (Or.inr e6) r_2_0 rfl).1; have a6 := i84; unfold In at a6; have a7 := t_add e84 i64a (in_c 1 rfl) rfl; have a8 := (in_c 1 rfl); unfold In at a8; have a9 := i23; unfold In at a9; have a10 := t_add e23 r_2_0 (in_c 1 rfl) rfl; have a11 := i75; unfold In at a11; have a12 := t_add e75 i6 (in_c 2 rfl) rfl; have a13 := (in_c 2 rfl); unfold In at a13; have a14 := i14; unfold In at a14; have a15 := t_add e14 i6 (in_c 1 rfl) rfl; omega))
    have n148a : (z23).toInt = (u_2_0).toInt + 1 := by have a0 := (rng_F hI.1 448 28000 rfl e_30_0); unfold In at a0; have a1 := i64a; unfold In at a1; have a2 := r_2_0; unfold In at a2; have a3 := i64; unfold In at a3; have a4 := i6; unfold In at a4; have a5 := (t_mulc 7 (Or.inr e6) r_2_0 rfl).1; have a6 := i84; unfold In at a6; have a7 := t_add e84 i64a (in_c 1 rfl) rfl; have a8 := (in_c 1 rfl); unfold In at a8; have a9 := i23; unfold In at a9; have a10 := t_add e23 r_2_0 (in_c 1 rfl) rfl; have a11 := i75; unfold In at a11; have a12 := t_add e75 i6 (in_c 2 rfl) rfl; have a13 := (in_c 2 rfl); unfold In at a13; have a14 := i14; unfold In at a14; have a15 := t_add e14 i6 (in_c 1 rfl) rfl; omega
    have n148b : ((sF (sI (sF s 2 0 z23) 3 z15.toNatClampNeg z76) 2 1 z84).2.2.1 2 0).toInt = (s.2.2.1 2 0).toInt + 1 := by have b0 : z23 = (sF (sI (sF s 2 0 z23) 3 z15.toNatClampNeg z76) 2 1 z84).2.2.1 2 0 := sF_ne rfl (sI_F (sF_get)); first | (rw [← b0, ← e_2_0]; exact n148a) | (rw [← b0]; exact n148a)
    exact g_return (gd rfl) rfl (hP _ _ ⟨(sF (sI (sF s 2 0 z23) 3 z15.toNatClampNeg z76) 2 1 z84), hI148, (fr_sF rfl (fr_sI rfl (fr_sF rfl fr_rf))), n148b, rfl, rfl, n148⟩)
  · skip
    have i33 := sw_eq c33
    have h32 : z32 = s.1 30 (7 * (s.2.2.1 2 0).toInt.toNat) := rw7_v (c := 0) (by have a0 := (rng_F hI.1 448 28000 rfl e_30_0); unfold In at a0; have a1 := (rng_F hI.1 0 32 rfl e_2_1); unfold In at a1; have a2 := r_2_0; unfold In at a2; have a3 := i6; unfold In at a3; have a4 := (t_mulc 7 (Or.inr e6) r_2_0 rfl).1; have a5 := i23; unfold In at a5; have a6 := t_add e23 r_2_0 (in_c 1 rfl) rfl; have a7 := (in_c 1 rfl); unfold In at a7; have a8 := i14; unfold In at a8; have a9 := t_add e14 i6 (in_c 1 rfl) rfl; omega) e32
    have hr := rw7_1 q_0 hk e32 c33
    have i91 : In z15 0 159 := by rw [hp]; exact hr.1
    refine g_aload_n 92 (gd rfl) rfl rfl ?_
    refine g_aload_n 93 (gd rfl) rfl rfl ?_
    refine g_iload_n 94 (gd rfl) rfl rfl ?_
    refine g_iload_n 95 (gd rfl) rfl rfl ?_
    have v95 : u_30_0 = (sF s 2 0 z23).2.2.1 30 0 := sF_ne rfl (e_30_0)
    have n95 : (z6).toInt + 7 ≤ (u_30_0).toInt := by have a0 := (rng_F hI.1 448 28000 rfl e_30_0); unfold In at a0; have a1 := (rng_F hI.1 0 32 rfl e_2_1); unfold In at a1; have a2 := r_2_0; unfold In at a2; have a3 := i91; unfold In at a3; have a4 := i6; unfold In at a4; have a5 := (t_mulc 7 (Or.inr e6) r_2_0 rfl).1; have a6 := i23; unfold In at a6; have a7 := t_add e23 r_2_0 (in_c 1 rfl) rfl; have a8 := (in_c 1 rfl); unfold In at a8; have a9 := i14; unfold In at a9; have a10 := t_add e14 i6 (in_c 1 rfl) rfl; omega
    have p95 : In ((sF s 2 0 z23).1 30 ((z6).toInt + 2).toNat) (0) 31 := by show In (s.1 30 ((z6).toInt + 2).toNat) 0 31; rw [(show s.1 30 ((z6).toInt + 2).toNat = s.1 30 (7 * (s.2.2.1 2 0).toInt.toNat + 2) from congrArg (s.1 30) (by have a0 := (rng_F hI.1 448 28000 rfl e_30_0); unfold In at a0; have a1 := (rng_F hI.1 0 32 rfl e_2_1); unfold In at a1; have a2 := r_2_0; unfold In at a2; have a3 := i91; unfold In at a3; have a4 := i6; unfold In at a4; have a5 := (t_mulc 7 (Or.inr e6) r_2_0 rfl).1; have a6 := i23; unfold In at a6; have a7 := t_add e23 r_2_0 (in_c 1 rfl) rfl; have a8 := (in_c 1 rfl); unfold In at a8; have a9 := i14; unfold In at a9; have a10 := t_add e14 i6 (in_c 1 rfl) rfl; omega))]; have h1 := hr.2.1; have h2 := q_1.1; have h3 := rng_F hI.1 0 32 (q := 2) (j := 1) rfl rfl; unfold In at h3; exact ⟨by omega, by omega⟩
    have p95a : In ((sF s 2 0 z23).1 30 ((z6).toInt + 3).toNat) (0) 31 := by show In (s.1 30 ((z6).toInt + 3).toNat) 0 31; rw [(show s.1 30 ((z6).toInt + 3).toNat = s.1 30 (7 * (s.2.2.1 2 0).toInt.toNat + 3) from congrArg (s.1 30) (by have a0 := (rng_F hI.1 448 28000 rfl e_30_0); unfold In at a0; have a1 := (rng_F hI.1 0 32 rfl e_2_1); unfold In at a1; have a2 := r_2_0; unfold In at a2; have a3 := i91; unfold In at a3; have a4 := i6; unfold In at a4; have a5 := (t_mulc 7 (Or.inr e6) r_2_0 rfl).1; have a6 := i23; unfold In at a6; have a7 := t_add e23 r_2_0 (in_c 1 rfl) rfl; have a8 := (in_c 1 rfl); unfold In at a8; have a9 := i14; unfold In at a9; have a10 := t_add e14 i6 (in_c 1 rfl) rfl; omega))]; have h1 := hr.2.2.1; have h2 := q_1.1; have h3 := rng_F hI.1 0 32 (q := 2) (j := 1) rfl rfl; unfold In at h3; exact ⟨by omega, by omega⟩
    have p95b : In ((sF s 2 0 z23).1 30 ((z6).toInt + 4).toNat) (-1000000) 1000000 := by show In (s.1 30 ((z6).toInt + 4).toNat) _ _; rw [(show s.1 30 ((z6).toInt + 4).toNat = s.1 30 (7 * (s.2.2.1 2 0).toInt.toNat + 4) from congrArg (s.1 30) (by have a0 := (rng_F hI.1 448 28000 rfl e_30_0); unfold In at a0; have a1 := (rng_F hI.1 0 32 rfl e_2_1); unfold In at a1; have a2 := r_2_0; unfold In at a2; have a3 := i91; unfold In at a3; have a4 := i6; unfold In at a4; have a5 := (t_mulc 7 (Or.inr e6) r_2_0 rfl).1; have a6 := i23; unfold In at a6; have a7 := t_add e23 r_2_0 (in_c 1 rfl) rfl; have a8 := (in_c 1 rfl); unfold In at a8; have a9 := i14; unfold In at a9; have a10 := t_add e14 i6 (in_c 1 rfl) rfl; omega))]; exact hr.2.2.2.1
    have p95c : In ((sF s 2 0 z23).1 30 ((z6).toInt + 5).toNat) (0) 1000000 := by show In (s.1 30 ((z6).toInt + 5).toNat) _ _; rw [(show s.1 30 ((z6).toInt + 5).toNat = s.1 30 (7 * (s.2.2.1 2 0).toInt.toNat + 5) from congrArg (s.1 30) (by have a0 := (rng_F hI.1 448 28000 rfl e_30_0); unfold In at a0; have a1 := (rng_F hI.1 0 32 rfl e_2_1); unfold In at a1; have a2 := r_2_0; unfold In at a2; have a3 := i91; unfold In at a3; have a4 := i6; unfold In at a4; have a5 := (t_mulc 7 (Or.inr e6) r_2_0 rfl).1; have a6 := i23; unfold In at a6; have a7 := t_add e23 r_2_0 (in_c 1 rfl) rfl; have a8 := (in_c 1 rfl); unfold In at a8; have a9 := i14; unfold In at a9; have a10 := t_add e14 i6 (in_c 1 rfl) rfl; omega))]; exact hr.2.2.2.2.1
    have p95d : In ((sF s 2 0 z23).1 30 ((z6).toInt + 6).toNat) (0) 25 := by show In (s.1 30 ((z6).toInt + 6).toNat) _ _; rw [(show s.1 30 ((z6).toInt + 6).toNat = s.1 30 (7 * (s.2.2.1 2 0).toInt.toNat + 6) from congrArg (s.1 30) (by have a0 := (rng_F hI.1 448 28000 rfl e_30_0); unfold In at a0; have a1 := (rng_F hI.1 0 32 rfl e_2_1); unfold In at a1; have a2 := r_2_0; unfold In at a2; have a3 := i91; unfold In at a3; have a4 := i6; unfold In at a4; have a5 := (t_mulc 7 (Or.inr e6) r_2_0 rfl).1; have a6 := i23; unfold In at a6; have a7 := t_add e23 r_2_0 (in_c 1 rfl) rfl; have a8 := (in_c 1 rfl); unfold In at a8; have a9 := i14; unfold In at a9; have a10 := t_add e14 i6 (in_c 1 rfl) rfl; omega))]; exact hr.2.2.2.2.2
    refine g_callv (X := _) (As := [.ref (A 2), .int z6, .int z15]) (r := []) (b := A 1) (q := 1) 98 (gd rfl) rfl rfl rfl rfl rfl (ww_o rfl) (Nat.le_of_ble_eq_true rfl) (Nat.zero_le _) (Nat.zero_le _) (k_132_1_2 (by omega) hI24 (in_w 0 27993 i6 rfl) (in_w 0 159 i91 rfl) v95 n95 p95 p95a p95b p95c p95d) (fun e u h => h) (fun v u h => ?_)
    obtain ⟨s95, hI95, hF95, rfl, rfl, p95e, p95f⟩ := h
    show GG _ _ _ _ _ _ _ _ [] _ _ _
    refine g_goto 148 (gd rfl) rfl ?_
    have hI148 : Inv s95 := by have hFF : Fr fm_131_1_2 s s95 := (fr_tr rfl (fr_sF rfl fr_rf) hF95); exact ⟨hI95, kk_ap2 hI.2 hFF rfl (by rw [hFF.2.2.1 2 4 rfl, ← (show z23 = s95.2.2.1 2 0 from fr_F (s := (sF s 2 0 z23)) (sF_get) hF95 rfl)]; have hg := hI.2.1.1; rw [mF_at rfl, mF_at rfl, ← e_2_0] at hg; have a0 := (rng_F hI.1 448 28000 rfl e_30_0); unfold In at a0; have a1 := (rng_F hI.1 0 32 rfl e_2_1); unfold In at a1; have a2 := r_2_0; unfold In at a2; have a3 := i91; unfold In at a3; have a4 := i6; unfold In at a4; have a5 := (t_mulc 7 (Or.inr e6) r_2_0 rfl).1; have a6 := i23; unfold In at a6; have a7 := t_add e23 r_2_0 (in_c 1 rfl) rfl; have a8 := (in_c 1 rfl); unfold In at a8; have a9 := i14; unfold In at a9; have a10 := t_add e14 i6 (in_c 1 rfl) rfl; omega)⟩
    have n148 : KV s95 2 := by have hif : (if (s.1 30 (7 * (s.2.2.1 2 0).toInt.toNat)).toInt = 0 then (1 : Int) else 0) = 0 := if_neg (by rw [← h32]; have a0 := (rng_F hI.1 448 28000 rfl e_30_0); unfold In at a0; have a1 := (rng_F hI.1 0 32 rfl e_2_1); unfold In at a1; have a2 := r_2_0; unfold In at a2; have a3 := i91; unfold In at a3; have a4 := i6; unfold In at a4; have a5 := (t_mulc 7 (Or.inr e6) r_2_0 rfl).1; have a6 := i23; unfold In at a6; have a7 := t_add e23 r_2_0 (in_c 1 rfl) rfl; have a8 := (in_c 1 rfl); unfold In at a8; have a9 := i14; unfold In at a9; have a10 := t_add e14 i6 (in_c 1 rfl) rfl; omega); exact kv_st q_1 (hF95.1 30 rfl) (rng_F hI.1 0 4000 (q := 2) (j := 0) rfl rfl).1 (by rw [← (show z23 = s95.2.2.1 2 0 from fr_F (s := (sF s 2 0 z23)) (sF_get) hF95 rfl), ← e_2_0]; have a0 := (rng_F hI.1 448 28000 rfl e_30_0); unfold In at a0; have a1 := (rng_F hI.1 0 32 rfl e_2_1); unfold In at a1; have a2 := r_2_0; unfold In at a2; have a3 := i91; unfold In at a3; have a4 := i6; unfold In at a4; have a5 := (t_mulc 7 (Or.inr e6) r_2_0 rfl).1; have a6 := i23; unfold In at a6; have a7 := t_add e23 r_2_0 (in_c 1 rfl) rfl; have a8 := (in_c 1 rfl); unfold In at a8; have a9 := i14; unfold In at a9; have a10 := t_add e14 i6 (in_c 1 rfl) rfl; omega) (by rw [hif, ← (show u_2_1 = s95.2.2.1 2 1 from fr_F (s := (sF s 2 0 z23)) (sF_ne rfl (e_2_1)) hF95 rfl), ← e_2_1]; omega) (by rw [← (show u_2_1 = s95.2.2.1 2 1 from fr_F (s := (sF s 2 0 z23)) (sF_ne rfl (e_2_1)) hF95 rfl), e_2_1]; exact (by rw [p95e, p95f]; show KN (upd (s.1 4) _ (s.1 30 ((z6).toInt + 2).toNat)) (upd (s.1 5) _ (s.1 30 ((z6).toInt + 3).toNat)) _; rw [(show s.1 30 ((z6).toInt + 2).toNat = s.1 30 (7 * (s.2.2.1 2 0).toInt.toNat + 2) from congrArg (s.1 30) (by have a0 := (rng_F hI.1 448 28000 rfl e_30_0); unfold In at a0; have a1 := (rng_F hI.1 0 32 rfl e_2_1); unfold In at a1; have a2 := r_2_0; unfold In at a2; have a3 := i91; unfold In at a3; have a4 := i6; unfold In at a4; have a5 := (t_mulc 7 (Or.inr e6) r_2_0 rfl).1; have a6 := i23; unfold In at a6; have a7 := t_add e23 r_2_0 (in_c 1 rfl) rfl; have a8 := (in_c 1 rfl); unfold In at a8; have a9 := i14; unfold In at a9; have a10 := t_add e14 i6 (in_c 1 rfl) rfl; omega)), (show s.1 30 ((z6).toInt + 3).toNat = s.1 30 (7 * (s.2.2.1 2 0).toInt.toNat + 3) from congrArg (s.1 30) (by have a0 := (rng_F hI.1 448 28000 rfl e_30_0); unfold In at a0; have a1 := (rng_F hI.1 0 32 rfl e_2_1); unfold In at a1; have a2 := r_2_0; unfold In at a2; have a3 := i91; unfold In at a3; have a4 := i6; unfold In at a4; have a5 := (t_mulc 7 (Or.inr e6) r_2_0 rfl).1; have a6 := i23; unfold In at a6; have a7 := t_add e23 r_2_0 (in_c 1 rfl) rfl; have a8 := (in_c 1 rfl); unfold In at a8; have a9 := i14; unfold In at a9; have a10 := t_add e14 i6 (in_c 1 rfl) rfl; omega))]; exact kn_ar q_1.2 (by rw [q_1.1]; exact hr.2.1) (by rw [q_1.1]; exact hr.2.2.1)))
    have n148a : (z23).toInt = (u_2_0).toInt + 1 := by have a0 := (rng_F hI.1 448 28000 rfl e_30_0); unfold In at a0; have a1 := (rng_F hI.1 0 32 rfl e_2_1); unfold In at a1; have a2 := r_2_0; unfold In at a2; have a3 := i91; unfold In at a3; have a4 := i6; unfold In at a4; have a5 := (t_mulc 7 (Or.inr e6) r_2_0 rfl).1; have a6 := i23; unfold In at a6; have a7 := t_add e23 r_2_0 (in_c 1 rfl) rfl; have a8 := (in_c 1 rfl); unfold In at a8; have a9 := i14; unfold In at a9; have a10 := t_add e14 i6 (in_c 1 rfl) rfl; omega
    have n148b : (s95.2.2.1 2 0).toInt = (s.2.2.1 2 0).toInt + 1 := by have b0 : z23 = s95.2.2.1 2 0 := fr_F (s := (sF s 2 0 z23)) (sF_get) hF95 rfl; first | (rw [← b0, ← e_2_0]; exact n148a) | (rw [← b0]; exact n148a)
    exact g_return (gd rfl) rfl (hP _ _ ⟨s95, hI148, (fr_tr rfl (fr_sF rfl fr_rf) hF95), n148b, rfl, rfl, n148⟩)
  · skip
    have i33 := sw_eq c33
    have h32 : z32 = s.1 30 (7 * (s.2.2.1 2 0).toInt.toNat) := rw7_v (c := 0) (by have a0 := (rng_F hI.1 448 28000 rfl e_30_0); unfold In at a0; have a1 := (rng_F hI.1 0 32 rfl e_2_1); unfold In at a1; have a2 := r_2_0; unfold In at a2; have a3 := i6; unfold In at a3; have a4 := (t_mulc 7 (Or.inr e6) r_2_0 rfl).1; have a5 := i23; unfold In at a5; have a6 := t_add e23 r_2_0 (in_c 1 rfl) rfl; have a7 := (in_c 1 rfl); unfold In at a7; have a8 := i14; unfold In at a8; have a9 := t_add e14 i6 (in_c 1 rfl) rfl; omega) e32
    have hr := rw7_2 q_0 hk e32 c33
    have i101 : In z15 0 159 := by rw [hp]; exact hr
    refine g_aload_n 102 (gd rfl) rfl rfl ?_
    refine g_iload_n 103 (gd rfl) rfl rfl ?_
    refine g_callv (X := _) (As := [.int z15]) (r := []) (b := A 2) (q := 2) 106 (gd rfl) rfl rfl rfl rfl rfl (ww_o rfl) (Nat.le_of_ble_eq_true rfl) (Nat.zero_le _) (Nat.zero_le _) (k_105_2 (by omega) hI24 (in_w 0 159 i101 rfl)) (fun e u h => h) (fun v u h => ?_)
    obtain ⟨s103, hI103, hF103, rfl, rfl, p103⟩ := h
    show GG _ _ _ _ _ _ _ _ [] _ _ _
    refine g_goto 148 (gd rfl) rfl ?_
    have hI148 : Inv s103 := by have hFF : Fr fm_131_1_2 s s103 := (fr_tr rfl (fr_sF rfl fr_rf) hF103); exact ⟨hI103, kk_ap2 hI.2 hFF rfl (by rw [hFF.2.2.1 2 4 rfl, ← (show z23 = s103.2.2.1 2 0 from fr_F (s := (sF s 2 0 z23)) (sF_get) hF103 rfl)]; have hg := hI.2.1.1; rw [mF_at rfl, mF_at rfl, ← e_2_0] at hg; have a0 := (rng_F hI.1 448 28000 rfl e_30_0); unfold In at a0; have a1 := (rng_F hI.1 0 32 rfl e_2_1); unfold In at a1; have a2 := r_2_0; unfold In at a2; have a3 := i101; unfold In at a3; have a4 := i6; unfold In at a4; have a5 := (t_mulc 7 (Or.inr e6) r_2_0 rfl).1; have a6 := i23; unfold In at a6; have a7 := t_add e23 r_2_0 (in_c 1 rfl) rfl; have a8 := (in_c 1 rfl); unfold In at a8; have a9 := i14; unfold In at a9; have a10 := t_add e14 i6 (in_c 1 rfl) rfl; omega)⟩
    have n148 : KV s103 2 := by have hif : (if (s.1 30 (7 * (s.2.2.1 2 0).toInt.toNat)).toInt = 0 then (1 : Int) else 0) = 0 := if_neg (by rw [← h32]; have a0 := (rng_F hI.1 448 28000 rfl e_30_0); unfold In at a0; have a1 := (rng_F hI.1 0 32 rfl e_2_1); unfold In at a1; have a2 := r_2_0; unfold In at a2; have a3 := i101; unfold In at a3; have a4 := i6; unfold In at a4; have a5 := (t_mulc 7 (Or.inr e6) r_2_0 rfl).1; have a6 := i23; unfold In at a6; have a7 := t_add e23 r_2_0 (in_c 1 rfl) rfl; have a8 := (in_c 1 rfl); unfold In at a8; have a9 := i14; unfold In at a9; have a10 := t_add e14 i6 (in_c 1 rfl) rfl; omega); exact kv_st q_1 (hF103.1 30 rfl) (rng_F hI.1 0 4000 (q := 2) (j := 0) rfl rfl).1 (by rw [← (show z23 = s103.2.2.1 2 0 from fr_F (s := (sF s 2 0 z23)) (sF_get) hF103 rfl), ← e_2_0]; have a0 := (rng_F hI.1 448 28000 rfl e_30_0); unfold In at a0; have a1 := (rng_F hI.1 0 32 rfl e_2_1); unfold In at a1; have a2 := r_2_0; unfold In at a2; have a3 := i101; unfold In at a3; have a4 := i6; unfold In at a4; have a5 := (t_mulc 7 (Or.inr e6) r_2_0 rfl).1; have a6 := i23; unfold In at a6; have a7 := t_add e23 r_2_0 (in_c 1 rfl) rfl; have a8 := (in_c 1 rfl); unfold In at a8; have a9 := i14; unfold In at a9; have a10 := t_add e14 i6 (in_c 1 rfl) rfl; omega) (by rw [hif, ← (show u_2_1 = s103.2.2.1 2 1 from fr_F (s := (sF s 2 0 z23)) (sF_ne rfl (e_2_1)) hF103 rfl), ← e_2_1]; omega) (by rw [← (show u_2_1 = s103.2.2.1 2 1 from fr_F (s := (sF s 2 0 z23)) (sF_ne rfl (e_2_1)) hF103 rfl), e_2_1]; exact (by rw [p103, hF103.1 5 rfl]; exact kn_dr q_1.2 (by decide)))
    have n148a : (z23).toInt = (u_2_0).toInt + 1 := by have a0 := (rng_F hI.1 448 28000 rfl e_30_0); unfold In at a0; have a1 := (rng_F hI.1 0 32 rfl e_2_1); unfold In at a1; have a2 := r_2_0; unfold In at a2; have a3 := i101; unfold In at a3; have a4 := i6; unfold In at a4; have a5 := (t_mulc 7 (Or.inr e6) r_2_0 rfl).1; have a6 := i23; unfold In at a6; have a7 := t_add e23 r_2_0 (in_c 1 rfl) rfl; have a8 := (in_c 1 rfl); unfold In at a8; have a9 := i14; unfold In at a9; have a10 := t_add e14 i6 (in_c 1 rfl) rfl; omega
    have n148b : (s103.2.2.1 2 0).toInt = (s.2.2.1 2 0).toInt + 1 := by have b0 : z23 = s103.2.2.1 2 0 := fr_F (s := (sF s 2 0 z23)) (sF_get) hF103 rfl; first | (rw [← b0, ← e_2_0]; exact n148a) | (rw [← b0]; exact n148a)
    exact g_return (gd rfl) rfl (hP _ _ ⟨s103, hI148, (fr_tr rfl (fr_sF rfl fr_rf) hF103), n148b, rfl, rfl, n148⟩)
  · skip
    have i33 := sw_eq c33
    have h32 : z32 = s.1 30 (7 * (s.2.2.1 2 0).toInt.toNat) := rw7_v (c := 0) (by have a0 := (rng_F hI.1 448 28000 rfl e_30_0); unfold In at a0; have a1 := (rng_F hI.1 0 32 rfl e_2_1); unfold In at a1; have a2 := r_2_0; unfold In at a2; have a3 := i6; unfold In at a3; have a4 := (t_mulc 7 (Or.inr e6) r_2_0 rfl).1; have a5 := i23; unfold In at a5; have a6 := t_add e23 r_2_0 (in_c 1 rfl) rfl; have a7 := (in_c 1 rfl); unfold In at a7; have a8 := i14; unfold In at a8; have a9 := t_add e14 i6 (in_c 1 rfl) rfl; omega) e32
    have hr := rw7_3 q_0 hk e32 c33
    have i109 : In z15 0 159 := by rw [hp]; exact hr.1
    refine g_aload_n 110 (gd rfl) rfl rfl ?_
    refine g_aload_n 111 (gd rfl) rfl rfl ?_
    refine g_iload_n 112 (gd rfl) rfl rfl ?_
    refine g_aload_n 113 (gd rfl) rfl rfl ?_
    refine g_getA (q2 := 30) 116 (gd rfl) rfl rfl rfl rfl ?_
    refine g_iload_n 117 (gd rfl) rfl rfl ?_
    refine g_iconst 2 118 (gd rfl) rfl rfl ?_
    refine g_iadd 119 (gd rfl) rfl (fun z118 e118 => ?_)
    have i118 := in_add 2 27995 e118 i6 (in_c 2 rfl) rfl rfl
    have hx119 : vp_in z118 ((sF s 2 0 z23).2.2.1 30 0).toNatClampNeg := lg_in (by have a0 := (rng_F hI.1 448 28000 rfl e_30_0); unfold In at a0; have a1 := (rng_F hI.1 0 32 rfl e_2_1); unfold In at a1; have a2 := r_2_0; unfold In at a2; have a3 := i109; unfold In at a3; have a4 := i6; unfold In at a4; have a5 := (t_mulc 7 (Or.inr e6) r_2_0 rfl).1; have a6 := i23; unfold In at a6; have a7 := t_add e23 r_2_0 (in_c 1 rfl) rfl; have a8 := (in_c 1 rfl); unfold In at a8; have a9 := i118; unfold In at a9; have a10 := t_add e118 i6 (in_c 2 rfl) rfl; have a11 := (in_c 2 rfl); unfold In at a11; have a12 := i14; unfold In at a12; have a13 := t_add e14 i6 (in_c 1 rfl) rfl; omega) (by rw [← (show u_30_0 = (sF s 2 0 z23).2.2.1 30 0 from sF_ne rfl (e_30_0))]; have a0 := (rng_F hI.1 448 28000 rfl e_30_0); unfold In at a0; have a1 := (rng_F hI.1 0 32 rfl e_2_1); unfold In at a1; have a2 := r_2_0; unfold In at a2; have a3 := i109; unfold In at a3; have a4 := i6; unfold In at a4; have a5 := (t_mulc 7 (Or.inr e6) r_2_0 rfl).1; have a6 := i23; unfold In at a6; have a7 := t_add e23 r_2_0 (in_c 1 rfl) rfl; have a8 := (in_c 1 rfl); unfold In at a8; have a9 := i118; unfold In at a9; have a10 := t_add e118 i6 (in_c 2 rfl) rfl; have a11 := (in_c 2 rfl); unfold In at a11; have a12 := i14; unfold In at a12; have a13 := t_add e14 i6 (in_c 1 rfl) rfl; omega)
    refine g_lgload 120 (gd rfl) rfl hx119 (fun z119 e119 => ?_)
    refine g_aload_n 121 (gd rfl) rfl rfl ?_
    refine g_getA (q2 := 30) 124 (gd rfl) rfl rfl rfl rfl ?_
    refine g_iload_n 125 (gd rfl) rfl rfl ?_
    refine g_iconst 3 126 (gd rfl) rfl rfl ?_
    refine g_iadd 127 (gd rfl) rfl (fun z126 e126 => ?_)
    have i126 := in_add 3 27996 e126 i6 (in_c 3 rfl) rfl rfl
    have hx127 : vp_in z126 ((sF s 2 0 z23).2.2.1 30 0).toNatClampNeg := lg_in (by have a0 := (rng_F hI.1 448 28000 rfl e_30_0); unfold In at a0; have a1 := (rng_F hI.1 0 32 rfl e_2_1); unfold In at a1; have a2 := r_2_0; unfold In at a2; have a3 := i109; unfold In at a3; have a4 := i6; unfold In at a4; have a5 := (t_mulc 7 (Or.inr e6) r_2_0 rfl).1; have a6 := i23; unfold In at a6; have a7 := t_add e23 r_2_0 (in_c 1 rfl) rfl; have a8 := (in_c 1 rfl); unfold In at a8; have a9 := i126; unfold In at a9; have a10 := t_add e126 i6 (in_c 3 rfl) rfl; have a11 := (in_c 3 rfl); unfold In at a11; have a12 := i118; unfold In at a12; have a13 := t_add e118 i6 (in_c 2 rfl) rfl; have a14 := (in_c 2 rfl); unfold In at a14; have a15 := i14; unfold In at a15; have a16 := t_add e14 i6 (in_c 1 rfl) rfl; omega) (by rw [← (show u_30_0 = (sF s 2 0 z23).2.2.1 30 0 from sF_ne rfl (e_30_0))]; have a0 := (rng_F hI.1 448 28000 rfl e_30_0); unfold In at a0; have a1 := (rng_F hI.1 0 32 rfl e_2_1); unfold In at a1; have a2 := r_2_0; unfold In at a2; have a3 := i109; unfold In at a3; have a4 := i6; unfold In at a4; have a5 := (t_mulc 7 (Or.inr e6) r_2_0 rfl).1; have a6 := i23; unfold In at a6; have a7 := t_add e23 r_2_0 (in_c 1 rfl) rfl; have a8 := (in_c 1 rfl); unfold In at a8; have a9 := i126; unfold In at a9; have a10 := t_add e126 i6 (in_c 3 rfl) rfl; have a11 := (in_c 3 rfl); unfold In at a11; have a12 := i118; unfold In at a12; have a13 := t_add e118 i6 (in_c 2 rfl) rfl; have a14 := (in_c 2 rfl); unfold In at a14; have a15 := i14; unfold In at a15; have a16 := t_add e14 i6 (in_c 1 rfl) rfl; omega)
    refine g_lgload 128 (gd rfl) rfl hx127 (fun z127 e127 => ?_)
    have p128 : (z119).toInt = 0 → In z127 (-1000000) 1000000 := by rw [rw7_v (k := (s.2.2.1 2 0).toInt.toNat) (c := 2) (by have a0 := (rng_F hI.1 448 28000 rfl e_30_0); unfold In at a0; have a1 := (rng_F hI.1 0 32 rfl e_2_1); unfold In at a1; have a2 := r_2_0; unfold In at a2; have a3 := i109; unfold In at a3; have a4 := i6; unfold In at a4; have a5 := (t_mulc 7 (Or.inr e6) r_2_0 rfl).1; have a6 := i23; unfold In at a6; have a7 := t_add e23 r_2_0 (in_c 1 rfl) rfl; have a8 := (in_c 1 rfl); unfold In at a8; have a9 := i126; unfold In at a9; have a10 := t_add e126 i6 (in_c 3 rfl) rfl; have a11 := (in_c 3 rfl); unfold In at a11; have a12 := i118; unfold In at a12; have a13 := t_add e118 i6 (in_c 2 rfl) rfl; have a14 := (in_c 2 rfl); unfold In at a14; have a15 := i14; unfold In at a15; have a16 := t_add e14 i6 (in_c 1 rfl) rfl; omega) e119, rw7_v (k := (s.2.2.1 2 0).toInt.toNat) (c := 3) (by have a0 := (rng_F hI.1 448 28000 rfl e_30_0); unfold In at a0; have a1 := (rng_F hI.1 0 32 rfl e_2_1); unfold In at a1; have a2 := r_2_0; unfold In at a2; have a3 := i109; unfold In at a3; have a4 := i6; unfold In at a4; have a5 := (t_mulc 7 (Or.inr e6) r_2_0 rfl).1; have a6 := i23; unfold In at a6; have a7 := t_add e23 r_2_0 (in_c 1 rfl) rfl; have a8 := (in_c 1 rfl); unfold In at a8; have a9 := i126; unfold In at a9; have a10 := t_add e126 i6 (in_c 3 rfl) rfl; have a11 := (in_c 3 rfl); unfold In at a11; have a12 := i118; unfold In at a12; have a13 := t_add e118 i6 (in_c 2 rfl) rfl; have a14 := (in_c 2 rfl); unfold In at a14; have a15 := i14; unfold In at a15; have a16 := t_add e14 i6 (in_c 1 rfl) rfl; omega) e127]; exact hr.2.1
    have p128a : (z119).toInt = 1 → In z127 0 1000000 := by rw [rw7_v (k := (s.2.2.1 2 0).toInt.toNat) (c := 2) (by have a0 := (rng_F hI.1 448 28000 rfl e_30_0); unfold In at a0; have a1 := (rng_F hI.1 0 32 rfl e_2_1); unfold In at a1; have a2 := r_2_0; unfold In at a2; have a3 := i109; unfold In at a3; have a4 := i6; unfold In at a4; have a5 := (t_mulc 7 (Or.inr e6) r_2_0 rfl).1; have a6 := i23; unfold In at a6; have a7 := t_add e23 r_2_0 (in_c 1 rfl) rfl; have a8 := (in_c 1 rfl); unfold In at a8; have a9 := i126; unfold In at a9; have a10 := t_add e126 i6 (in_c 3 rfl) rfl; have a11 := (in_c 3 rfl); unfold In at a11; have a12 := i118; unfold In at a12; have a13 := t_add e118 i6 (in_c 2 rfl) rfl; have a14 := (in_c 2 rfl); unfold In at a14; have a15 := i14; unfold In at a15; have a16 := t_add e14 i6 (in_c 1 rfl) rfl; omega) e119, rw7_v (k := (s.2.2.1 2 0).toInt.toNat) (c := 3) (by have a0 := (rng_F hI.1 448 28000 rfl e_30_0); unfold In at a0; have a1 := (rng_F hI.1 0 32 rfl e_2_1); unfold In at a1; have a2 := r_2_0; unfold In at a2; have a3 := i109; unfold In at a3; have a4 := i6; unfold In at a4; have a5 := (t_mulc 7 (Or.inr e6) r_2_0 rfl).1; have a6 := i23; unfold In at a6; have a7 := t_add e23 r_2_0 (in_c 1 rfl) rfl; have a8 := (in_c 1 rfl); unfold In at a8; have a9 := i126; unfold In at a9; have a10 := t_add e126 i6 (in_c 3 rfl) rfl; have a11 := (in_c 3 rfl); unfold In at a11; have a12 := i118; unfold In at a12; have a13 := t_add e118 i6 (in_c 2 rfl) rfl; have a14 := (in_c 2 rfl); unfold In at a14; have a15 := i14; unfold In at a15; have a16 := t_add e14 i6 (in_c 1 rfl) rfl; omega) e127]; exact hr.2.2.1
    have p128b : (z119).toInt ≠ 0 → (z119).toInt ≠ 1 → In z127 0 25 := by rw [rw7_v (k := (s.2.2.1 2 0).toInt.toNat) (c := 2) (by have a0 := (rng_F hI.1 448 28000 rfl e_30_0); unfold In at a0; have a1 := (rng_F hI.1 0 32 rfl e_2_1); unfold In at a1; have a2 := r_2_0; unfold In at a2; have a3 := i109; unfold In at a3; have a4 := i6; unfold In at a4; have a5 := (t_mulc 7 (Or.inr e6) r_2_0 rfl).1; have a6 := i23; unfold In at a6; have a7 := t_add e23 r_2_0 (in_c 1 rfl) rfl; have a8 := (in_c 1 rfl); unfold In at a8; have a9 := i126; unfold In at a9; have a10 := t_add e126 i6 (in_c 3 rfl) rfl; have a11 := (in_c 3 rfl); unfold In at a11; have a12 := i118; unfold In at a12; have a13 := t_add e118 i6 (in_c 2 rfl) rfl; have a14 := (in_c 2 rfl); unfold In at a14; have a15 := i14; unfold In at a15; have a16 := t_add e14 i6 (in_c 1 rfl) rfl; omega) e119, rw7_v (k := (s.2.2.1 2 0).toInt.toNat) (c := 3) (by have a0 := (rng_F hI.1 448 28000 rfl e_30_0); unfold In at a0; have a1 := (rng_F hI.1 0 32 rfl e_2_1); unfold In at a1; have a2 := r_2_0; unfold In at a2; have a3 := i109; unfold In at a3; have a4 := i6; unfold In at a4; have a5 := (t_mulc 7 (Or.inr e6) r_2_0 rfl).1; have a6 := i23; unfold In at a6; have a7 := t_add e23 r_2_0 (in_c 1 rfl) rfl; have a8 := (in_c 1 rfl); unfold In at a8; have a9 := i126; unfold In at a9; have a10 := t_add e126 i6 (in_c 3 rfl) rfl; have a11 := (in_c 3 rfl); unfold In at a11; have a12 := i118; unfold In at a12; have a13 := t_add e118 i6 (in_c 2 rfl) rfl; have a14 := (in_c 2 rfl); unfold In at a14; have a15 := i14; unfold In at a15; have a16 := t_add e14 i6 (in_c 1 rfl) rfl; omega) e127]; exact hr.2.2.2
    refine g_callv (X := _) (As := [.ref (A 2), .int z15, .int z119, .int z127]) (r := []) (b := A 1) (q := 1) 131 (gd rfl) rfl rfl rfl rfl rfl (ww_o rfl) (Nat.le_of_ble_eq_true rfl) (Nat.zero_le _) (Nat.zero_le _) (k_133_1_2 (by omega) hI24 (in_w 0 159 i109 rfl) p128 p128a p128b) (fun e u h => h) (fun v u h => ?_)
    obtain ⟨s128, hI128, hF128, rfl, rfl⟩ := h
    show GG _ _ _ _ _ _ _ _ [] _ _ _
    refine g_goto 148 (gd rfl) rfl ?_
    have hI148 : Inv s128 := by have hFF : Fr fm_131_1_2 s s128 := (fr_tr rfl (fr_sF rfl fr_rf) hF128); exact ⟨hI128, kk_ap2 hI.2 hFF rfl (by rw [hFF.2.2.1 2 4 rfl, ← (show z23 = s128.2.2.1 2 0 from fr_F (s := (sF s 2 0 z23)) (sF_get) hF128 rfl)]; have hg := hI.2.1.1; rw [mF_at rfl, mF_at rfl, ← e_2_0] at hg; have a0 := (rng_F hI.1 448 28000 rfl e_30_0); unfold In at a0; have a1 := (rng_F hI.1 0 32 rfl e_2_1); unfold In at a1; have a2 := r_2_0; unfold In at a2; have a3 := i109; unfold In at a3; have a4 := i6; unfold In at a4; have a5 := (t_mulc 7 (Or.inr e6) r_2_0 rfl).1; have a6 := i23; unfold In at a6; have a7 := t_add e23 r_2_0 (in_c 1 rfl) rfl; have a8 := (in_c 1 rfl); unfold In at a8; have a9 := i126; unfold In at a9; have a10 := t_add e126 i6 (in_c 3 rfl) rfl; have a11 := (in_c 3 rfl); unfold In at a11; have a12 := i118; unfold In at a12; have a13 := t_add e118 i6 (in_c 2 rfl) rfl; have a14 := (in_c 2 rfl); unfold In at a14; have a15 := i14; unfold In at a15; have a16 := t_add e14 i6 (in_c 1 rfl) rfl; omega)⟩
    have n148 : KV s128 2 := by have hif : (if (s.1 30 (7 * (s.2.2.1 2 0).toInt.toNat)).toInt = 0 then (1 : Int) else 0) = 0 := if_neg (by rw [← h32]; have a0 := (rng_F hI.1 448 28000 rfl e_30_0); unfold In at a0; have a1 := (rng_F hI.1 0 32 rfl e_2_1); unfold In at a1; have a2 := r_2_0; unfold In at a2; have a3 := i109; unfold In at a3; have a4 := i6; unfold In at a4; have a5 := (t_mulc 7 (Or.inr e6) r_2_0 rfl).1; have a6 := i23; unfold In at a6; have a7 := t_add e23 r_2_0 (in_c 1 rfl) rfl; have a8 := (in_c 1 rfl); unfold In at a8; have a9 := i126; unfold In at a9; have a10 := t_add e126 i6 (in_c 3 rfl) rfl; have a11 := (in_c 3 rfl); unfold In at a11; have a12 := i118; unfold In at a12; have a13 := t_add e118 i6 (in_c 2 rfl) rfl; have a14 := (in_c 2 rfl); unfold In at a14; have a15 := i14; unfold In at a15; have a16 := t_add e14 i6 (in_c 1 rfl) rfl; omega); exact kv_st q_1 (hF128.1 30 rfl) (rng_F hI.1 0 4000 (q := 2) (j := 0) rfl rfl).1 (by rw [← (show z23 = s128.2.2.1 2 0 from fr_F (s := (sF s 2 0 z23)) (sF_get) hF128 rfl), ← e_2_0]; have a0 := (rng_F hI.1 448 28000 rfl e_30_0); unfold In at a0; have a1 := (rng_F hI.1 0 32 rfl e_2_1); unfold In at a1; have a2 := r_2_0; unfold In at a2; have a3 := i109; unfold In at a3; have a4 := i6; unfold In at a4; have a5 := (t_mulc 7 (Or.inr e6) r_2_0 rfl).1; have a6 := i23; unfold In at a6; have a7 := t_add e23 r_2_0 (in_c 1 rfl) rfl; have a8 := (in_c 1 rfl); unfold In at a8; have a9 := i126; unfold In at a9; have a10 := t_add e126 i6 (in_c 3 rfl) rfl; have a11 := (in_c 3 rfl); unfold In at a11; have a12 := i118; unfold In at a12; have a13 := t_add e118 i6 (in_c 2 rfl) rfl; have a14 := (in_c 2 rfl); unfold In at a14; have a15 := i14; unfold In at a15; have a16 := t_add e14 i6 (in_c 1 rfl) rfl; omega) (by rw [hif, ← (show u_2_1 = s128.2.2.1 2 1 from fr_F (s := (sF s 2 0 z23)) (sF_ne rfl (e_2_1)) hF128 rfl), ← e_2_1]; omega) (by rw [← (show u_2_1 = s128.2.2.1 2 1 from fr_F (s := (sF s 2 0 z23)) (sF_ne rfl (e_2_1)) hF128 rfl), e_2_1]; exact (by rw [hF128.1 4 rfl, hF128.1 5 rfl]; exact q_1.2))
    have n148a : (z23).toInt = (u_2_0).toInt + 1 := by have a0 := (rng_F hI.1 448 28000 rfl e_30_0); unfold In at a0; have a1 := (rng_F hI.1 0 32 rfl e_2_1); unfold In at a1; have a2 := r_2_0; unfold In at a2; have a3 := i109; unfold In at a3; have a4 := i6; unfold In at a4; have a5 := (t_mulc 7 (Or.inr e6) r_2_0 rfl).1; have a6 := i23; unfold In at a6; have a7 := t_add e23 r_2_0 (in_c 1 rfl) rfl; have a8 := (in_c 1 rfl); unfold In at a8; have a9 := i126; unfold In at a9; have a10 := t_add e126 i6 (in_c 3 rfl) rfl; have a11 := (in_c 3 rfl); unfold In at a11; have a12 := i118; unfold In at a12; have a13 := t_add e118 i6 (in_c 2 rfl) rfl; have a14 := (in_c 2 rfl); unfold In at a14; have a15 := i14; unfold In at a15; have a16 := t_add e14 i6 (in_c 1 rfl) rfl; omega
    have n148b : (s128.2.2.1 2 0).toInt = (s.2.2.1 2 0).toInt + 1 := by have b0 : z23 = s128.2.2.1 2 0 := fr_F (s := (sF s 2 0 z23)) (sF_get) hF128 rfl; first | (rw [← b0, ← e_2_0]; exact n148a) | (rw [← b0]; exact n148a)
    exact g_return (gd rfl) rfl (hP _ _ ⟨s128, hI148, (fr_tr rfl (fr_sF rfl fr_rf) hF128), n148b, rfl, rfl, n148⟩)
  · skip
    have h32 : z32 = s.1 30 (7 * (s.2.2.1 2 0).toInt.toNat) := rw7_v (c := 0) (by have a0 := (rng_F hI.1 448 28000 rfl e_30_0); unfold In at a0; have a1 := (rng_F hI.1 0 32 rfl e_2_1); unfold In at a1; have a2 := r_2_0; unfold In at a2; have a3 := i6; unfold In at a3; have a4 := (t_mulc 7 (Or.inr e6) r_2_0 rfl).1; have a5 := i23; unfold In at a5; have a6 := t_add e23 r_2_0 (in_c 1 rfl) rfl; have a7 := (in_c 1 rfl); unfold In at a7; have a8 := i14; unfold In at a8; have a9 := t_add e14 i6 (in_c 1 rfl) rfl; omega) e32
    have hr := rw7_4 q_0 hk e32 c33
    have i134 : In z15 0 31 := by rw [hp]; exact hr.1
    refine g_aload_n 135 (gd rfl) rfl rfl ?_
    refine g_getA (q2 := 3) 138 (gd rfl) rfl rfl rfl rfl ?_
    refine g_iload_n 139 (gd rfl) rfl rfl ?_
    refine g_aload_n 140 (gd rfl) rfl rfl ?_
    refine g_getA (q2 := 30) 143 (gd rfl) rfl rfl rfl rfl ?_
    refine g_iload_n 144 (gd rfl) rfl rfl ?_
    refine g_iconst 2 145 (gd rfl) rfl rfl ?_
    refine g_iadd 146 (gd rfl) rfl (fun z145 e145 => ?_)
    have i145 := in_add 2 27995 e145 i6 (in_c 2 rfl) rfl rfl
    have hx146 : vp_in z145 ((sF s 2 0 z23).2.2.1 30 0).toNatClampNeg := lg_in (by have a0 := (rng_F hI.1 448 28000 rfl e_30_0); unfold In at a0; have a1 := (rng_F hI.1 0 32 rfl e_2_1); unfold In at a1; have a2 := r_2_0; unfold In at a2; have a3 := i134; unfold In at a3; have a4 := i6; unfold In at a4; have a5 := (t_mulc 7 (Or.inr e6) r_2_0 rfl).1; have a6 := i23; unfold In at a6; have a7 := t_add e23 r_2_0 (in_c 1 rfl) rfl; have a8 := (in_c 1 rfl); unfold In at a8; have a9 := i145; unfold In at a9; have a10 := t_add e145 i6 (in_c 2 rfl) rfl; have a11 := (in_c 2 rfl); unfold In at a11; have a12 := i14; unfold In at a12; have a13 := t_add e14 i6 (in_c 1 rfl) rfl; omega) (by rw [← (show u_30_0 = (sF s 2 0 z23).2.2.1 30 0 from sF_ne rfl (e_30_0))]; have a0 := (rng_F hI.1 448 28000 rfl e_30_0); unfold In at a0; have a1 := (rng_F hI.1 0 32 rfl e_2_1); unfold In at a1; have a2 := r_2_0; unfold In at a2; have a3 := i134; unfold In at a3; have a4 := i6; unfold In at a4; have a5 := (t_mulc 7 (Or.inr e6) r_2_0 rfl).1; have a6 := i23; unfold In at a6; have a7 := t_add e23 r_2_0 (in_c 1 rfl) rfl; have a8 := (in_c 1 rfl); unfold In at a8; have a9 := i145; unfold In at a9; have a10 := t_add e145 i6 (in_c 2 rfl) rfl; have a11 := (in_c 2 rfl); unfold In at a11; have a12 := i14; unfold In at a12; have a13 := t_add e14 i6 (in_c 1 rfl) rfl; omega)
    refine g_lgload 147 (gd rfl) rfl hx146 (fun z146 e146 => ?_)
    have i147 : In z146 0 25 := by rw [rw7_v (k := (s.2.2.1 2 0).toInt.toNat) (c := 2) (by have a0 := (rng_F hI.1 448 28000 rfl e_30_0); unfold In at a0; have a1 := (rng_F hI.1 0 32 rfl e_2_1); unfold In at a1; have a2 := r_2_0; unfold In at a2; have a3 := i134; unfold In at a3; have a4 := i6; unfold In at a4; have a5 := (t_mulc 7 (Or.inr e6) r_2_0 rfl).1; have a6 := i23; unfold In at a6; have a7 := t_add e23 r_2_0 (in_c 1 rfl) rfl; have a8 := (in_c 1 rfl); unfold In at a8; have a9 := i145; unfold In at a9; have a10 := t_add e145 i6 (in_c 2 rfl) rfl; have a11 := (in_c 2 rfl); unfold In at a11; have a12 := i14; unfold In at a12; have a13 := t_add e14 i6 (in_c 1 rfl) rfl; omega) e146]; exact hr.2
    refine g_iastore 148 (gd rfl) rfl (n := 32) rfl (in_ix i134 rfl) ?_
    have hI147 := rng_sI (q := 3) (j := z15.toNatClampNeg) hI24 rfl (in_w 0 25 i147 rfl)
    have hI148 : Inv (sI (sF s 2 0 z23) 3 z15.toNatClampNeg z146) := by have hFF : Fr fm_131_1_2 s (sI (sF s 2 0 z23) 3 z15.toNatClampNeg z146) := (fr_sI rfl (fr_sF rfl fr_rf)); exact ⟨hI147, kk_ap2 hI.2 hFF rfl (by rw [hFF.2.2.1 2 4 rfl, ← (show z23 = (sI (sF s 2 0 z23) 3 z15.toNatClampNeg z146).2.2.1 2 0 from sI_F (sF_get))]; have hg := hI.2.1.1; rw [mF_at rfl, mF_at rfl, ← e_2_0] at hg; have a0 := (rng_F hI.1 448 28000 rfl e_30_0); unfold In at a0; have a1 := (rng_F hI.1 0 32 rfl e_2_1); unfold In at a1; have a2 := r_2_0; unfold In at a2; have a3 := i134; unfold In at a3; have a4 := i6; unfold In at a4; have a5 := (t_mulc 7 (Or.inr e6) r_2_0 rfl).1; have a6 := i23; unfold In at a6; have a7 := t_add e23 r_2_0 (in_c 1 rfl) rfl; have a8 := (in_c 1 rfl); unfold In at a8; have a9 := i145; unfold In at a9; have a10 := t_add e145 i6 (in_c 2 rfl) rfl; have a11 := (in_c 2 rfl); unfold In at a11; have a12 := i14; unfold In at a12; have a13 := t_add e14 i6 (in_c 1 rfl) rfl; omega)⟩
    have n148 : KV (sI (sF s 2 0 z23) 3 z15.toNatClampNeg z146) 2 := by have hif : (if (s.1 30 (7 * (s.2.2.1 2 0).toInt.toNat)).toInt = 0 then (1 : Int) else 0) = 0 := if_neg (by rw [← h32]; have a0 := (rng_F hI.1 448 28000 rfl e_30_0); unfold In at a0; have a1 := (rng_F hI.1 0 32 rfl e_2_1); unfold In at a1; have a2 := r_2_0; unfold In at a2; have a3 := i134; unfold In at a3; have a4 := i6; unfold In at a4; have a5 := (t_mulc 7 (Or.inr e6) r_2_0 rfl).1; have a6 := i23; unfold In at a6; have a7 := t_add e23 r_2_0 (in_c 1 rfl) rfl; have a8 := (in_c 1 rfl); unfold In at a8; have a9 := i145; unfold In at a9; have a10 := t_add e145 i6 (in_c 2 rfl) rfl; have a11 := (in_c 2 rfl); unfold In at a11; have a12 := i14; unfold In at a12; have a13 := t_add e14 i6 (in_c 1 rfl) rfl; omega); exact kv_st q_1 rfl (rng_F hI.1 0 4000 (q := 2) (j := 0) rfl rfl).1 (by rw [← (show z23 = (sI (sF s 2 0 z23) 3 z15.toNatClampNeg z146).2.2.1 2 0 from sI_F (sF_get)), ← e_2_0]; have a0 := (rng_F hI.1 448 28000 rfl e_30_0); unfold In at a0; have a1 := (rng_F hI.1 0 32 rfl e_2_1); unfold In at a1; have a2 := r_2_0; unfold In at a2; have a3 := i134; unfold In at a3; have a4 := i6; unfold In at a4; have a5 := (t_mulc 7 (Or.inr e6) r_2_0 rfl).1; have a6 := i23; unfold In at a6; have a7 := t_add e23 r_2_0 (in_c 1 rfl) rfl; have a8 := (in_c 1 rfl); unfold In at a8; have a9 := i145; unfold In at a9; have a10 := t_add e145 i6 (in_c 2 rfl) rfl; have a11 := (in_c 2 rfl); unfold In at a11; have a12 := i14; unfold In at a12; have a13 := t_add e14 i6 (in_c 1 rfl) rfl; omega) (by rw [hif, ← (show u_2_1 = (sI (sF s 2 0 z23) 3 z15.toNatClampNeg z146).2.2.1 2 1 from sI_F (sF_ne rfl (e_2_1))), ← e_2_1]; omega) (by rw [← (show u_2_1 = (sI (sF s 2 0 z23) 3 z15.toNatClampNeg z146).2.2.1 2 1 from sI_F (sF_ne rfl (e_2_1))), e_2_1]; exact q_1.2)
    have n148a : (z23).toInt = (u_2_0).toInt + 1 := by have a0 := (rng_F hI.1 448 28000 rfl e_30_0); unfold In at a0; have a1 := (rng_F hI.1 0 32 rfl e_2_1); unfold In at a1; have a2 := r_2_0; unfold In at a2; have a3 := i134; unfold In at a3; have a4 := i6; unfold In at a4; have a5 := (t_mulc 7 (Or.inr e6) r_2_0 rfl).1; have a6 := i23; unfold In at a6; have a7 := t_add e23 r_2_0 (in_c 1 rfl) rfl; have a8 := (in_c 1 rfl); unfold In at a8; have a9 := i145; unfold In at a9; have a10 := t_add e145 i6 (in_c 2 rfl) rfl; have a11 := (in_c 2 rfl); unfold In at a11; have a12 := i14; unfold In at a12; have a13 := t_add e14 i6 (in_c 1 rfl) rfl; omega
    have n148b : ((sI (sF s 2 0 z23) 3 z15.toNatClampNeg z146).2.2.1 2 0).toInt = (s.2.2.1 2 0).toInt + 1 := by have b0 : z23 = (sI (sF s 2 0 z23) 3 z15.toNatClampNeg z146).2.2.1 2 0 := sI_F (sF_get); first | (rw [← b0, ← e_2_0]; exact n148a) | (rw [← b0]; exact n148a)
    exact g_return (gd rfl) rfl (hP _ _ ⟨(sI (sF s 2 0 z23) 3 z15.toNatClampNeg z146), hI148, (fr_sI rfl (fr_sF rfl fr_rf)), n148b, rfl, rfl, n148⟩)

def fm_105_32 : FM := ([34], [], [(32, 2), (32, 3)], [])
/-- GraphHouse$Graph.dropAt -/
theorem k_105_32 {Z : AmZ} {A : Nat → Nat} {s : GS} {ex : va_W} {d : Nat} {X : AmX} {x1 : Int32} (hd : 1 ≤ d) (hI : Rng s) (h1 : In x1 0 159) : GC Z d 105 [.ref (A 32), .int x1] (WW Z A s ++ ex) 0 0 (fun v u => ∃ t : GS, Rng t ∧ Fr fm_105_32 s t ∧ v = none ∧ u = WW Z A t ++ ex ∧ (t.1 34 = upd (s.1 34) (x1).toNatClampNeg (Int32.ofInt (-1)))) X := by
  intro post xp hP hX
  have ct17 : ∀ (k17 : Nat) (sc17 : GS) (w17_32_3 : Int32), Rng sc17 → Fr fm_105_32 s sc17 → (w17_32_3 = sc17.2.2.1 32 3) → (sc17.1 34 = upd (s.1 34) (x1).toNatClampNeg (Int32.ofInt (-1))) → (w17_32_3).toInt < (k17 : Int) → GG Z (d - 1) 105 post (gx xp) (1 + k17 * 900) 17 (fun j => xlook j [(0, .ref (A 32)), (1, .int x1)]) [] (WW Z A sc17 ++ ex) 0 0 := by
    intro k17
    induction k17 with
    | zero => intro sc17 w17_32_3 hIc17 hFc17 v17_32_3 g17_0 mm17; exfalso; have a0 := h1; unfold In at a0; have a1 := (rng_F hIc17 0 160 rfl v17_32_3); unfold In at a1; omega
    | succ k17 ih17 =>
      intro sc17 w17_32_3 hIc17 hFc17 v17_32_3 g17_0 mm17
      refine gg_w (M := 1 + k17 * 900 + 900) (by omega) ?_
      refine g_aload_n 18 (gd rfl) rfl rfl ?_
      refine g_getI 21 (gd rfl) rfl rfl rfl (fun z18 e18 => ?_)
      have q18 : w17_32_3 = z18 := (v17_32_3).trans e18.symm
      subst q18
      refine g_if_le 24 52 (gd rfl) rfl rfl (fun c21 => ?_) (fun c21 => ?_)
      · skip
        have i21 := z_le 0 0 c21 (rng_F hIc17 0 160 rfl v17_32_3) rfl
        have n52 : sc17.1 34 = upd (s.1 34) (x1).toNatClampNeg (Int32.ofInt (-1)) := by exact g17_0
        exact g_return (gd rfl) rfl (hP _ _ ⟨sc17, hIc17, hFc17, rfl, rfl, n52⟩)
      · skip
        have i21 := z_gt 1 160 c21 (rng_F hIc17 0 160 rfl v17_32_3) rfl
        refine g_aload_n 25 (gd rfl) rfl rfl ?_
        refine g_getA (q2 := 34) 28 (gd rfl) rfl rfl rfl rfl ?_
        refine g_aload_n 29 (gd rfl) rfl rfl ?_
        refine g_getI 32 (gd rfl) rfl rfl rfl (fun z29 e29 => ?_)
        have q29 : w17_32_3 = z29 := (v17_32_3).trans e29.symm
        subst q29
        refine g_iconst 1 33 (gd rfl) rfl rfl ?_
        refine g_isub 34 (gd rfl) rfl (fun z33 e33 => ?_)
        have i33 := in_sub 0 159 e33 i21 (in_c 1 rfl) rfl rfl
        refine g_iaload 35 (gd rfl) rfl (n := 160) rfl (in_ix i33 rfl) (fun z34 e34 => ?_)
        have i34 := rng_I hIc17 (n := 160) (t := 0) (-1) 31 rfl (in_ix i33 rfl) rfl e34
        refine g_iconst (-1) 36 (gd rfl) rfl rfl ?_
        refine g_cmp_ne 39 52 (gd rfl) rfl rfl (fun c36 => ?_) (fun c36 => ?_)
        · skip
          have i36 := r_ne1 0 31 c36 i34 (in_c (-1) rfl) rfl
          have n52 : sc17.1 34 = upd (s.1 34) (x1).toNatClampNeg (Int32.ofInt (-1)) := by exact g17_0
          exact g_return (gd rfl) rfl (hP _ _ ⟨sc17, hIc17, hFc17, rfl, rfl, n52⟩)
        · skip
          have i36 := r_eq1 (-1) (-1) c36 i34 (in_c (-1) rfl) rfl
          refine g_aload_n 40 (gd rfl) rfl rfl ?_
          refine g_dup 41 (gd rfl) rfl rfl ?_
          refine g_getI 44 (gd rfl) rfl rfl rfl (fun z41 e41 => ?_)
          have q41 : w17_32_3 = z41 := (v17_32_3).trans e41.symm
          subst q41
          refine g_iconst 1 45 (gd rfl) rfl rfl ?_
          refine g_isub 46 (gd rfl) rfl (fun z45 e45 => ?_)
          have i45 := in_sub 0 159 e45 i21 (in_c 1 rfl) rfl rfl
          refine g_putI 49 (gd rfl) rfl rfl rfl rfl ?_
          have hI46 := rng_sF (q := 32) (j := 3) hIc17 rfl (in_w 0 160 i45 rfl)
          refine g_goto 17 (gd rfl) rfl ?_
          have v17 : z45 = (sF sc17 32 3 z45).2.2.1 32 3 := sF_get
          have n17 : (sF sc17 32 3 z45).1 34 = upd (s.1 34) (x1).toNatClampNeg (Int32.ofInt (-1)) := by exact g17_0
          have m17 : (z45).toInt < ((k17 : Nat) : Int) := by have a0 := h1; unfold In at a0; have a1 := i21; unfold In at a1; have a2 := i45; unfold In at a2; have a3 := t_sub e45 i21 (in_c 1 rfl) rfl; have a4 := (in_c 1 rfl); unfold In at a4; have a5 := i33; unfold In at a5; have a6 := t_sub e33 i21 (in_c 1 rfl) rfl; omega
          exact gg_w (by omega) (gg_f (gf_cons rfl (gf_cons rfl gf_nil)) (ih17  (sF sc17 32 3 z45) z45 hI46 (fr_sF rfl hFc17) v17 n17 m17))
  refine g_enter2 (k := 105) (N := 145801) (by omega) rfl (Nat.le_of_ble_eq_true rfl) ?_
  refine g_aload_n 1 (gd rfl) rfl rfl ?_
  refine g_getA (q2 := 34) 4 (gd rfl) rfl rfl rfl rfl ?_
  refine g_iload_n 5 (gd rfl) rfl rfl ?_
  refine g_iconst (-1) 6 (gd rfl) rfl rfl ?_
  refine g_iastore 7 (gd rfl) rfl (n := 160) rfl (in_ix h1 rfl) ?_
  have hI6 := rng_sI (q := 34) (j := x1.toNatClampNeg) hI rfl (in_w (-1) 31 (in_c (-1) rfl) rfl)
  refine g_aload_n 8 (gd rfl) rfl rfl ?_
  refine g_dup 9 (gd rfl) rfl rfl ?_
  refine g_getI 12 (gd rfl) rfl rfl rfl (fun z9 e9 => ?_)
  refine g_iconst 1 13 (gd rfl) rfl rfl ?_
  refine g_isub 14 (gd rfl) rfl (fun z13 e13 => ?_)
  refine g_putI 17 (gd rfl) rfl rfl rfl rfl ?_
  have hI14 := rng_sF (q := 32) (j := 2) hI6 rfl (in_w (-2147483648) 2147483647 (i_rng z13) rfl)
  have n17 : (sF (sI s 34 x1.toNatClampNeg (Int32.ofInt (-1))) 32 2 z13).1 34 = upd (s.1 34) (x1).toNatClampNeg (Int32.ofInt (-1)) := by simp [sI, sF]
  have m17 : (((sF (sI s 34 x1.toNatClampNeg (Int32.ofInt (-1))) 32 2 z13).2.2.1 32 3)).toInt < ((161 : Nat) : Int) := by have a0 := h1; unfold In at a0; have a1 := (show In ((sF (sI s 34 x1.toNatClampNeg (Int32.ofInt (-1))) 32 2 z13).2.2.1 32 3) 0 160 from rng_F hI14 0 160 rfl rfl); unfold In at a1; omega
  exact gg_w (by omega) (gg_f (gf_cons rfl (gf_cons rfl gf_nil)) (ct17 161 (sF (sI s 34 x1.toNatClampNeg (Int32.ofInt (-1))) 32 2 z13) _ hI14 (fr_sF rfl (fr_sI rfl fr_rf)) rfl n17 m17))

def fm_132_1_32 : FM := ([34, 35, 36, 37, 38], [], [(32, 2), (32, 3)], [])
/-- GraphHouse$Ledger.applyArc -/
theorem k_132_1_32 {Z : AmZ} {A : Nat → Nat} {s : GS} {ex : va_W} {d : Nat} {X : AmX} {x2 : Int32} {x3 : Int32} {u_30_0 : Int32} (hd : 3 ≤ d) (hI : Rng s) (h2 : In x2 0 27993) (h3 : In x3 0 159) (e_30_0 : u_30_0 = s.2.2.1 30 0) (p_0 : (x2).toInt + 7 ≤ (u_30_0).toInt) (q_0 : In (s.1 30 ((x2).toInt + 2).toNat) (0) 31) (q_1 : In (s.1 30 ((x2).toInt + 3).toNat) (0) 31) (q_2 : In (s.1 30 ((x2).toInt + 4).toNat) (-1000000) 1000000) (q_3 : In (s.1 30 ((x2).toInt + 5).toNat) (0) 1000000) (q_4 : In (s.1 30 ((x2).toInt + 6).toNat) (0) 25) : GC Z d 132 [.ref (A 1), .ref (A 32), .int x2, .int x3] (WW Z A s ++ ex) 0 0 (fun v u => ∃ t : GS, Rng t ∧ Fr fm_132_1_32 s t ∧ v = none ∧ u = WW Z A t ++ ex ∧ (t.1 34 = upd (s.1 34) (x3).toNatClampNeg (s.1 30 ((x2).toInt + 2).toNat)) ∧ (t.1 35 = upd (s.1 35) (x3).toNatClampNeg (s.1 30 ((x2).toInt + 3).toNat))) X := by
  intro post xp hP hX
  have ro_30_0 := rng_F hI 448 28000 rfl e_30_0
  refine g_enter2 (k := 132) (N := 900) (by omega) rfl (Nat.le_of_ble_eq_true rfl) ?_
  refine g_aload_n 1 (gd rfl) rfl rfl ?_
  refine g_getA (q2 := 34) 4 (gd rfl) rfl rfl rfl rfl ?_
  refine g_iload_n 5 (gd rfl) rfl rfl ?_
  refine g_aload_n 6 (gd rfl) rfl rfl ?_
  refine g_getA (q2 := 30) 9 (gd rfl) rfl rfl rfl rfl ?_
  refine g_iload_n 10 (gd rfl) rfl rfl ?_
  refine g_iconst 2 11 (gd rfl) rfl rfl ?_
  refine g_iadd 12 (gd rfl) rfl (fun z11 e11 => ?_)
  have i11 := in_add 2 27995 e11 h2 (in_c 2 rfl) rfl rfl
  have hx12 : vp_in z11 (s.2.2.1 30 0).toNatClampNeg := lg_in (by have a0 := (rng_F hI 448 28000 rfl e_30_0); unfold In at a0; have a1 := h3; unfold In at a1; have a2 := h2; unfold In at a2; have a3 := i11; unfold In at a3; have a4 := t_add e11 h2 (in_c 2 rfl) rfl; have a5 := (in_c 2 rfl); unfold In at a5; omega) (by rw [← (show u_30_0 = s.2.2.1 30 0 from e_30_0)]; have a0 := (rng_F hI 448 28000 rfl e_30_0); unfold In at a0; have a1 := h3; unfold In at a1; have a2 := h2; unfold In at a2; have a3 := i11; unfold In at a3; have a4 := t_add e11 h2 (in_c 2 rfl) rfl; have a5 := (in_c 2 rfl); unfold In at a5; omega)
  refine g_lgload 13 (gd rfl) rfl hx12 (fun z12 e12 => ?_)
  have i13 : In z12 0 31 := by have hi : (z12) = s.1 30 ((x2).toInt + 2).toNat := (by rw [e12, show (z11).toNatClampNeg = ((x2).toInt + 2).toNat from (by show (z11).toInt.toNat = _; have a0 := (rng_F hI 448 28000 rfl e_30_0); unfold In at a0; have a1 := h3; unfold In at a1; have a2 := h2; unfold In at a2; have a3 := i11; unfold In at a3; have a4 := t_add e11 h2 (in_c 2 rfl) rfl; have a5 := (in_c 2 rfl); unfold In at a5; omega)] <;> simp [sI]); rw [hi]; exact q_0
  have hf2 : z12 = s.1 30 ((x2).toInt + 2).toNat := (by rw [e12, show (z11).toNatClampNeg = ((x2).toInt + 2).toNat from (by show (z11).toInt.toNat = _; have a0 := (rng_F hI 448 28000 rfl e_30_0); unfold In at a0; have a1 := h3; unfold In at a1; have a2 := h2; unfold In at a2; have a3 := i11; unfold In at a3; have a4 := t_add e11 h2 (in_c 2 rfl) rfl; have a5 := (in_c 2 rfl); unfold In at a5; omega)] <;> simp [sI])
  refine g_iastore 14 (gd rfl) rfl (n := 160) rfl (in_ix h3 rfl) ?_
  have hI13 := rng_sI (q := 34) (j := x3.toNatClampNeg) hI rfl (in_w (-1) 31 i13 rfl)
  refine g_aload_n 15 (gd rfl) rfl rfl ?_
  refine g_getA (q2 := 35) 18 (gd rfl) rfl rfl rfl rfl ?_
  refine g_iload_n 19 (gd rfl) rfl rfl ?_
  refine g_aload_n 20 (gd rfl) rfl rfl ?_
  refine g_getA (q2 := 30) 23 (gd rfl) rfl rfl rfl rfl ?_
  refine g_iload_n 24 (gd rfl) rfl rfl ?_
  refine g_iconst 3 25 (gd rfl) rfl rfl ?_
  refine g_iadd 26 (gd rfl) rfl (fun z25 e25 => ?_)
  have i25 := in_add 3 27996 e25 h2 (in_c 3 rfl) rfl rfl
  have hx26 : vp_in z25 ((sI s 34 x3.toNatClampNeg z12).2.2.1 30 0).toNatClampNeg := lg_in (by have a0 := (rng_F hI 448 28000 rfl e_30_0); unfold In at a0; have a1 := h3; unfold In at a1; have a2 := h2; unfold In at a2; have a3 := i25; unfold In at a3; have a4 := t_add e25 h2 (in_c 3 rfl) rfl; have a5 := (in_c 3 rfl); unfold In at a5; have a6 := i11; unfold In at a6; have a7 := t_add e11 h2 (in_c 2 rfl) rfl; have a8 := (in_c 2 rfl); unfold In at a8; omega) (by rw [← (show u_30_0 = (sI s 34 x3.toNatClampNeg z12).2.2.1 30 0 from sI_F (e_30_0))]; have a0 := (rng_F hI 448 28000 rfl e_30_0); unfold In at a0; have a1 := h3; unfold In at a1; have a2 := h2; unfold In at a2; have a3 := i25; unfold In at a3; have a4 := t_add e25 h2 (in_c 3 rfl) rfl; have a5 := (in_c 3 rfl); unfold In at a5; have a6 := i11; unfold In at a6; have a7 := t_add e11 h2 (in_c 2 rfl) rfl; have a8 := (in_c 2 rfl); unfold In at a8; omega)
  refine g_lgload 27 (gd rfl) rfl hx26 (fun z26 e26 => ?_)
  have i27 : In z26 0 31 := by have hi : (z26) = s.1 30 ((x2).toInt + 3).toNat := (by rw [e26, show (z25).toNatClampNeg = ((x2).toInt + 3).toNat from (by show (z25).toInt.toNat = _; have a0 := (rng_F hI 448 28000 rfl e_30_0); unfold In at a0; have a1 := h3; unfold In at a1; have a2 := h2; unfold In at a2; have a3 := i25; unfold In at a3; have a4 := t_add e25 h2 (in_c 3 rfl) rfl; have a5 := (in_c 3 rfl); unfold In at a5; have a6 := i11; unfold In at a6; have a7 := t_add e11 h2 (in_c 2 rfl) rfl; have a8 := (in_c 2 rfl); unfold In at a8; omega)] <;> simp [sI]); rw [hi]; exact q_1
  have hf3 : z26 = s.1 30 ((x2).toInt + 3).toNat := (by rw [e26, show (z25).toNatClampNeg = ((x2).toInt + 3).toNat from (by show (z25).toInt.toNat = _; have a0 := (rng_F hI 448 28000 rfl e_30_0); unfold In at a0; have a1 := h3; unfold In at a1; have a2 := h2; unfold In at a2; have a3 := i25; unfold In at a3; have a4 := t_add e25 h2 (in_c 3 rfl) rfl; have a5 := (in_c 3 rfl); unfold In at a5; have a6 := i11; unfold In at a6; have a7 := t_add e11 h2 (in_c 2 rfl) rfl; have a8 := (in_c 2 rfl); unfold In at a8; omega)] <;> simp [sI])
  refine g_iastore 28 (gd rfl) rfl (n := 160) rfl (in_ix h3 rfl) ?_
  have hI27 := rng_sI (q := 35) (j := x3.toNatClampNeg) hI13 rfl (in_w 0 31 i27 rfl)
  refine g_aload_n 29 (gd rfl) rfl rfl ?_
  refine g_getA (q2 := 36) 32 (gd rfl) rfl rfl rfl rfl ?_
  refine g_iload_n 33 (gd rfl) rfl rfl ?_
  refine g_aload_n 34 (gd rfl) rfl rfl ?_
  refine g_getA (q2 := 30) 37 (gd rfl) rfl rfl rfl rfl ?_
  refine g_iload_n 38 (gd rfl) rfl rfl ?_
  refine g_iconst 4 39 (gd rfl) rfl rfl ?_
  refine g_iadd 40 (gd rfl) rfl (fun z39 e39 => ?_)
  have i39 := in_add 4 27997 e39 h2 (in_c 4 rfl) rfl rfl
  have hx40 : vp_in z39 ((sI (sI s 34 x3.toNatClampNeg z12) 35 x3.toNatClampNeg z26).2.2.1 30 0).toNatClampNeg := lg_in (by have a0 := (rng_F hI 448 28000 rfl e_30_0); unfold In at a0; have a1 := h3; unfold In at a1; have a2 := h2; unfold In at a2; have a3 := i39; unfold In at a3; have a4 := t_add e39 h2 (in_c 4 rfl) rfl; have a5 := (in_c 4 rfl); unfold In at a5; have a6 := i25; unfold In at a6; have a7 := t_add e25 h2 (in_c 3 rfl) rfl; have a8 := (in_c 3 rfl); unfold In at a8; have a9 := i11; unfold In at a9; have a10 := t_add e11 h2 (in_c 2 rfl) rfl; have a11 := (in_c 2 rfl); unfold In at a11; omega) (by rw [← (show u_30_0 = (sI (sI s 34 x3.toNatClampNeg z12) 35 x3.toNatClampNeg z26).2.2.1 30 0 from sI_F (sI_F (e_30_0)))]; have a0 := (rng_F hI 448 28000 rfl e_30_0); unfold In at a0; have a1 := h3; unfold In at a1; have a2 := h2; unfold In at a2; have a3 := i39; unfold In at a3; have a4 := t_add e39 h2 (in_c 4 rfl) rfl; have a5 := (in_c 4 rfl); unfold In at a5; have a6 := i25; unfold In at a6; have a7 := t_add e25 h2 (in_c 3 rfl) rfl; have a8 := (in_c 3 rfl); unfold In at a8; have a9 := i11; unfold In at a9; have a10 := t_add e11 h2 (in_c 2 rfl) rfl; have a11 := (in_c 2 rfl); unfold In at a11; omega)
  refine g_lgload 41 (gd rfl) rfl hx40 (fun z40 e40 => ?_)
  have i41 : In z40 (-1000000) 1000000 := by have hi : (z40) = s.1 30 ((x2).toInt + 4).toNat := (by rw [e40, show (z39).toNatClampNeg = ((x2).toInt + 4).toNat from (by show (z39).toInt.toNat = _; have a0 := (rng_F hI 448 28000 rfl e_30_0); unfold In at a0; have a1 := h3; unfold In at a1; have a2 := h2; unfold In at a2; have a3 := i39; unfold In at a3; have a4 := t_add e39 h2 (in_c 4 rfl) rfl; have a5 := (in_c 4 rfl); unfold In at a5; have a6 := i25; unfold In at a6; have a7 := t_add e25 h2 (in_c 3 rfl) rfl; have a8 := (in_c 3 rfl); unfold In at a8; have a9 := i11; unfold In at a9; have a10 := t_add e11 h2 (in_c 2 rfl) rfl; have a11 := (in_c 2 rfl); unfold In at a11; omega)] <;> simp [sI]); rw [hi]; exact q_2
  refine g_iastore 42 (gd rfl) rfl (n := 160) rfl (in_ix h3 rfl) ?_
  have hI41 := rng_sI (q := 36) (j := x3.toNatClampNeg) hI27 rfl (in_w (-1000000) 1000000 i41 rfl)
  refine g_aload_n 43 (gd rfl) rfl rfl ?_
  refine g_getA (q2 := 37) 46 (gd rfl) rfl rfl rfl rfl ?_
  refine g_iload_n 47 (gd rfl) rfl rfl ?_
  refine g_aload_n 48 (gd rfl) rfl rfl ?_
  refine g_getA (q2 := 30) 51 (gd rfl) rfl rfl rfl rfl ?_
  refine g_iload_n 52 (gd rfl) rfl rfl ?_
  refine g_iconst 5 53 (gd rfl) rfl rfl ?_
  refine g_iadd 54 (gd rfl) rfl (fun z53 e53 => ?_)
  have i53 := in_add 5 27998 e53 h2 (in_c 5 rfl) rfl rfl
  have hx54 : vp_in z53 ((sI (sI (sI s 34 x3.toNatClampNeg z12) 35 x3.toNatClampNeg z26) 36 x3.toNatClampNeg z40).2.2.1 30 0).toNatClampNeg := lg_in (by have a0 := (rng_F hI 448 28000 rfl e_30_0); unfold In at a0; have a1 := h3; unfold In at a1; have a2 := h2; unfold In at a2; have a3 := i53; unfold In at a3; have a4 := t_add e53 h2 (in_c 5 rfl) rfl; have a5 := (in_c 5 rfl); unfold In at a5; have a6 := i39; unfold In at a6; have a7 := t_add e39 h2 (in_c 4 rfl) rfl; have a8 := (in_c 4 rfl); unfold In at a8; have a9 := i25; unfold In at a9; have a10 := t_add e25 h2 (in_c 3 rfl) rfl; have a11 := (in_c 3 rfl); unfold In at a11; have a12 := i11; unfold In at a12; have a13 := t_add e11 h2 (in_c 2 rfl) rfl; have a14 := (in_c 2 rfl); unfold In at a14; omega) (by rw [← (show u_30_0 = (sI (sI (sI s 34 x3.toNatClampNeg z12) 35 x3.toNatClampNeg z26) 36 x3.toNatClampNeg z40).2.2.1 30 0 from sI_F (sI_F (sI_F (e_30_0))))]; have a0 := (rng_F hI 448 28000 rfl e_30_0); unfold In at a0; have a1 := h3; unfold In at a1; have a2 := h2; unfold In at a2; have a3 := i53; unfold In at a3; have a4 := t_add e53 h2 (in_c 5 rfl) rfl; have a5 := (in_c 5 rfl); unfold In at a5; have a6 := i39; unfold In at a6; have a7 := t_add e39 h2 (in_c 4 rfl) rfl; have a8 := (in_c 4 rfl); unfold In at a8; have a9 := i25; unfold In at a9; have a10 := t_add e25 h2 (in_c 3 rfl) rfl; have a11 := (in_c 3 rfl); unfold In at a11; have a12 := i11; unfold In at a12; have a13 := t_add e11 h2 (in_c 2 rfl) rfl; have a14 := (in_c 2 rfl); unfold In at a14; omega)
  refine g_lgload 55 (gd rfl) rfl hx54 (fun z54 e54 => ?_)
  have i55 : In z54 0 1000000 := by have hi : (z54) = s.1 30 ((x2).toInt + 5).toNat := (by rw [e54, show (z53).toNatClampNeg = ((x2).toInt + 5).toNat from (by show (z53).toInt.toNat = _; have a0 := (rng_F hI 448 28000 rfl e_30_0); unfold In at a0; have a1 := h3; unfold In at a1; have a2 := h2; unfold In at a2; have a3 := i53; unfold In at a3; have a4 := t_add e53 h2 (in_c 5 rfl) rfl; have a5 := (in_c 5 rfl); unfold In at a5; have a6 := i39; unfold In at a6; have a7 := t_add e39 h2 (in_c 4 rfl) rfl; have a8 := (in_c 4 rfl); unfold In at a8; have a9 := i25; unfold In at a9; have a10 := t_add e25 h2 (in_c 3 rfl) rfl; have a11 := (in_c 3 rfl); unfold In at a11; have a12 := i11; unfold In at a12; have a13 := t_add e11 h2 (in_c 2 rfl) rfl; have a14 := (in_c 2 rfl); unfold In at a14; omega)] <;> simp [sI]); rw [hi]; exact q_3
  refine g_iastore 56 (gd rfl) rfl (n := 160) rfl (in_ix h3 rfl) ?_
  have hI55 := rng_sI (q := 37) (j := x3.toNatClampNeg) hI41 rfl (in_w 0 1000000 i55 rfl)
  refine g_aload_n 57 (gd rfl) rfl rfl ?_
  refine g_getA (q2 := 38) 60 (gd rfl) rfl rfl rfl rfl ?_
  refine g_iload_n 61 (gd rfl) rfl rfl ?_
  refine g_aload_n 62 (gd rfl) rfl rfl ?_
  refine g_getA (q2 := 30) 65 (gd rfl) rfl rfl rfl rfl ?_
  refine g_iload_n 66 (gd rfl) rfl rfl ?_
  refine g_bipush 6 68 (gd rfl) rfl rfl ?_
  refine g_iadd 69 (gd rfl) rfl (fun z68 e68 => ?_)
  have i68 := in_add 6 27999 e68 h2 (in_c 6 rfl) rfl rfl
  have hx69 : vp_in z68 ((sI (sI (sI (sI s 34 x3.toNatClampNeg z12) 35 x3.toNatClampNeg z26) 36 x3.toNatClampNeg z40) 37 x3.toNatClampNeg z54).2.2.1 30 0).toNatClampNeg := lg_in (by have a0 := (rng_F hI 448 28000 rfl e_30_0); unfold In at a0; have a1 := h3; unfold In at a1; have a2 := h2; unfold In at a2; have a3 := i68; unfold In at a3; have a4 := t_add e68 h2 (in_c 6 rfl) rfl; have a5 := (in_c 6 rfl); unfold In at a5; have a6 := i53; unfold In at a6; have a7 := t_add e53 h2 (in_c 5 rfl) rfl; have a8 := (in_c 5 rfl); unfold In at a8; have a9 := i39; unfold In at a9; have a10 := t_add e39 h2 (in_c 4 rfl) rfl; have a11 := (in_c 4 rfl); unfold In at a11; have a12 := i25; unfold In at a12; have a13 := t_add e25 h2 (in_c 3 rfl) rfl; have a14 := (in_c 3 rfl); unfold In at a14; have a15 := i11; unfold In at a15; have a16 := t_add e11 h2 (in_c 2 rfl) rfl; have a17 := (in_c 2 rfl); unfold In at a17; omega) (by rw [← (show u_30_0 = (sI (sI (sI (sI s 34 x3.toNatClampNeg z12) 35 x3.toNatClampNeg z26) 36 x3.toNatClampNeg z40) 37 x3.toNatClampNeg z54).2.2.1 30 0 from sI_F (sI_F (sI_F (sI_F (e_30_0)))))]; have a0 := (rng_F hI 448 28000 rfl e_30_0); unfold In at a0; have a1 := h3; unfold In at a1; have a2 := h2; unfold In at a2; have a3 := i68; unfold In at a3; have a4 := t_add e68 h2 (in_c 6 rfl) rfl; have a5 := (in_c 6 rfl); unfold In at a5; have a6 := i53; unfold In at a6; have a7 := t_add e53 h2 (in_c 5 rfl) rfl; have a8 := (in_c 5 rfl); unfold In at a8; have a9 := i39; unfold In at a9; have a10 := t_add e39 h2 (in_c 4 rfl) rfl; have a11 := (in_c 4 rfl); unfold In at a11; have a12 := i25; unfold In at a12; have a13 := t_add e25 h2 (in_c 3 rfl) rfl; have a14 := (in_c 3 rfl); unfold In at a14; have a15 := i11; unfold In at a15; have a16 := t_add e11 h2 (in_c 2 rfl) rfl; have a17 := (in_c 2 rfl); unfold In at a17; omega)
  refine g_lgload 70 (gd rfl) rfl hx69 (fun z69 e69 => ?_)
  have i70 : In z69 0 25 := by have hi : (z69) = s.1 30 ((x2).toInt + 6).toNat := (by rw [e69, show (z68).toNatClampNeg = ((x2).toInt + 6).toNat from (by show (z68).toInt.toNat = _; have a0 := (rng_F hI 448 28000 rfl e_30_0); unfold In at a0; have a1 := h3; unfold In at a1; have a2 := h2; unfold In at a2; have a3 := i68; unfold In at a3; have a4 := t_add e68 h2 (in_c 6 rfl) rfl; have a5 := (in_c 6 rfl); unfold In at a5; have a6 := i53; unfold In at a6; have a7 := t_add e53 h2 (in_c 5 rfl) rfl; have a8 := (in_c 5 rfl); unfold In at a8; have a9 := i39; unfold In at a9; have a10 := t_add e39 h2 (in_c 4 rfl) rfl; have a11 := (in_c 4 rfl); unfold In at a11; have a12 := i25; unfold In at a12; have a13 := t_add e25 h2 (in_c 3 rfl) rfl; have a14 := (in_c 3 rfl); unfold In at a14; have a15 := i11; unfold In at a15; have a16 := t_add e11 h2 (in_c 2 rfl) rfl; have a17 := (in_c 2 rfl); unfold In at a17; omega)] <;> simp [sI]); rw [hi]; exact q_4
  refine g_iastore 71 (gd rfl) rfl (n := 160) rfl (in_ix h3 rfl) ?_
  have hI70 := rng_sI (q := 38) (j := x3.toNatClampNeg) hI55 rfl (in_w 0 25 i70 rfl)
  refine g_aload_n 72 (gd rfl) rfl rfl ?_
  refine g_dup 73 (gd rfl) rfl rfl ?_
  refine g_getI 76 (gd rfl) rfl rfl rfl (fun z73 e73 => ?_)
  refine g_iconst 1 77 (gd rfl) rfl rfl ?_
  refine g_iadd 78 (gd rfl) rfl (fun z77 e77 => ?_)
  refine g_putI 81 (gd rfl) rfl rfl rfl rfl ?_
  have hI78 := rng_sF (q := 32) (j := 2) hI70 rfl (in_w (-2147483648) 2147483647 (i_rng z77) rfl)
  refine g_aload_n 82 (gd rfl) rfl rfl ?_
  refine g_aload_n 83 (gd rfl) rfl rfl ?_
  refine g_getI 86 (gd rfl) rfl rfl rfl (fun z83 e83 => ?_)
  have i83 := rng_F hI78 0 160 rfl e83
  refine g_iload_n 87 (gd rfl) rfl rfl ?_
  refine g_iconst 1 88 (gd rfl) rfl rfl ?_
  refine g_iadd 89 (gd rfl) rfl (fun z88 e88 => ?_)
  have i88 := in_add 1 160 e88 h3 (in_c 1 rfl) rfl rfl
  refine g_calls (As := [.int z83, .int z88]) (r := [.ref (A 32)]) 92 (gd rfl) rfl rfl rfl rfl rfl (Nat.le_of_ble_eq_true rfl) (mc := 0) (ms := 0) (Nat.zero_le _) (Nat.zero_le _) (P := fun v u => _) ?_ (fun v u h => h)
  intro po89 xx89 hp89 hx89
  refine g_enter2 (k := 422) (N := 300) (by omega) rfl (Nat.le_of_ble_eq_true rfl) ?_
  refine g_iload_n 1 (gd rfl) rfl rfl ?_
  refine g_iload_n 2 (gd rfl) rfl rfl ?_
  refine g_cmp_lt 5 9 (gd rfl) rfl rfl (fun c89x2 => ?_) (fun c89x2 => ?_)
  · skip
    have i89x2 := r_lt1 0 159 c89x2 i83 i88 rfl
    refine g_iload_n 10 (gd rfl) rfl rfl ?_
    refine g_ireturn (gd rfl) rfl rfl (hp89 _ _ ?_)
    show GG _ _ _ _ _ _ _ _ [.int z88, .ref (A 32)] _ _ _
    refine g_putI 95 (gd rfl) rfl rfl rfl rfl ?_
    have hI92 := rng_sF (q := 32) (j := 3) hI78 rfl (in_w 0 160 i88 rfl)
    have n95 : (sF (sF (sI (sI (sI (sI (sI s 34 x3.toNatClampNeg z12) 35 x3.toNatClampNeg z26) 36 x3.toNatClampNeg z40) 37 x3.toNatClampNeg z54) 38 x3.toNatClampNeg z69) 32 2 z77) 32 3 z88).1 34 = upd (s.1 34) (x3).toNatClampNeg (s.1 30 ((x2).toInt + 2).toNat) := by rw [← hf2]; simp [sI, sF]
    have n95a : (sF (sF (sI (sI (sI (sI (sI s 34 x3.toNatClampNeg z12) 35 x3.toNatClampNeg z26) 36 x3.toNatClampNeg z40) 37 x3.toNatClampNeg z54) 38 x3.toNatClampNeg z69) 32 2 z77) 32 3 z88).1 35 = upd (s.1 35) (x3).toNatClampNeg (s.1 30 ((x2).toInt + 3).toNat) := by rw [← hf3]; simp [sI, sF]
    exact g_return (gd rfl) rfl (hP _ _ ⟨(sF (sF (sI (sI (sI (sI (sI s 34 x3.toNatClampNeg z12) 35 x3.toNatClampNeg z26) 36 x3.toNatClampNeg z40) 37 x3.toNatClampNeg z54) 38 x3.toNatClampNeg z69) 32 2 z77) 32 3 z88), hI92, (fr_sF rfl (fr_sF rfl (fr_sI rfl (fr_sI rfl (fr_sI rfl (fr_sI rfl (fr_sI rfl fr_rf))))))), rfl, rfl, n95, n95a⟩)
  · skip
    have i89x2 := r_le2 1 160 c89x2 i88 i83 rfl
    refine g_iload_n 6 (gd rfl) rfl rfl ?_
    refine g_goto 10 (gd rfl) rfl ?_
    refine g_ireturn (gd rfl) rfl rfl (hp89 _ _ ?_)
    show GG _ _ _ _ _ _ _ _ [.int z83, .ref (A 32)] _ _ _
    refine g_putI 95 (gd rfl) rfl rfl rfl rfl ?_
    have hI92 := rng_sF (q := 32) (j := 3) hI78 rfl (in_w 0 160 i89x2 rfl)
    have n95 : (sF (sF (sI (sI (sI (sI (sI s 34 x3.toNatClampNeg z12) 35 x3.toNatClampNeg z26) 36 x3.toNatClampNeg z40) 37 x3.toNatClampNeg z54) 38 x3.toNatClampNeg z69) 32 2 z77) 32 3 z83).1 34 = upd (s.1 34) (x3).toNatClampNeg (s.1 30 ((x2).toInt + 2).toNat) := by rw [← hf2]; simp [sI, sF]
    have n95a : (sF (sF (sI (sI (sI (sI (sI s 34 x3.toNatClampNeg z12) 35 x3.toNatClampNeg z26) 36 x3.toNatClampNeg z40) 37 x3.toNatClampNeg z54) 38 x3.toNatClampNeg z69) 32 2 z77) 32 3 z83).1 35 = upd (s.1 35) (x3).toNatClampNeg (s.1 30 ((x2).toInt + 3).toNat) := by rw [← hf3]; simp [sI, sF]
    exact g_return (gd rfl) rfl (hP _ _ ⟨(sF (sF (sI (sI (sI (sI (sI s 34 x3.toNatClampNeg z12) 35 x3.toNatClampNeg z26) 36 x3.toNatClampNeg z40) 37 x3.toNatClampNeg z54) 38 x3.toNatClampNeg z69) 32 2 z77) 32 3 z83), hI92, (fr_sF rfl (fr_sF rfl (fr_sI rfl (fr_sI rfl (fr_sI rfl (fr_sI rfl (fr_sI rfl fr_rf))))))), rfl, rfl, n95, n95a⟩)

def fm_133_1_32 : FM := ([36, 37, 38], [], [], [])
/-- GraphHouse$Ledger.applyValue -/
theorem k_133_1_32 {Z : AmZ} {A : Nat → Nat} {s : GS} {ex : va_W} {d : Nat} {X : AmX} {x2 : Int32} {x3 : Int32} {x4 : Int32} (hd : 1 ≤ d) (hI : Rng s) (h2 : In x2 0 159) (q_0 : (x3).toInt = 0 → In x4 (-1000000) 1000000) (q_1 : (x3).toInt = 1 → In x4 0 1000000) (q_2 : (x3).toInt ≠ 0 → (x3).toInt ≠ 1 → In x4 0 25) : GC Z d 133 [.ref (A 1), .ref (A 32), .int x2, .int x3, .int x4] (WW Z A s ++ ex) 0 0 (fun v u => ∃ t : GS, Rng t ∧ Fr fm_133_1_32 s t ∧ v = none ∧ u = WW Z A t ++ ex) X := by
  intro post xp hP hX
  refine g_enter2 (k := 133) (N := 900) (by omega) rfl (Nat.le_of_ble_eq_true rfl) ?_
  refine g_iload_n 1 (gd rfl) rfl rfl ?_
  refine g_if_ne 4 15 (gd rfl) rfl rfl (fun c1 => ?_) (fun c1 => ?_)
  · skip
    refine g_iload_n 16 (gd rfl) rfl rfl ?_
    refine g_iconst 1 17 (gd rfl) rfl rfl ?_
    refine g_cmp_ne 20 31 (gd rfl) rfl rfl (fun c17 => ?_) (fun c17 => ?_)
    · skip
      refine g_aload_n 32 (gd rfl) rfl rfl ?_
      refine g_getA (q2 := 38) 35 (gd rfl) rfl rfl rfl rfl ?_
      refine g_iload_n 36 (gd rfl) rfl rfl ?_
      refine g_iload 38 (gd rfl) rfl rfl ?_
      have i38 : In x4 0 25 := by exact q_2 c1 c17
      refine g_iastore 39 (gd rfl) rfl (n := 160) rfl (in_ix h2 rfl) ?_
      have hI38 := rng_sI (q := 38) (j := x2.toNatClampNeg) hI rfl (in_w 0 25 i38 rfl)
      exact g_return (gd rfl) rfl (hP _ _ ⟨(sI s 38 x2.toNatClampNeg x4), hI38, (fr_sI rfl fr_rf), rfl, rfl⟩)
    · skip
      have i17 := r_eq1 1 1 c17 (i_rng x3) (in_c 1 rfl) rfl
      refine g_aload_n 21 (gd rfl) rfl rfl ?_
      refine g_getA (q2 := 37) 24 (gd rfl) rfl rfl rfl rfl ?_
      refine g_iload_n 25 (gd rfl) rfl rfl ?_
      refine g_iload 27 (gd rfl) rfl rfl ?_
      have i27 : In x4 0 1000000 := by exact q_1 c17
      refine g_iastore 28 (gd rfl) rfl (n := 160) rfl (in_ix h2 rfl) ?_
      have hI27 := rng_sI (q := 37) (j := x2.toNatClampNeg) hI rfl (in_w 0 1000000 i27 rfl)
      refine g_goto 39 (gd rfl) rfl ?_
      exact g_return (gd rfl) rfl (hP _ _ ⟨(sI s 37 x2.toNatClampNeg x4), hI27, (fr_sI rfl fr_rf), rfl, rfl⟩)
  · skip
    have i1 := z_eq 0 0 c1 (i_rng x3) rfl
    refine g_aload_n 5 (gd rfl) rfl rfl ?_
    refine g_getA (q2 := 36) 8 (gd rfl) rfl rfl rfl rfl ?_
    refine g_iload_n 9 (gd rfl) rfl rfl ?_
    refine g_iload 11 (gd rfl) rfl rfl ?_
    have i11 : In x4 (-1000000) 1000000 := by exact q_0 c1
    refine g_iastore 12 (gd rfl) rfl (n := 160) rfl (in_ix h2 rfl) ?_
    have hI11 := rng_sI (q := 36) (j := x2.toNatClampNeg) hI rfl (in_w (-1000000) 1000000 i11 rfl)
    refine g_goto 39 (gd rfl) rfl ?_
    exact g_return (gd rfl) rfl (hP _ _ ⟨(sI s 36 x2.toNatClampNeg x4), hI11, (fr_sI rfl fr_rf), rfl, rfl⟩)

def fm_129_1 : FM := ([3, 4, 5, 6, 7, 8, 30], [], [(2, 0), (2, 1), (2, 2), (2, 3), (30, 0)], [])
/-- GraphHouse$Ledger.note -/
theorem k_129_1 {Z : AmZ} {A : Nat → Nat} {s : GS} {ex : va_W} {d : Nat} {X : AmX} {x1 : Int32} {x2 : Int32} {x3 : Int32} {x4 : Int32} {u_2_0 : Int32} {u_2_1 : Int32} {u_30_0 : Int32} (hd : 6 ≤ d) (hI : Inv s) (e_2_0 : u_2_0 = s.2.2.1 2 0) (e_2_1 : u_2_1 = s.2.2.1 2 1) (e_30_0 : u_30_0 = s.2.2.1 30 0) (r_2_0 : In u_2_0 0 3999) (q_0 : KL s) (q_1 : RWN (cz7 (s.1 30) (s.2.2.1 2 0).toInt.toNat) x1 x2 x3 x4) : GC Z d 129 [.ref (A 1), .int x1, .int x2, .int x3, .int x4] (WW Z A s ++ ex) (lc s) (lsl s) (fun v u => ∃ a : Nat, ∃ t : GS, Inv t ∧ Fr fm_129_1 s t ∧ ((t.2.2.1 2 0).toInt = (s.2.2.1 2 0).toInt + 1) ∧ v = none ∧ u = WW Z (ax A 30 a) t ++ ex ∧ (KL t) ∧ ((t.2.2.1 30 0).toInt = nln s) ∧ (∀ k : Nat, (k : Int) < 7 * (s.2.2.1 2 0).toInt → t.1 30 k = s.1 30 k)) X := by
  intro post xp hP hX
  refine g_enter2 (k := 129) (N := 900) (by omega) rfl (Nat.le_of_ble_eq_true rfl) ?_
  refine g_aload_n 1 (gd rfl) rfl rfl ?_
  refine g_callv (X := _) (As := []) (r := []) (b := A 1) (q := 1) 4 (gd rfl) rfl rfl rfl rfl rfl (ww_o rfl) (Nat.le_of_ble_eq_true rfl) (Nat.le_of_eq (lc_cg ((show Fr ([], [], [], []) s s from fr_rf).2.2.1 30 0 rfl) ((show Fr ([], [], [], []) s s from fr_rf).2.2.1 2 0 rfl)).1) (Nat.le_of_eq (lc_cg ((show Fr ([], [], [], []) s s from fr_rf).2.2.1 30 0 rfl) ((show Fr ([], [], [], []) s s from fr_rf).2.2.1 2 0 rfl)).2.1) (k_130_1p (by omega) hI e_2_0 (in_w 0 3999 r_2_0 rfl)) (fun e u h => h) (fun v u h => ?_)
  obtain ⟨a1, s1, hI1, hF1, n1, z1, rfl, rfl, i1, p1, p1a, p1b⟩ := h
  obtain ⟨z1a, e1⟩ : ∃ w, w = s1.2.2.1 30 0 := ⟨_, rfl⟩
  have i1a := inv_F hI1 448 28000 rfl e1
  rw [← (show u_2_0 = s.2.2.1 2 0 from e_2_0)] at n1
  rw [← (show z1a = s1.2.2.1 30 0 from e1)] at n1
  show GG _ _ _ _ _ _ _ _ [.int z1] _ _ _
  have hz1 := p1; rw [← e_2_0] at hz1
  refine g_istore 6 (gd rfl) rfl (Nat.le_of_ble_eq_true rfl) ?_
  refine g_aload_n 7 (gd rfl) rfl rfl ?_
  refine g_getA (A := (ax A 30 a1)) (q := 1) (q2 := 30) 10 (gd rfl) rfl rfl rfl rfl ?_
  refine g_iload 12 (gd rfl) rfl rfl ?_
  refine g_iload_n 13 (gd rfl) rfl rfl ?_
  have hx13 : vp_in z1 (s1.2.2.1 30 0).toNatClampNeg := lg_in (by have a0 := (inv_F hI 448 28000 rfl e_30_0); unfold In at a0; have a1 := (inv_F hI 0 32 rfl e_2_1); unfold In at a1; have a2 := r_2_0; unfold In at a2; have a3 := i1; unfold In at a3; have a4 := i1a; unfold In at a4; omega) (by rw [← (show z1a = s1.2.2.1 30 0 from e1)]; have a0 := (inv_F hI 448 28000 rfl e_30_0); unfold In at a0; have a1 := (inv_F hI 0 32 rfl e_2_1); unfold In at a1; have a2 := r_2_0; unfold In at a2; have a3 := i1; unfold In at a3; have a4 := i1a; unfold In at a4; omega)
  refine g_lgstore (A := (ax A 30 a1)) 14 (gd rfl) rfl hx13 ?_
  have hI13 := inv_sI (q := 30) (j := z1.toNatClampNeg) (x := x1) hI1 rfl (i_rng x1)
  refine g_aload_n 15 (gd rfl) rfl rfl ?_
  refine g_getA (A := (ax A 30 a1)) (q := 1) (q2 := 30) 18 (gd rfl) rfl rfl rfl rfl ?_
  refine g_iload 20 (gd rfl) rfl rfl ?_
  refine g_iconst 1 21 (gd rfl) rfl rfl ?_
  refine g_iadd 22 (gd rfl) rfl (fun z21 e21 => ?_)
  have i21 := in_add 1 27994 e21 i1 (in_c 1 rfl) rfl rfl
  refine g_iload_n 23 (gd rfl) rfl rfl ?_
  have hx23 : vp_in z21 ((sI s1 30 z1.toNatClampNeg x1).2.2.1 30 0).toNatClampNeg := lg_in (by have a0 := (inv_F hI 448 28000 rfl e_30_0); unfold In at a0; have a1 := (inv_F hI 0 32 rfl e_2_1); unfold In at a1; have a2 := r_2_0; unfold In at a2; have a3 := i1; unfold In at a3; have a4 := i1a; unfold In at a4; have a5 := i21; unfold In at a5; have a6 := t_add e21 i1 (in_c 1 rfl) rfl; have a7 := (in_c 1 rfl); unfold In at a7; omega) (by rw [← (show z1a = (sI s1 30 z1.toNatClampNeg x1).2.2.1 30 0 from sI_F (e1))]; have a0 := (inv_F hI 448 28000 rfl e_30_0); unfold In at a0; have a1 := (inv_F hI 0 32 rfl e_2_1); unfold In at a1; have a2 := r_2_0; unfold In at a2; have a3 := i1; unfold In at a3; have a4 := i1a; unfold In at a4; have a5 := i21; unfold In at a5; have a6 := t_add e21 i1 (in_c 1 rfl) rfl; have a7 := (in_c 1 rfl); unfold In at a7; omega)
  refine g_lgstore (A := (ax A 30 a1)) 24 (gd rfl) rfl hx23 ?_
  have hI23 := inv_sI (q := 30) (j := z21.toNatClampNeg) (x := x2) hI13 rfl (i_rng x2)
  refine g_aload_n 25 (gd rfl) rfl rfl ?_
  refine g_getA (A := (ax A 30 a1)) (q := 1) (q2 := 30) 28 (gd rfl) rfl rfl rfl rfl ?_
  refine g_iload 30 (gd rfl) rfl rfl ?_
  refine g_iconst 2 31 (gd rfl) rfl rfl ?_
  refine g_iadd 32 (gd rfl) rfl (fun z31 e31 => ?_)
  have i31 := in_add 2 27995 e31 i1 (in_c 2 rfl) rfl rfl
  refine g_iload_n 33 (gd rfl) rfl rfl ?_
  have hx33 : vp_in z31 ((sI (sI s1 30 z1.toNatClampNeg x1) 30 z21.toNatClampNeg x2).2.2.1 30 0).toNatClampNeg := lg_in (by have a0 := (inv_F hI 448 28000 rfl e_30_0); unfold In at a0; have a1 := (inv_F hI 0 32 rfl e_2_1); unfold In at a1; have a2 := r_2_0; unfold In at a2; have a3 := i1; unfold In at a3; have a4 := i1a; unfold In at a4; have a5 := i31; unfold In at a5; have a6 := t_add e31 i1 (in_c 2 rfl) rfl; have a7 := (in_c 2 rfl); unfold In at a7; have a8 := i21; unfold In at a8; have a9 := t_add e21 i1 (in_c 1 rfl) rfl; have a10 := (in_c 1 rfl); unfold In at a10; omega) (by rw [← (show z1a = (sI (sI s1 30 z1.toNatClampNeg x1) 30 z21.toNatClampNeg x2).2.2.1 30 0 from sI_F (sI_F (e1)))]; have a0 := (inv_F hI 448 28000 rfl e_30_0); unfold In at a0; have a1 := (inv_F hI 0 32 rfl e_2_1); unfold In at a1; have a2 := r_2_0; unfold In at a2; have a3 := i1; unfold In at a3; have a4 := i1a; unfold In at a4; have a5 := i31; unfold In at a5; have a6 := t_add e31 i1 (in_c 2 rfl) rfl; have a7 := (in_c 2 rfl); unfold In at a7; have a8 := i21; unfold In at a8; have a9 := t_add e21 i1 (in_c 1 rfl) rfl; have a10 := (in_c 1 rfl); unfold In at a10; omega)
  refine g_lgstore (A := (ax A 30 a1)) 34 (gd rfl) rfl hx33 ?_
  have hI33 := inv_sI (q := 30) (j := z31.toNatClampNeg) (x := x3) hI23 rfl (i_rng x3)
  refine g_aload_n 35 (gd rfl) rfl rfl ?_
  refine g_getA (A := (ax A 30 a1)) (q := 1) (q2 := 30) 38 (gd rfl) rfl rfl rfl rfl ?_
  refine g_iload 40 (gd rfl) rfl rfl ?_
  refine g_iconst 3 41 (gd rfl) rfl rfl ?_
  refine g_iadd 42 (gd rfl) rfl (fun z41 e41 => ?_)
  have i41 := in_add 3 27996 e41 i1 (in_c 3 rfl) rfl rfl
  refine g_iload 44 (gd rfl) rfl rfl ?_
  have hx44 : vp_in z41 ((sI (sI (sI s1 30 z1.toNatClampNeg x1) 30 z21.toNatClampNeg x2) 30 z31.toNatClampNeg x3).2.2.1 30 0).toNatClampNeg := lg_in (by have a0 := (inv_F hI 448 28000 rfl e_30_0); unfold In at a0; have a1 := (inv_F hI 0 32 rfl e_2_1); unfold In at a1; have a2 := r_2_0; unfold In at a2; have a3 := i1; unfold In at a3; have a4 := i1a; unfold In at a4; have a5 := i41; unfold In at a5; have a6 := t_add e41 i1 (in_c 3 rfl) rfl; have a7 := (in_c 3 rfl); unfold In at a7; have a8 := i31; unfold In at a8; have a9 := t_add e31 i1 (in_c 2 rfl) rfl; have a10 := (in_c 2 rfl); unfold In at a10; have a11 := i21; unfold In at a11; have a12 := t_add e21 i1 (in_c 1 rfl) rfl; have a13 := (in_c 1 rfl); unfold In at a13; omega) (by rw [← (show z1a = (sI (sI (sI s1 30 z1.toNatClampNeg x1) 30 z21.toNatClampNeg x2) 30 z31.toNatClampNeg x3).2.2.1 30 0 from sI_F (sI_F (sI_F (e1))))]; have a0 := (inv_F hI 448 28000 rfl e_30_0); unfold In at a0; have a1 := (inv_F hI 0 32 rfl e_2_1); unfold In at a1; have a2 := r_2_0; unfold In at a2; have a3 := i1; unfold In at a3; have a4 := i1a; unfold In at a4; have a5 := i41; unfold In at a5; have a6 := t_add e41 i1 (in_c 3 rfl) rfl; have a7 := (in_c 3 rfl); unfold In at a7; have a8 := i31; unfold In at a8; have a9 := t_add e31 i1 (in_c 2 rfl) rfl; have a10 := (in_c 2 rfl); unfold In at a10; have a11 := i21; unfold In at a11; have a12 := t_add e21 i1 (in_c 1 rfl) rfl; have a13 := (in_c 1 rfl); unfold In at a13; omega)
  refine g_lgstore (A := (ax A 30 a1)) 45 (gd rfl) rfl hx44 ?_
  have hI44 := inv_sI (q := 30) (j := z41.toNatClampNeg) (x := x4) hI33 rfl (i_rng x4)
  refine g_aload_n 46 (gd rfl) rfl rfl ?_
  refine g_aload_n 47 (gd rfl) rfl rfl ?_
  refine g_getA (A := (ax A 30 a1)) (q := 1) (q2 := 2) 50 (gd rfl) rfl rfl rfl rfl ?_
  have hpf : ∀ i, i < 7 * (s.2.2.1 2 0).toInt.toNat → s1.1 30 i = s.1 30 i := (fun i hi => p1a i (by have h8 := q_0.2.1; omega))
  have hrw : RW7 ((sI (sI (sI (sI s1 30 z1.toNatClampNeg x1) 30 z21.toNatClampNeg x2) 30 z31.toNatClampNeg x3) 30 z41.toNatClampNeg x4).1 30) (s.2.2.1 2 0).toInt.toNat := (by rw [sI_q, sI_q, sI_q, sI_q, (show (z1).toNatClampNeg = 7 * (s.2.2.1 2 0).toInt.toNat from (by show (z1).toInt.toNat = _; rw [← e_2_0]; have a0 := (inv_F hI 448 28000 rfl e_30_0); unfold In at a0; have a1 := (inv_F hI 0 32 rfl e_2_1); unfold In at a1; have a2 := r_2_0; unfold In at a2; have a3 := i1; unfold In at a3; have a4 := i1a; unfold In at a4; have a5 := i41; unfold In at a5; have a6 := t_add e41 i1 (in_c 3 rfl) rfl; have a7 := (in_c 3 rfl); unfold In at a7; have a8 := i31; unfold In at a8; have a9 := t_add e31 i1 (in_c 2 rfl) rfl; have a10 := (in_c 2 rfl); unfold In at a10; have a11 := i21; unfold In at a11; have a12 := t_add e21 i1 (in_c 1 rfl) rfl; have a13 := (in_c 1 rfl); unfold In at a13; omega)), (show (z21).toNatClampNeg = 7 * (s.2.2.1 2 0).toInt.toNat + 1 from (by show (z21).toInt.toNat = _; rw [← e_2_0]; have a0 := (inv_F hI 448 28000 rfl e_30_0); unfold In at a0; have a1 := (inv_F hI 0 32 rfl e_2_1); unfold In at a1; have a2 := r_2_0; unfold In at a2; have a3 := i1; unfold In at a3; have a4 := i1a; unfold In at a4; have a5 := i41; unfold In at a5; have a6 := t_add e41 i1 (in_c 3 rfl) rfl; have a7 := (in_c 3 rfl); unfold In at a7; have a8 := i31; unfold In at a8; have a9 := t_add e31 i1 (in_c 2 rfl) rfl; have a10 := (in_c 2 rfl); unfold In at a10; have a11 := i21; unfold In at a11; have a12 := t_add e21 i1 (in_c 1 rfl) rfl; have a13 := (in_c 1 rfl); unfold In at a13; omega)), (show (z31).toNatClampNeg = 7 * (s.2.2.1 2 0).toInt.toNat + 2 from (by show (z31).toInt.toNat = _; rw [← e_2_0]; have a0 := (inv_F hI 448 28000 rfl e_30_0); unfold In at a0; have a1 := (inv_F hI 0 32 rfl e_2_1); unfold In at a1; have a2 := r_2_0; unfold In at a2; have a3 := i1; unfold In at a3; have a4 := i1a; unfold In at a4; have a5 := i41; unfold In at a5; have a6 := t_add e41 i1 (in_c 3 rfl) rfl; have a7 := (in_c 3 rfl); unfold In at a7; have a8 := i31; unfold In at a8; have a9 := t_add e31 i1 (in_c 2 rfl) rfl; have a10 := (in_c 2 rfl); unfold In at a10; have a11 := i21; unfold In at a11; have a12 := t_add e21 i1 (in_c 1 rfl) rfl; have a13 := (in_c 1 rfl); unfold In at a13; omega)), (show (z41).toNatClampNeg = 7 * (s.2.2.1 2 0).toInt.toNat + 3 from (by show (z41).toInt.toNat = _; rw [← e_2_0]; have a0 := (inv_F hI 448 28000 rfl e_30_0); unfold In at a0; have a1 := (inv_F hI 0 32 rfl e_2_1); unfold In at a1; have a2 := r_2_0; unfold In at a2; have a3 := i1; unfold In at a3; have a4 := i1a; unfold In at a4; have a5 := i41; unfold In at a5; have a6 := t_add e41 i1 (in_c 3 rfl) rfl; have a7 := (in_c 3 rfl); unfold In at a7; have a8 := i31; unfold In at a8; have a9 := t_add e31 i1 (in_c 2 rfl) rfl; have a10 := (in_c 2 rfl); unfold In at a10; have a11 := i21; unfold In at a11; have a12 := t_add e21 i1 (in_c 1 rfl) rfl; have a13 := (in_c 1 rfl); unfold In at a13; omega))]; exact nt_rw (by rw [cz7_cg (w := s.1 30) hpf]; exact q_1))
  have hpre : ∀ k : Nat, (k : Int) < 7 * (s.2.2.1 2 0).toInt → (sI (sI (sI (sI s1 30 z1.toNatClampNeg x1) 30 z21.toNatClampNeg x2) 30 z31.toNatClampNeg x3) 30 z41.toNatClampNeg x4).1 30 k = s.1 30 k := (fun k hk => by rw [sI_q, sI_q, sI_q, sI_q, (show (z1).toNatClampNeg = 7 * (s.2.2.1 2 0).toInt.toNat from (by show (z1).toInt.toNat = _; rw [← e_2_0]; have a0 := (inv_F hI 448 28000 rfl e_30_0); unfold In at a0; have a1 := (inv_F hI 0 32 rfl e_2_1); unfold In at a1; have a2 := r_2_0; unfold In at a2; have a3 := i1; unfold In at a3; have a4 := i1a; unfold In at a4; have a5 := i41; unfold In at a5; have a6 := t_add e41 i1 (in_c 3 rfl) rfl; have a7 := (in_c 3 rfl); unfold In at a7; have a8 := i31; unfold In at a8; have a9 := t_add e31 i1 (in_c 2 rfl) rfl; have a10 := (in_c 2 rfl); unfold In at a10; have a11 := i21; unfold In at a11; have a12 := t_add e21 i1 (in_c 1 rfl) rfl; have a13 := (in_c 1 rfl); unfold In at a13; omega)), (show (z21).toNatClampNeg = 7 * (s.2.2.1 2 0).toInt.toNat + 1 from (by show (z21).toInt.toNat = _; rw [← e_2_0]; have a0 := (inv_F hI 448 28000 rfl e_30_0); unfold In at a0; have a1 := (inv_F hI 0 32 rfl e_2_1); unfold In at a1; have a2 := r_2_0; unfold In at a2; have a3 := i1; unfold In at a3; have a4 := i1a; unfold In at a4; have a5 := i41; unfold In at a5; have a6 := t_add e41 i1 (in_c 3 rfl) rfl; have a7 := (in_c 3 rfl); unfold In at a7; have a8 := i31; unfold In at a8; have a9 := t_add e31 i1 (in_c 2 rfl) rfl; have a10 := (in_c 2 rfl); unfold In at a10; have a11 := i21; unfold In at a11; have a12 := t_add e21 i1 (in_c 1 rfl) rfl; have a13 := (in_c 1 rfl); unfold In at a13; omega)), (show (z31).toNatClampNeg = 7 * (s.2.2.1 2 0).toInt.toNat + 2 from (by show (z31).toInt.toNat = _; rw [← e_2_0]; have a0 := (inv_F hI 448 28000 rfl e_30_0); unfold In at a0; have a1 := (inv_F hI 0 32 rfl e_2_1); unfold In at a1; have a2 := r_2_0; unfold In at a2; have a3 := i1; unfold In at a3; have a4 := i1a; unfold In at a4; have a5 := i41; unfold In at a5; have a6 := t_add e41 i1 (in_c 3 rfl) rfl; have a7 := (in_c 3 rfl); unfold In at a7; have a8 := i31; unfold In at a8; have a9 := t_add e31 i1 (in_c 2 rfl) rfl; have a10 := (in_c 2 rfl); unfold In at a10; have a11 := i21; unfold In at a11; have a12 := t_add e21 i1 (in_c 1 rfl) rfl; have a13 := (in_c 1 rfl); unfold In at a13; omega)), (show (z41).toNatClampNeg = 7 * (s.2.2.1 2 0).toInt.toNat + 3 from (by show (z41).toInt.toNat = _; rw [← e_2_0]; have a0 := (inv_F hI 448 28000 rfl e_30_0); unfold In at a0; have a1 := (inv_F hI 0 32 rfl e_2_1); unfold In at a1; have a2 := r_2_0; unfold In at a2; have a3 := i1; unfold In at a3; have a4 := i1a; unfold In at a4; have a5 := i41; unfold In at a5; have a6 := t_add e41 i1 (in_c 3 rfl) rfl; have a7 := (in_c 3 rfl); unfold In at a7; have a8 := i31; unfold In at a8; have a9 := t_add e31 i1 (in_c 2 rfl) rfl; have a10 := (in_c 2 rfl); unfold In at a10; have a11 := i21; unfold In at a11; have a12 := t_add e21 i1 (in_c 1 rfl) rfl; have a13 := (in_c 1 rfl); unfold In at a13; omega)), nt_pre (by omega)]; exact hpf k (by omega))
  have hlen : 7 * (s.2.2.1 2 0).toInt + 7 ≤ ((sI (sI (sI (sI s1 30 z1.toNatClampNeg x1) 30 z21.toNatClampNeg x2) 30 z31.toNatClampNeg x3) 30 z41.toNatClampNeg x4).2.2.1 30 0).toInt := (by rw [← (show z1a = (sI (sI (sI (sI s1 30 z1.toNatClampNeg x1) 30 z21.toNatClampNeg x2) 30 z31.toNatClampNeg x3) 30 z41.toNatClampNeg x4).2.2.1 30 0 from sI_F (sI_F (sI_F (sI_F (e1))))), ← e_2_0]; have a0 := (inv_F hI 448 28000 rfl e_30_0); unfold In at a0; have a1 := (inv_F hI 0 32 rfl e_2_1); unfold In at a1; have a2 := r_2_0; unfold In at a2; have a3 := i1; unfold In at a3; have a4 := i1a; unfold In at a4; have a5 := i41; unfold In at a5; have a6 := t_add e41 i1 (in_c 3 rfl) rfl; have a7 := (in_c 3 rfl); unfold In at a7; have a8 := i31; unfold In at a8; have a9 := t_add e31 i1 (in_c 2 rfl) rfl; have a10 := (in_c 2 rfl); unfold In at a10; have a11 := i21; unfold In at a11; have a12 := t_add e21 i1 (in_c 1 rfl) rfl; have a13 := (in_c 1 rfl); unfold In at a13; omega)
  have hF3 : Fr ([30], [], [(30, 0)], []) s (sI (sI (sI (sI s1 30 z1.toNatClampNeg x1) 30 z21.toNatClampNeg x2) 30 z31.toNatClampNeg x3) 30 z41.toNatClampNeg x4) := (fr_sI rfl (fr_sI rfl (fr_sI rfl (fr_sI rfl (fr_tr rfl fr_rf hF1)))))
  have v50 : u_2_0 = (sI (sI (sI (sI s1 30 z1.toNatClampNeg x1) 30 z21.toNatClampNeg x2) 30 z31.toNatClampNeg x3) 30 z41.toNatClampNeg x4).2.2.1 2 0 := sI_F (sI_F (sI_F (sI_F (fr_F (e_2_0) hF1 rfl))))
  have v50a : u_2_1 = (sI (sI (sI (sI s1 30 z1.toNatClampNeg x1) 30 z21.toNatClampNeg x2) 30 z31.toNatClampNeg x3) 30 z41.toNatClampNeg x4).2.2.1 2 1 := sI_F (sI_F (sI_F (sI_F (fr_F (e_2_1) hF1 rfl))))
  have v50b : z1a = (sI (sI (sI (sI s1 30 z1.toNatClampNeg x1) 30 z21.toNatClampNeg x2) 30 z31.toNatClampNeg x3) 30 z41.toNatClampNeg x4).2.2.1 30 0 := sI_F (sI_F (sI_F (sI_F (e1))))
  have n50 : 7 * (u_2_0).toInt + 7 ≤ (z1a).toInt := by have a0 := (inv_F hI 448 28000 rfl e_30_0); unfold In at a0; have a1 := (inv_F hI 0 32 rfl e_2_1); unfold In at a1; have a2 := r_2_0; unfold In at a2; have a3 := i1; unfold In at a3; have a4 := i1a; unfold In at a4; have a5 := i41; unfold In at a5; have a6 := t_add e41 i1 (in_c 3 rfl) rfl; have a7 := (in_c 3 rfl); unfold In at a7; have a8 := i31; unfold In at a8; have a9 := t_add e31 i1 (in_c 2 rfl) rfl; have a10 := (in_c 2 rfl); unfold In at a10; have a11 := i21; unfold In at a11; have a12 := t_add e21 i1 (in_c 1 rfl) rfl; have a13 := (in_c 1 rfl); unfold In at a13; omega
  have p50 : RW7 ((sI (sI (sI (sI s1 30 z1.toNatClampNeg x1) 30 z21.toNatClampNeg x2) 30 z31.toNatClampNeg x3) 30 z41.toNatClampNeg x4).1 30) ((sI (sI (sI (sI s1 30 z1.toNatClampNeg x1) 30 z21.toNatClampNeg x2) 30 z31.toNatClampNeg x3) 30 z41.toNatClampNeg x4).2.2.1 2 0).toInt.toNat := by rw [show ((sI (sI (sI (sI s1 30 z1.toNatClampNeg x1) 30 z21.toNatClampNeg x2) 30 z31.toNatClampNeg x3) 30 z41.toNatClampNeg x4).2.2.1 2 0) = s.2.2.1 2 0 from hF3.2.2.1 2 0 rfl]; exact hrw
  have p50a : KV (sI (sI (sI (sI s1 30 z1.toNatClampNeg x1) 30 z21.toNatClampNeg x2) 30 z31.toNatClampNeg x3) 30 z41.toNatClampNeg x4) 2 := by exact kv_cg q_0.2.2.2.1 (hF3.2.2.1 2 0 rfl) (hF3.2.2.1 2 1 rfl) (hF3.1 4 rfl) (hF3.1 5 rfl) hpre
  refine g_callv (X := _) (As := [.ref (A 2)]) (r := []) (b := A 1) (q := 1) 53 (gd rfl) rfl rfl rfl rfl rfl (ww_o rfl) (Nat.le_of_ble_eq_true rfl) (Nat.zero_le _) (Nat.zero_le _) (k_131_1_2 (A := (ax A 30 a1)) (by omega) hI44 v50 v50a v50b (in_w 0 3999 r_2_0 rfl) n50 p50 p50a) (fun e u h => h) (fun v u h => ?_)
  obtain ⟨s50, hI50, hF50, n50a, rfl, rfl, p50b⟩ := h
  obtain ⟨z50a, e50⟩ : ∃ w, w = s50.2.2.1 2 0 := ⟨_, rfl⟩
  have i50a := inv_F hI50 0 4000 rfl e50
  rw [← (show u_2_0 = (sI (sI (sI (sI s1 30 z1.toNatClampNeg x1) 30 z21.toNatClampNeg x2) 30 z31.toNatClampNeg x3) 30 z41.toNatClampNeg x4).2.2.1 2 0 from sI_F (sI_F (sI_F (sI_F (fr_F (e_2_0) hF1 rfl)))))] at n50a
  rw [← (show z50a = s50.2.2.1 2 0 from e50)] at n50a
  show GG _ _ _ _ _ _ _ _ [] _ _ _
  have n53 : KL s50 := by have hFF : Fr fm_129_1 s s50 := (fr_tr rfl (fr_sI rfl (fr_sI rfl (fr_sI rfl (fr_sI rfl (fr_tr rfl fr_rf hF1))))) hF50); exact kl_row q_0 (by rw [← e_2_0]; exact r_2_0) hpre hrw hlen (hF50.1 30 rfl) (hF50.2.2.1 30 0 rfl) (by rw [← (show z50a = s50.2.2.1 2 0 from e50), ← e_2_0]; have a0 := (inv_F hI 448 28000 rfl e_30_0); unfold In at a0; have a1 := (inv_F hI 0 32 rfl e_2_1); unfold In at a1; have a2 := r_2_0; unfold In at a2; have a3 := i1; unfold In at a3; have a4 := i50a; unfold In at a4; have a5 := i1a; unfold In at a5; have a6 := i41; unfold In at a6; have a7 := t_add e41 i1 (in_c 3 rfl) rfl; have a8 := (in_c 3 rfl); unfold In at a8; have a9 := i31; unfold In at a9; have a10 := t_add e31 i1 (in_c 2 rfl) rfl; have a11 := (in_c 2 rfl); unfold In at a11; have a12 := i21; unfold In at a12; have a13 := t_add e21 i1 (in_c 1 rfl) rfl; have a14 := (in_c 1 rfl); unfold In at a14; omega) (hFF.2.2.1 32 0 rfl) (hFF.2.2.1 32 1 rfl) (hFF.1 34 rfl) (hFF.1 35 rfl) p50b
  have n53a : (s50.2.2.1 30 0).toInt = nln s := by rw [hF50.2.2.1 30 0 rfl]; exact p1b
  have n53b : ∀ k : Nat, (k : Int) < 7 * (s.2.2.1 2 0).toInt → s50.1 30 k = s.1 30 k := by exact fun k hk => by rw [hF50.1 30 rfl]; exact hpre k hk
  have n53c : (z50a).toInt = (u_2_0).toInt + 1 := by have a0 := (inv_F hI 448 28000 rfl e_30_0); unfold In at a0; have a1 := (inv_F hI 0 32 rfl e_2_1); unfold In at a1; have a2 := r_2_0; unfold In at a2; have a3 := i1; unfold In at a3; have a4 := i50a; unfold In at a4; have a5 := i1a; unfold In at a5; have a6 := i41; unfold In at a6; have a7 := t_add e41 i1 (in_c 3 rfl) rfl; have a8 := (in_c 3 rfl); unfold In at a8; have a9 := i31; unfold In at a9; have a10 := t_add e31 i1 (in_c 2 rfl) rfl; have a11 := (in_c 2 rfl); unfold In at a11; have a12 := i21; unfold In at a12; have a13 := t_add e21 i1 (in_c 1 rfl) rfl; have a14 := (in_c 1 rfl); unfold In at a14; omega
  have n53d : (s50.2.2.1 2 0).toInt = (s.2.2.1 2 0).toInt + 1 := by have b0 : z50a = s50.2.2.1 2 0 := e50; first | (rw [← b0, ← e_2_0]; exact n53c) | (rw [← b0]; exact n53c)
  exact g_return (gd rfl) rfl (hP _ _ ⟨a1, s50, hI50, (fr_tr rfl (fr_sI rfl (fr_sI rfl (fr_sI rfl (fr_sI rfl (fr_tr rfl fr_rf hF1))))) hF50), n53d, rfl, rfl, n53, n53a, n53b⟩)
