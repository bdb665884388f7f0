/-! methods, by vc.py -/
def fm_173_46 : FM := ([], [], [(46, 2), (46, 3), (46, 5)], [])
/-- GraphHouse$Script.readNumber -/
theorem k_173_46 {Z : AmZ} {A : Nat → Nat} {s : GS} {ex : va_W} {d : Nat} {X : AmX} {x1 : Int32} {x2 : Int32} {u_46_2 : Int32} {u_46_1 : Int32} (hd : 3 ≤ d) (hI : Inv s) (h1 : In x1 0 1) (h2 : In x2 6 7) (e_46_2 : u_46_2 = s.2.2.1 46 2) (e_46_1 : u_46_1 = s.2.2.1 46 1) (p_0 : (u_46_2).toInt + (x1).toInt + 1 ≤ (u_46_1).toInt) (q_0 : 48 ≤ (s.1 47 ((s.2.2.1 46 2).toInt + (x1).toInt).toNat).toInt ∧ (s.1 47 ((s.2.2.1 46 2).toInt + (x1).toInt).toNat).toInt ≤ 57) : GC Z d 173 [.ref (A 46), .int x1, .int x2] (WW Z A s ++ ex) 0 0 (fun v u => ∃ t : GS, Inv t ∧ Fr fm_173_46 s t ∧ ((t.2.2.1 46 2).toInt ≤ (t.2.2.1 46 1).toInt) ∧ ((s.2.2.1 46 2).toInt + 1 ≤ (t.2.2.1 46 2).toInt) ∧ v = none ∧ u = WW Z A t ++ ex ∧ ((t.2.2.1 46 3).toInt ≠ 1) ∧ ((x2).toInt = 6 → (t.2.2.1 46 3).toInt = 2 → (t.2.2.1 46 5).toInt ≤ 999999)) X := by
  intro post xp hP hX
  have ro_46_1 := inv_F hI 0 1000 rfl e_46_1
  have ct26 : ∀ (k26 : Nat) (sc26 : GS) (y26_3 : Int32) (y26_4 : Int32) (w26_46_2 : Int32), Inv sc26 → Fr fm_173_46 s sc26 → (In y26_3 0 1000) → (In y26_4 0 9999999) → (w26_46_2 = sc26.2.2.1 46 2) → ((w26_46_2).toInt ≤ (u_46_1).toInt) → ((u_46_2).toInt + (x1).toInt ≤ (w26_46_2).toInt) → ((y26_3).toInt ≤ (w26_46_2).toInt) → (0 ≤ (y26_4).toInt ∧ ((y26_3).toInt ≤ (x2).toInt → (y26_4).toInt < (10 : Int) ^ ((y26_3).toInt).toNat) ∧ ((x2).toInt < (y26_3).toInt → (y26_4).toInt < (10 : Int) ^ ((x2).toInt).toNat)) → (u_46_1).toInt - (w26_46_2).toInt < (k26 : Int) → GG Z (d - 1) 173 post (gx xp) (1 + k26 * 900) 26 (fun j => xlook j [(0, .ref (A 46)), (1, .int x1), (2, .int x2), (3, .int y26_3), (4, .int y26_4)]) [] (WW Z A sc26 ++ ex) 0 0 := by
    intro k26
    induction k26 with
    | zero => intro sc26 y26_3 y26_4 w26_46_2 hIc26 hFc26 j26_3 j26_4 v26_46_2 n26_0 n26_1 n26_2 g26_0 mm26; exfalso; have a0 := h2; unfold In at a0; have a1 := h1; unfold In at a1; have a2 := ro_46_1; unfold In at a2; have a3 := (inv_F hIc26 0 1000 rfl v26_46_2); unfold In at a3; have a4 := j26_4; unfold In at a4; have a5 := j26_3; unfold In at a5; omega
    | succ k26 ih26 =>
      intro sc26 y26_3 y26_4 w26_46_2 hIc26 hFc26 j26_3 j26_4 v26_46_2 n26_0 n26_1 n26_2 g26_0 mm26
      refine gg_w (M := 1 + k26 * 900 + 900) (by omega) ?_
      refine g_aload_n 27 (gd rfl) rfl rfl ?_
      refine g_getI 30 (gd rfl) rfl rfl rfl (fun z27 e27 => ?_)
      have q27 : w26_46_2 = z27 := (v26_46_2).trans e27.symm
      subst q27
      refine g_aload_n 31 (gd rfl) rfl rfl ?_
      refine g_getI 34 (gd rfl) rfl rfl rfl (fun z31 e31 => ?_)
      have q31 : u_46_1 = z31 := (fr_F e_46_1 hFc26 rfl).trans e31.symm
      subst q31
      refine g_cmp_ge 37 89 (gd rfl) rfl rfl (fun c34 => ?_) (fun c34 => ?_)
      · skip
        have hq89 : (u_46_2).toInt + 1 ≤ (w26_46_2).toInt := (by have a0 := h2; unfold In at a0; have a1 := h1; unfold In at a1; have a2 := ro_46_1; unfold In at a2; have a3 := (inv_F hIc26 0 1000 rfl v26_46_2); unfold In at a3; have a4 := j26_4; unfold In at a4; have a5 := j26_3; unfold In at a5; omega)
        refine g_aload_n 90 (gd rfl) rfl rfl ?_
        refine g_iload_n 91 (gd rfl) rfl rfl ?_
        refine g_if_eq 94 100 (gd rfl) rfl rfl (fun c91 => ?_) (fun c91 => ?_)
        · skip
          have i91 := z_eq 0 0 c91 h1 rfl
          refine g_iload 102 (gd rfl) rfl rfl ?_
          refine g_putI 105 (gd rfl) rfl rfl rfl rfl ?_
          have hI102 := inv_sF (q := 46) (j := 5) hIc26 rfl (in_w (-2147483648) 2147483647 j26_4 rfl)
          refine g_aload_n 106 (gd rfl) rfl rfl ?_
          refine g_iload_n 107 (gd rfl) rfl rfl ?_
          refine g_iload_n 108 (gd rfl) rfl rfl ?_
          refine g_cmp_le 111 115 (gd rfl) rfl rfl (fun c108 => ?_) (fun c108 => ?_)
          · skip
            have i108 := r_le1 0 7 c108 j26_3 h2 rfl
            refine g_iconst 2 116 (gd rfl) rfl rfl ?_
            refine g_putI 119 (gd rfl) rfl rfl rfl rfl ?_
            have hI116 := inv_sF (q := 46) (j := 3) hI102 rfl (in_w 0 5 (in_c 2 rfl) rfl)
            have n119 : ((sF (sF sc26 46 5 y26_4) 46 3 (Int32.ofInt 2)).2.2.1 46 3).toInt ≠ 1 := by rw [← (show (Int32.ofInt 2) = (sF (sF sc26 46 5 y26_4) 46 3 (Int32.ofInt 2)).2.2.1 46 3 from sF_get)]; decide
            have n119a : (x2).toInt = 6 → ((sF (sF sc26 46 5 y26_4) 46 3 (Int32.ofInt 2)).2.2.1 46 3).toInt = 2 → ((sF (sF sc26 46 5 y26_4) 46 3 (Int32.ofInt 2)).2.2.1 46 5).toInt ≤ 999999 := by intro h6 h2; rw [← (show (Int32.ofInt 2) = (sF (sF sc26 46 5 y26_4) 46 3 (Int32.ofInt 2)).2.2.1 46 3 from sF_get)] at h2; rw [← (show y26_4 = (sF (sF sc26 46 5 y26_4) 46 3 (Int32.ofInt 2)).2.2.1 46 5 from sF_ne rfl (sF_get))]; first | (exfalso; revert h2; decide) | exact dg_6 (by have a0 := h2; unfold In at a0; have a1 := i91; unfold In at a1; have a2 := ro_46_1; unfold In at a2; have a3 := (inv_F hIc26 0 1000 rfl v26_46_2); unfold In at a3; have a4 := j26_4; unfold In at a4; have a5 := i108; unfold In at a5; have a6 := (in_c 2 rfl); unfold In at a6; omega) (by have a0 := h2; unfold In at a0; have a1 := i91; unfold In at a1; have a2 := ro_46_1; unfold In at a2; have a3 := (inv_F hIc26 0 1000 rfl v26_46_2); unfold In at a3; have a4 := j26_4; unfold In at a4; have a5 := i108; unfold In at a5; have a6 := (in_c 2 rfl); unfold In at a6; omega) (g26_0.2.1 (by have a0 := h2; unfold In at a0; have a1 := i91; unfold In at a1; have a2 := ro_46_1; unfold In at a2; have a3 := (inv_F hIc26 0 1000 rfl v26_46_2); unfold In at a3; have a4 := j26_4; unfold In at a4; have a5 := i108; unfold In at a5; have a6 := (in_c 2 rfl); unfold In at a6; omega))
            have n119b : (w26_46_2).toInt ≤ (u_46_1).toInt := by have a0 := h2; unfold In at a0; have a1 := i91; unfold In at a1; have a2 := ro_46_1; unfold In at a2; have a3 := (inv_F hIc26 0 1000 rfl v26_46_2); unfold In at a3; have a4 := j26_4; unfold In at a4; have a5 := i108; unfold In at a5; have a6 := (in_c 2 rfl); unfold In at a6; omega
            have n119c : ((sF (sF sc26 46 5 y26_4) 46 3 (Int32.ofInt 2)).2.2.1 46 2).toInt ≤ ((sF (sF sc26 46 5 y26_4) 46 3 (Int32.ofInt 2)).2.2.1 46 1).toInt := by have b0 : w26_46_2 = (sF (sF sc26 46 5 y26_4) 46 3 (Int32.ofInt 2)).2.2.1 46 2 := sF_ne rfl (sF_ne rfl (v26_46_2)); have b1 : u_46_1 = (sF (sF sc26 46 5 y26_4) 46 3 (Int32.ofInt 2)).2.2.1 46 1 := sF_ne rfl (sF_ne rfl (fr_F e_46_1 hFc26 rfl)); rw [← b0, ← b1]; exact n119b
            have n119d : (u_46_2).toInt + 1 ≤ (w26_46_2).toInt := by have a0 := h2; unfold In at a0; have a1 := i91; unfold In at a1; have a2 := ro_46_1; unfold In at a2; have a3 := (inv_F hIc26 0 1000 rfl v26_46_2); unfold In at a3; have a4 := j26_4; unfold In at a4; have a5 := i108; unfold In at a5; have a6 := (in_c 2 rfl); unfold In at a6; omega
            have n119e : (s.2.2.1 46 2).toInt + 1 ≤ ((sF (sF sc26 46 5 y26_4) 46 3 (Int32.ofInt 2)).2.2.1 46 2).toInt := by have b0 : w26_46_2 = (sF (sF sc26 46 5 y26_4) 46 3 (Int32.ofInt 2)).2.2.1 46 2 := sF_ne rfl (sF_ne rfl (v26_46_2)); first | (rw [← b0, ← e_46_2]; exact n119d) | (rw [← b0]; exact n119d)
            exact g_return (gd rfl) rfl (hP _ _ ⟨(sF (sF sc26 46 5 y26_4) 46 3 (Int32.ofInt 2)), hI116, (fr_sF rfl (fr_sF rfl hFc26)), n119c, n119e, rfl, rfl, n119, n119a⟩)
          · skip
            have i108 := r_lt2 7 1000 c108 h2 j26_3 rfl
            refine g_iconst 5 112 (gd rfl) rfl rfl ?_
            refine g_goto 116 (gd rfl) rfl ?_
            refine g_putI 119 (gd rfl) rfl rfl rfl rfl ?_
            have hI116 := inv_sF (q := 46) (j := 3) hI102 rfl (in_w 0 5 (in_c 5 rfl) rfl)
            have n119 : ((sF (sF sc26 46 5 y26_4) 46 3 (Int32.ofInt 5)).2.2.1 46 3).toInt ≠ 1 := by rw [← (show (Int32.ofInt 5) = (sF (sF sc26 46 5 y26_4) 46 3 (Int32.ofInt 5)).2.2.1 46 3 from sF_get)]; decide
            have n119a : (x2).toInt = 6 → ((sF (sF sc26 46 5 y26_4) 46 3 (Int32.ofInt 5)).2.2.1 46 3).toInt = 2 → ((sF (sF sc26 46 5 y26_4) 46 3 (Int32.ofInt 5)).2.2.1 46 5).toInt ≤ 999999 := by intro h6 h2; rw [← (show (Int32.ofInt 5) = (sF (sF sc26 46 5 y26_4) 46 3 (Int32.ofInt 5)).2.2.1 46 3 from sF_get)] at h2; rw [← (show y26_4 = (sF (sF sc26 46 5 y26_4) 46 3 (Int32.ofInt 5)).2.2.1 46 5 from sF_ne rfl (sF_get))]; first | (exfalso; revert h2; decide) | exact dg_6 (by have a0 := h2; unfold In at a0; have a1 := i91; unfold In at a1; have a2 := ro_46_1; unfold In at a2; have a3 := (inv_F hIc26 0 1000 rfl v26_46_2); unfold In at a3; have a4 := j26_4; unfold In at a4; have a5 := i108; unfold In at a5; have a6 := (in_c 5 rfl); unfold In at a6; omega) (by have a0 := h2; unfold In at a0; have a1 := i91; unfold In at a1; have a2 := ro_46_1; unfold In at a2; have a3 := (inv_F hIc26 0 1000 rfl v26_46_2); unfold In at a3; have a4 := j26_4; unfold In at a4; have a5 := i108; unfold In at a5; have a6 := (in_c 5 rfl); unfold In at a6; omega) (g26_0.2.1 (by have a0 := h2; unfold In at a0; have a1 := i91; unfold In at a1; have a2 := ro_46_1; unfold In at a2; have a3 := (inv_F hIc26 0 1000 rfl v26_46_2); unfold In at a3; have a4 := j26_4; unfold In at a4; have a5 := i108; unfold In at a5; have a6 := (in_c 5 rfl); unfold In at a6; omega))
            have n119b : (w26_46_2).toInt ≤ (u_46_1).toInt := by have a0 := h2; unfold In at a0; have a1 := i91; unfold In at a1; have a2 := ro_46_1; unfold In at a2; have a3 := (inv_F hIc26 0 1000 rfl v26_46_2); unfold In at a3; have a4 := j26_4; unfold In at a4; have a5 := i108; unfold In at a5; have a6 := (in_c 5 rfl); unfold In at a6; omega
            have n119c : ((sF (sF sc26 46 5 y26_4) 46 3 (Int32.ofInt 5)).2.2.1 46 2).toInt ≤ ((sF (sF sc26 46 5 y26_4) 46 3 (Int32.ofInt 5)).2.2.1 46 1).toInt := by have b0 : w26_46_2 = (sF (sF sc26 46 5 y26_4) 46 3 (Int32.ofInt 5)).2.2.1 46 2 := sF_ne rfl (sF_ne rfl (v26_46_2)); have b1 : u_46_1 = (sF (sF sc26 46 5 y26_4) 46 3 (Int32.ofInt 5)).2.2.1 46 1 := sF_ne rfl (sF_ne rfl (fr_F e_46_1 hFc26 rfl)); rw [← b0, ← b1]; exact n119b
            have n119d : (u_46_2).toInt + 1 ≤ (w26_46_2).toInt := by have a0 := h2; unfold In at a0; have a1 := i91; unfold In at a1; have a2 := ro_46_1; unfold In at a2; have a3 := (inv_F hIc26 0 1000 rfl v26_46_2); unfold In at a3; have a4 := j26_4; unfold In at a4; have a5 := i108; unfold In at a5; have a6 := (in_c 5 rfl); unfold In at a6; omega
            have n119e : (s.2.2.1 46 2).toInt + 1 ≤ ((sF (sF sc26 46 5 y26_4) 46 3 (Int32.ofInt 5)).2.2.1 46 2).toInt := by have b0 : w26_46_2 = (sF (sF sc26 46 5 y26_4) 46 3 (Int32.ofInt 5)).2.2.1 46 2 := sF_ne rfl (sF_ne rfl (v26_46_2)); first | (rw [← b0, ← e_46_2]; exact n119d) | (rw [← b0]; exact n119d)
            exact g_return (gd rfl) rfl (hP _ _ ⟨(sF (sF sc26 46 5 y26_4) 46 3 (Int32.ofInt 5)), hI116, (fr_sF rfl (fr_sF rfl hFc26)), n119c, n119e, rfl, rfl, n119, n119a⟩)
        · skip
          have i91 := z_ne 1 1 c91 h1 rfl
          refine g_iload 96 (gd rfl) rfl rfl ?_
          refine g_ineg 97 (gd rfl) rfl (fun z96 e96 => ?_)
          have i96 := in_neg (-9999999) 0 e96 j26_4 rfl
          refine g_goto 102 (gd rfl) rfl ?_
          refine g_putI 105 (gd rfl) rfl rfl rfl rfl ?_
          have hI102 := inv_sF (q := 46) (j := 5) hIc26 rfl (in_w (-2147483648) 2147483647 i96 rfl)
          refine g_aload_n 106 (gd rfl) rfl rfl ?_
          refine g_iload_n 107 (gd rfl) rfl rfl ?_
          refine g_iload_n 108 (gd rfl) rfl rfl ?_
          refine g_cmp_le 111 115 (gd rfl) rfl rfl (fun c108 => ?_) (fun c108 => ?_)
          · skip
            have i108 := r_le1 0 7 c108 j26_3 h2 rfl
            refine g_iconst 2 116 (gd rfl) rfl rfl ?_
            refine g_putI 119 (gd rfl) rfl rfl rfl rfl ?_
            have hI116 := inv_sF (q := 46) (j := 3) hI102 rfl (in_w 0 5 (in_c 2 rfl) rfl)
            have n119 : ((sF (sF sc26 46 5 z96) 46 3 (Int32.ofInt 2)).2.2.1 46 3).toInt ≠ 1 := by rw [← (show (Int32.ofInt 2) = (sF (sF sc26 46 5 z96) 46 3 (Int32.ofInt 2)).2.2.1 46 3 from sF_get)]; decide
            have n119a : (x2).toInt = 6 → ((sF (sF sc26 46 5 z96) 46 3 (Int32.ofInt 2)).2.2.1 46 3).toInt = 2 → ((sF (sF sc26 46 5 z96) 46 3 (Int32.ofInt 2)).2.2.1 46 5).toInt ≤ 999999 := by intro h6 h2; rw [← (show (Int32.ofInt 2) = (sF (sF sc26 46 5 z96) 46 3 (Int32.ofInt 2)).2.2.1 46 3 from sF_get)] at h2; rw [← (show z96 = (sF (sF sc26 46 5 z96) 46 3 (Int32.ofInt 2)).2.2.1 46 5 from sF_ne rfl (sF_get))]; first | (exfalso; revert h2; decide) | (have a0 := h2; unfold In at a0; have a1 := i91; unfold In at a1; have a2 := ro_46_1; unfold In at a2; have a3 := (inv_F hIc26 0 1000 rfl v26_46_2); unfold In at a3; have a4 := j26_4; unfold In at a4; have a5 := i108; unfold In at a5; have a6 := (in_c 2 rfl); unfold In at a6; have a7 := i96; unfold In at a7; omega)
            have n119b : (w26_46_2).toInt ≤ (u_46_1).toInt := by have a0 := h2; unfold In at a0; have a1 := i91; unfold In at a1; have a2 := ro_46_1; unfold In at a2; have a3 := (inv_F hIc26 0 1000 rfl v26_46_2); unfold In at a3; have a4 := j26_4; unfold In at a4; have a5 := i108; unfold In at a5; have a6 := (in_c 2 rfl); unfold In at a6; have a7 := i96; unfold In at a7; omega
            have n119c : ((sF (sF sc26 46 5 z96) 46 3 (Int32.ofInt 2)).2.2.1 46 2).toInt ≤ ((sF (sF sc26 46 5 z96) 46 3 (Int32.ofInt 2)).2.2.1 46 1).toInt := by have b0 : w26_46_2 = (sF (sF sc26 46 5 z96) 46 3 (Int32.ofInt 2)).2.2.1 46 2 := sF_ne rfl (sF_ne rfl (v26_46_2)); have b1 : u_46_1 = (sF (sF sc26 46 5 z96) 46 3 (Int32.ofInt 2)).2.2.1 46 1 := sF_ne rfl (sF_ne rfl (fr_F e_46_1 hFc26 rfl)); rw [← b0, ← b1]; exact n119b
            have n119d : (u_46_2).toInt + 1 ≤ (w26_46_2).toInt := by have a0 := h2; unfold In at a0; have a1 := i91; unfold In at a1; have a2 := ro_46_1; unfold In at a2; have a3 := (inv_F hIc26 0 1000 rfl v26_46_2); unfold In at a3; have a4 := j26_4; unfold In at a4; have a5 := i108; unfold In at a5; have a6 := (in_c 2 rfl); unfold In at a6; have a7 := i96; unfold In at a7; omega
            have n119e : (s.2.2.1 46 2).toInt + 1 ≤ ((sF (sF sc26 46 5 z96) 46 3 (Int32.ofInt 2)).2.2.1 46 2).toInt := by have b0 : w26_46_2 = (sF (sF sc26 46 5 z96) 46 3 (Int32.ofInt 2)).2.2.1 46 2 := sF_ne rfl (sF_ne rfl (v26_46_2)); first | (rw [← b0, ← e_46_2]; exact n119d) | (rw [← b0]; exact n119d)
            exact g_return (gd rfl) rfl (hP _ _ ⟨(sF (sF sc26 46 5 z96) 46 3 (Int32.ofInt 2)), hI116, (fr_sF rfl (fr_sF rfl hFc26)), n119c, n119e, rfl, rfl, n119, n119a⟩)
          · skip
            have i108 := r_lt2 7 1000 c108 h2 j26_3 rfl
            refine g_iconst 5 112 (gd rfl) rfl rfl ?_
            refine g_goto 116 (gd rfl) rfl ?_
            refine g_putI 119 (gd rfl) rfl rfl rfl rfl ?_
            have hI116 := inv_sF (q := 46) (j := 3) hI102 rfl (in_w 0 5 (in_c 5 rfl) rfl)
            have n119 : ((sF (sF sc26 46 5 z96) 46 3 (Int32.ofInt 5)).2.2.1 46 3).toInt ≠ 1 := by rw [← (show (Int32.ofInt 5) = (sF (sF sc26 46 5 z96) 46 3 (Int32.ofInt 5)).2.2.1 46 3 from sF_get)]; decide
            have n119a : (x2).toInt = 6 → ((sF (sF sc26 46 5 z96) 46 3 (Int32.ofInt 5)).2.2.1 46 3).toInt = 2 → ((sF (sF sc26 46 5 z96) 46 3 (Int32.ofInt 5)).2.2.1 46 5).toInt ≤ 999999 := by intro h6 h2; rw [← (show (Int32.ofInt 5) = (sF (sF sc26 46 5 z96) 46 3 (Int32.ofInt 5)).2.2.1 46 3 from sF_get)] at h2; rw [← (show z96 = (sF (sF sc26 46 5 z96) 46 3 (Int32.ofInt 5)).2.2.1 46 5 from sF_ne rfl (sF_get))]; first | (exfalso; revert h2; decide) | (have a0 := h2; unfold In at a0; have a1 := i91; unfold In at a1; have a2 := ro_46_1; unfold In at a2; have a3 := (inv_F hIc26 0 1000 rfl v26_46_2); unfold In at a3; have a4 := j26_4; unfold In at a4; have a5 := i108; unfold In at a5; have a6 := (in_c 5 rfl); unfold In at a6; have a7 := i96; unfold In at a7; omega)
            have n119b : (w26_46_2).toInt ≤ (u_46_1).toInt := by have a0 := h2; unfold In at a0; have a1 := i91; unfold In at a1; have a2 := ro_46_1; unfold In at a2; have a3 := (inv_F hIc26 0 1000 rfl v26_46_2); unfold In at a3; have a4 := j26_4; unfold In at a4; have a5 := i108; unfold In at a5; have a6 := (in_c 5 rfl); unfold In at a6; have a7 := i96; unfold In at a7; omega
            have n119c : ((sF (sF sc26 46 5 z96) 46 3 (Int32.ofInt 5)).2.2.1 46 2).toInt ≤ ((sF (sF sc26 46 5 z96) 46 3 (Int32.ofInt 5)).2.2.1 46 1).toInt := by have b0 : w26_46_2 = (sF (sF sc26 46 5 z96) 46 3 (Int32.ofInt 5)).2.2.1 46 2 := sF_ne rfl (sF_ne rfl (v26_46_2)); have b1 : u_46_1 = (sF (sF sc26 46 5 z96) 46 3 (Int32.ofInt 5)).2.2.1 46 1 := sF_ne rfl (sF_ne rfl (fr_F e_46_1 hFc26 rfl)); rw [← b0, ← b1]; exact n119b
            have n119d : (u_46_2).toInt + 1 ≤ (w26_46_2).toInt := by have a0 := h2; unfold In at a0; have a1 := i91; unfold In at a1; have a2 := ro_46_1; unfold In at a2; have a3 := (inv_F hIc26 0 1000 rfl v26_46_2); unfold In at a3; have a4 := j26_4; unfold In at a4; have a5 := i108; unfold In at a5; have a6 := (in_c 5 rfl); unfold In at a6; have a7 := i96; unfold In at a7; omega
            have n119e : (s.2.2.1 46 2).toInt + 1 ≤ ((sF (sF sc26 46 5 z96) 46 3 (Int32.ofInt 5)).2.2.1 46 2).toInt := by have b0 : w26_46_2 = (sF (sF sc26 46 5 z96) 46 3 (Int32.ofInt 5)).2.2.1 46 2 := sF_ne rfl (sF_ne rfl (v26_46_2)); first | (rw [← b0, ← e_46_2]; exact n119d) | (rw [← b0]; exact n119d)
            exact g_return (gd rfl) rfl (hP _ _ ⟨(sF (sF sc26 46 5 z96) 46 3 (Int32.ofInt 5)), hI116, (fr_sF rfl (fr_sF rfl hFc26)), n119c, n119e, rfl, rfl, n119, n119a⟩)
      · skip
        have i34 := r_lt1 0 999 c34 (inv_F hIc26 0 1000 rfl v26_46_2) ro_46_1 rfl
        have i34a := r_lt2 1 1000 c34 (inv_F hIc26 0 1000 rfl v26_46_2) ro_46_1 rfl
        refine g_aload_n 38 (gd rfl) rfl rfl ?_
        refine g_aload_n 39 (gd rfl) rfl rfl ?_
        refine g_getI 42 (gd rfl) rfl rfl rfl (fun z39 e39 => ?_)
        have q39 : w26_46_2 = z39 := (v26_46_2).trans e39.symm
        subst q39
        refine g_callv (X := _) (As := [.int w26_46_2]) (r := []) (b := A 46) (q := 46) 45 (gd rfl) rfl rfl rfl rfl rfl (ww_o rfl) (Nat.le_of_ble_eq_true rfl) (mc := 0) (ms := 0) (Nat.zero_le _) (Nat.zero_le _) (P := fun v u => _) ?_ (fun e u h => h) (fun v u h => h)
        intro po42 xx42 hp42 hx42
        refine g_enter2 (k := 172) (N := 300) (by omega) rfl (Nat.le_of_ble_eq_true rfl) ?_
        refine g_iload_n 1 (gd rfl) rfl rfl ?_
        refine g_aload_n 2 (gd rfl) rfl rfl ?_
        refine g_getI 5 (gd rfl) rfl rfl rfl (fun z42x2 e42x2 => ?_)
        have q42x2 : u_46_1 = z42x2 := (fr_F e_46_1 hFc26 rfl).trans e42x2.symm
        subst q42x2
        refine g_cmp_ge 8 34 (gd rfl) rfl rfl (fun c42x5 => ?_) (fun c42x5 => ?_)
        · skip
          have i42x5 := r_le1 1 999 c42x5 i34a i34 rfl
          have i42x5a := r_le2 1 999 c42x5 i34a i34 rfl
          refine g_iconst 0 35 (gd rfl) rfl rfl ?_
          refine g_ireturn (gd rfl) rfl (nb01 (in_w 0 1 (in_c 0 rfl) rfl)) (hp42 _ _ ?_)
          show GG _ _ _ _ _ _ _ _ [.int (Int32.ofInt 0)] _ _ _
          refine g_if_eq 48 89 (gd rfl) rfl rfl (fun c45 => ?_) (fun c45 => ?_)
          · skip
            have hq89 : (u_46_2).toInt + 1 ≤ (w26_46_2).toInt := (by have a0 := h2; unfold In at a0; have a1 := h1; unfold In at a1; have a2 := i42x5; unfold In at a2; have a3 := i42x5a; unfold In at a3; have a4 := j26_4; unfold In at a4; have a5 := j26_3; unfold In at a5; omega)
            refine g_aload_n 90 (gd rfl) rfl rfl ?_
            refine g_iload_n 91 (gd rfl) rfl rfl ?_
            refine g_if_eq 94 100 (gd rfl) rfl rfl (fun c91 => ?_) (fun c91 => ?_)
            · skip
              have i91 := z_eq 0 0 c91 h1 rfl
              refine g_iload 102 (gd rfl) rfl rfl ?_
              refine g_putI 105 (gd rfl) rfl rfl rfl rfl ?_
              have hI102 := inv_sF (q := 46) (j := 5) hIc26 rfl (in_w (-2147483648) 2147483647 j26_4 rfl)
              refine g_aload_n 106 (gd rfl) rfl rfl ?_
              refine g_iload_n 107 (gd rfl) rfl rfl ?_
              refine g_iload_n 108 (gd rfl) rfl rfl ?_
              refine g_cmp_le 111 115 (gd rfl) rfl rfl (fun c108 => ?_) (fun c108 => ?_)
              · skip
                have i108 := r_le1 0 7 c108 j26_3 h2 rfl
                refine g_iconst 2 116 (gd rfl) rfl rfl ?_
                refine g_putI 119 (gd rfl) rfl rfl rfl rfl ?_
                have hI116 := inv_sF (q := 46) (j := 3) hI102 rfl (in_w 0 5 (in_c 2 rfl) rfl)
                have n119 : ((sF (sF sc26 46 5 y26_4) 46 3 (Int32.ofInt 2)).2.2.1 46 3).toInt ≠ 1 := by rw [← (show (Int32.ofInt 2) = (sF (sF sc26 46 5 y26_4) 46 3 (Int32.ofInt 2)).2.2.1 46 3 from sF_get)]; decide
                have n119a : (x2).toInt = 6 → ((sF (sF sc26 46 5 y26_4) 46 3 (Int32.ofInt 2)).2.2.1 46 3).toInt = 2 → ((sF (sF sc26 46 5 y26_4) 46 3 (Int32.ofInt 2)).2.2.1 46 5).toInt ≤ 999999 := by intro h6 h2; rw [← (show (Int32.ofInt 2) = (sF (sF sc26 46 5 y26_4) 46 3 (Int32.ofInt 2)).2.2.1 46 3 from sF_get)] at h2; rw [← (show y26_4 = (sF (sF sc26 46 5 y26_4) 46 3 (Int32.ofInt 2)).2.2.1 46 5 from sF_ne rfl (sF_get))]; first | (exfalso; revert h2; decide) | exact dg_6 (by have a0 := h2; unfold In at a0; have a1 := i91; unfold In at a1; have a2 := i42x5; unfold In at a2; have a3 := i42x5a; unfold In at a3; have a4 := j26_4; unfold In at a4; have a5 := i108; unfold In at a5; have a6 := (in_c 2 rfl); unfold In at a6; omega) (by have a0 := h2; unfold In at a0; have a1 := i91; unfold In at a1; have a2 := i42x5; unfold In at a2; have a3 := i42x5a; unfold In at a3; have a4 := j26_4; unfold In at a4; have a5 := i108; unfold In at a5; have a6 := (in_c 2 rfl); unfold In at a6; omega) (g26_0.2.1 (by have a0 := h2; unfold In at a0; have a1 := i91; unfold In at a1; have a2 := i42x5; unfold In at a2; have a3 := i42x5a; unfold In at a3; have a4 := j26_4; unfold In at a4; have a5 := i108; unfold In at a5; have a6 := (in_c 2 rfl); unfold In at a6; omega))
                have n119b : (w26_46_2).toInt ≤ (u_46_1).toInt := by have a0 := h2; unfold In at a0; have a1 := i91; unfold In at a1; have a2 := i42x5; unfold In at a2; have a3 := i42x5a; unfold In at a3; have a4 := j26_4; unfold In at a4; have a5 := i108; unfold In at a5; have a6 := (in_c 2 rfl); unfold In at a6; omega
                have n119c : ((sF (sF sc26 46 5 y26_4) 46 3 (Int32.ofInt 2)).2.2.1 46 2).toInt ≤ ((sF (sF sc26 46 5 y26_4) 46 3 (Int32.ofInt 2)).2.2.1 46 1).toInt := by have b0 : w26_46_2 = (sF (sF sc26 46 5 y26_4) 46 3 (Int32.ofInt 2)).2.2.1 46 2 := sF_ne rfl (sF_ne rfl (v26_46_2)); have b1 : u_46_1 = (sF (sF sc26 46 5 y26_4) 46 3 (Int32.ofInt 2)).2.2.1 46 1 := sF_ne rfl (sF_ne rfl (fr_F e_46_1 hFc26 rfl)); rw [← b0, ← b1]; exact n119b
                have n119d : (u_46_2).toInt + 1 ≤ (w26_46_2).toInt := by have a0 := h2; unfold In at a0; have a1 := i91; unfold In at a1; have a2 := i42x5; unfold In at a2; have a3 := i42x5a; unfold In at a3; have a4 := j26_4; unfold In at a4; have a5 := i108; unfold In at a5; have a6 := (in_c 2 rfl); unfold In at a6; omega
                have n119e : (s.2.2.1 46 2).toInt + 1 ≤ ((sF (sF sc26 46 5 y26_4) 46 3 (Int32.ofInt 2)).2.2.1 46 2).toInt := by have b0 : w26_46_2 = (sF (sF sc26 46 5 y26_4) 46 3 (Int32.ofInt 2)).2.2.1 46 2 := sF_ne rfl (sF_ne rfl (v26_46_2)); first | (rw [← b0, ← e_46_2]; exact n119d) | (rw [← b0]; exact n119d)
                exact g_return (gd rfl) rfl (hP _ _ ⟨(sF (sF sc26 46 5 y26_4) 46 3 (Int32.ofInt 2)), hI116, (fr_sF rfl (fr_sF rfl hFc26)), n119c, n119e, rfl, rfl, n119, n119a⟩)
              · skip
                have i108 := r_lt2 7 1000 c108 h2 j26_3 rfl
                refine g_iconst 5 112 (gd rfl) rfl rfl ?_
                refine g_goto 116 (gd rfl) rfl ?_
                refine g_putI 119 (gd rfl) rfl rfl rfl rfl ?_
                have hI116 := inv_sF (q := 46) (j := 3) hI102 rfl (in_w 0 5 (in_c 5 rfl) rfl)
                have n119 : ((sF (sF sc26 46 5 y26_4) 46 3 (Int32.ofInt 5)).2.2.1 46 3).toInt ≠ 1 := by rw [← (show (Int32.ofInt 5) = (sF (sF sc26 46 5 y26_4) 46 3 (Int32.ofInt 5)).2.2.1 46 3 from sF_get)]; decide
                have n119a : (x2).toInt = 6 → ((sF (sF sc26 46 5 y26_4) 46 3 (Int32.ofInt 5)).2.2.1 46 3).toInt = 2 → ((sF (sF sc26 46 5 y26_4) 46 3 (Int32.ofInt 5)).2.2.1 46 5).toInt ≤ 999999 := by intro h6 h2; rw [← (show (Int32.ofInt 5) = (sF (sF sc26 46 5 y26_4) 46 3 (Int32.ofInt 5)).2.2.1 46 3 from sF_get)] at h2; rw [← (show y26_4 = (sF (sF sc26 46 5 y26_4) 46 3 (Int32.ofInt 5)).2.2.1 46 5 from sF_ne rfl (sF_get))]; first | (exfalso; revert h2; decide) | exact dg_6 (by have a0 := h2; unfold In at a0; have a1 := i91; unfold In at a1; have a2 := i42x5; unfold In at a2; have a3 := i42x5a; unfold In at a3; have a4 := j26_4; unfold In at a4; have a5 := i108; unfold In at a5; have a6 := (in_c 5 rfl); unfold In at a6; omega) (by have a0 := h2; unfold In at a0; have a1 := i91; unfold In at a1; have a2 := i42x5; unfold In at a2; have a3 := i42x5a; unfold In at a3; have a4 := j26_4; unfold In at a4; have a5 := i108; unfold In at a5; have a6 := (in_c 5 rfl); unfold In at a6; omega) (g26_0.2.1 (by have a0 := h2; unfold In at a0; have a1 := i91; unfold In at a1; have a2 := i42x5; unfold In at a2; have a3 := i42x5a; unfold In at a3; have a4 := j26_4; unfold In at a4; have a5 := i108; unfold In at a5; have a6 := (in_c 5 rfl); unfold In at a6; omega))
                have n119b : (w26_46_2).toInt ≤ (u_46_1).toInt := by have a0 := h2; unfold In at a0; have a1 := i91; unfold In at a1; have a2 := i42x5; unfold In at a2; have a3 := i42x5a; unfold In at a3; have a4 := j26_4; unfold In at a4; have a5 := i108; unfold In at a5; have a6 := (in_c 5 rfl); unfold In at a6; omega
                have n119c : ((sF (sF sc26 46 5 y26_4) 46 3 (Int32.ofInt 5)).2.2.1 46 2).toInt ≤ ((sF (sF sc26 46 5 y26_4) 46 3 (Int32.ofInt 5)).2.2.1 46 1).toInt := by have b0 : w26_46_2 = (sF (sF sc26 46 5 y26_4) 46 3 (Int32.ofInt 5)).2.2.1 46 2 := sF_ne rfl (sF_ne rfl (v26_46_2)); have b1 : u_46_1 = (sF (sF sc26 46 5 y26_4) 46 3 (Int32.ofInt 5)).2.2.1 46 1 := sF_ne rfl (sF_ne rfl (fr_F e_46_1 hFc26 rfl)); rw [← b0, ← b1]; exact n119b
                have n119d : (u_46_2).toInt + 1 ≤ (w26_46_2).toInt := by have a0 := h2; unfold In at a0; have a1 := i91; unfold In at a1; have a2 := i42x5; unfold In at a2; have a3 := i42x5a; unfold In at a3; have a4 := j26_4; unfold In at a4; have a5 := i108; unfold In at a5; have a6 := (in_c 5 rfl); unfold In at a6; omega
                have n119e : (s.2.2.1 46 2).toInt + 1 ≤ ((sF (sF sc26 46 5 y26_4) 46 3 (Int32.ofInt 5)).2.2.1 46 2).toInt := by have b0 : w26_46_2 = (sF (sF sc26 46 5 y26_4) 46 3 (Int32.ofInt 5)).2.2.1 46 2 := sF_ne rfl (sF_ne rfl (v26_46_2)); first | (rw [← b0, ← e_46_2]; exact n119d) | (rw [← b0]; exact n119d)
                exact g_return (gd rfl) rfl (hP _ _ ⟨(sF (sF sc26 46 5 y26_4) 46 3 (Int32.ofInt 5)), hI116, (fr_sF rfl (fr_sF rfl hFc26)), n119c, n119e, rfl, rfl, n119, n119a⟩)
            · skip
              have i91 := z_ne 1 1 c91 h1 rfl
              refine g_iload 96 (gd rfl) rfl rfl ?_
              refine g_ineg 97 (gd rfl) rfl (fun z96 e96 => ?_)
              have i96 := in_neg (-9999999) 0 e96 j26_4 rfl
              refine g_goto 102 (gd rfl) rfl ?_
              refine g_putI 105 (gd rfl) rfl rfl rfl rfl ?_
              have hI102 := inv_sF (q := 46) (j := 5) hIc26 rfl (in_w (-2147483648) 2147483647 i96 rfl)
              refine g_aload_n 106 (gd rfl) rfl rfl ?_
              refine g_iload_n 107 (gd rfl) rfl rfl ?_
              refine g_iload_n 108 (gd rfl) rfl rfl ?_
              refine g_cmp_le 111 115 (gd rfl) rfl rfl (fun c108 => ?_) (fun c108 => ?_)
              · skip
                have i108 := r_le1 0 7 c108 j26_3 h2 rfl
                refine g_iconst 2 116 (gd rfl) rfl rfl ?_
                refine g_putI 119 (gd rfl) rfl rfl rfl rfl ?_
                have hI116 := inv_sF (q := 46) (j := 3) hI102 rfl (in_w 0 5 (in_c 2 rfl) rfl)
                have n119 : ((sF (sF sc26 46 5 z96) 46 3 (Int32.ofInt 2)).2.2.1 46 3).toInt ≠ 1 := by rw [← (show (Int32.ofInt 2) = (sF (sF sc26 46 5 z96) 46 3 (Int32.ofInt 2)).2.2.1 46 3 from sF_get)]; decide
                have n119a : (x2).toInt = 6 → ((sF (sF sc26 46 5 z96) 46 3 (Int32.ofInt 2)).2.2.1 46 3).toInt = 2 → ((sF (sF sc26 46 5 z96) 46 3 (Int32.ofInt 2)).2.2.1 46 5).toInt ≤ 999999 := by intro h6 h2; rw [← (show (Int32.ofInt 2) = (sF (sF sc26 46 5 z96) 46 3 (Int32.ofInt 2)).2.2.1 46 3 from sF_get)] at h2; rw [← (show z96 = (sF (sF sc26 46 5 z96) 46 3 (Int32.ofInt 2)).2.2.1 46 5 from sF_ne rfl (sF_get))]; first | (exfalso; revert h2; decide) | (have a0 := h2; unfold In at a0; have a1 := i91; unfold In at a1; have a2 := i42x5; unfold In at a2; have a3 := i42x5a; unfold In at a3; have a4 := j26_4; unfold In at a4; have a5 := i108; unfold In at a5; have a6 := (in_c 2 rfl); unfold In at a6; have a7 := i96; unfold In at a7; omega)
                have n119b : (w26_46_2).toInt ≤ (u_46_1).toInt := by have a0 := h2; unfold In at a0; have a1 := i91; unfold In at a1; have a2 := i42x5; unfold In at a2; have a3 := i42x5a; unfold In at a3; have a4 := j26_4; unfold In at a4; have a5 := i108; unfold In at a5; have a6 := (in_c 2 rfl); unfold In at a6; have a7 := i96; unfold In at a7; omega
                have n119c : ((sF (sF sc26 46 5 z96) 46 3 (Int32.ofInt 2)).2.2.1 46 2).toInt ≤ ((sF (sF sc26 46 5 z96) 46 3 (Int32.ofInt 2)).2.2.1 46 1).toInt := by have b0 : w26_46_2 = (sF (sF sc26 46 5 z96) 46 3 (Int32.ofInt 2)).2.2.1 46 2 := sF_ne rfl (sF_ne rfl (v26_46_2)); have b1 : u_46_1 = (sF (sF sc26 46 5 z96) 46 3 (Int32.ofInt 2)).2.2.1 46 1 := sF_ne rfl (sF_ne rfl (fr_F e_46_1 hFc26 rfl)); rw [← b0, ← b1]; exact n119b
                have n119d : (u_46_2).toInt + 1 ≤ (w26_46_2).toInt := by have a0 := h2; unfold In at a0; have a1 := i91; unfold In at a1; have a2 := i42x5; unfold In at a2; have a3 := i42x5a; unfold In at a3; have a4 := j26_4; unfold In at a4; have a5 := i108; unfold In at a5; have a6 := (in_c 2 rfl); unfold In at a6; have a7 := i96; unfold In at a7; omega
                have n119e : (s.2.2.1 46 2).toInt + 1 ≤ ((sF (sF sc26 46 5 z96) 46 3 (Int32.ofInt 2)).2.2.1 46 2).toInt := by have b0 : w26_46_2 = (sF (sF sc26 46 5 z96) 46 3 (Int32.ofInt 2)).2.2.1 46 2 := sF_ne rfl (sF_ne rfl (v26_46_2)); first | (rw [← b0, ← e_46_2]; exact n119d) | (rw [← b0]; exact n119d)
                exact g_return (gd rfl) rfl (hP _ _ ⟨(sF (sF sc26 46 5 z96) 46 3 (Int32.ofInt 2)), hI116, (fr_sF rfl (fr_sF rfl hFc26)), n119c, n119e, rfl, rfl, n119, n119a⟩)
              · skip
                have i108 := r_lt2 7 1000 c108 h2 j26_3 rfl
                refine g_iconst 5 112 (gd rfl) rfl rfl ?_
                refine g_goto 116 (gd rfl) rfl ?_
                refine g_putI 119 (gd rfl) rfl rfl rfl rfl ?_
                have hI116 := inv_sF (q := 46) (j := 3) hI102 rfl (in_w 0 5 (in_c 5 rfl) rfl)
                have n119 : ((sF (sF sc26 46 5 z96) 46 3 (Int32.ofInt 5)).2.2.1 46 3).toInt ≠ 1 := by rw [← (show (Int32.ofInt 5) = (sF (sF sc26 46 5 z96) 46 3 (Int32.ofInt 5)).2.2.1 46 3 from sF_get)]; decide
                have n119a : (x2).toInt = 6 → ((sF (sF sc26 46 5 z96) 46 3 (Int32.ofInt 5)).2.2.1 46 3).toInt = 2 → ((sF (sF sc26 46 5 z96) 46 3 (Int32.ofInt 5)).2.2.1 46 5).toInt ≤ 999999 := by intro h6 h2; rw [← (show (Int32.ofInt 5) = (sF (sF sc26 46 5 z96) 46 3 (Int32.ofInt 5)).2.2.1 46 3 from sF_get)] at h2; rw [← (show z96 = (sF (sF sc26 46 5 z96) 46 3 (Int32.ofInt 5)).2.2.1 46 5 from sF_ne rfl (sF_get))]; first | (exfalso; revert h2; decide) | (have a0 := h2; unfold In at a0; have a1 := i91; unfold In at a1; have a2 := i42x5; unfold In at a2; have a3 := i42x5a; unfold In at a3; have a4 := j26_4; unfold In at a4; have a5 := i108; unfold In at a5; have a6 := (in_c 5 rfl); unfold In at a6; have a7 := i96; unfold In at a7; omega)
                have n119b : (w26_46_2).toInt ≤ (u_46_1).toInt := by have a0 := h2; unfold In at a0; have a1 := i91; unfold In at a1; have a2 := i42x5; unfold In at a2; have a3 := i42x5a; unfold In at a3; have a4 := j26_4; unfold In at a4; have a5 := i108; unfold In at a5; have a6 := (in_c 5 rfl); unfold In at a6; have a7 := i96; unfold In at a7; omega
                have n119c : ((sF (sF sc26 46 5 z96) 46 3 (Int32.ofInt 5)).2.2.1 46 2).toInt ≤ ((sF (sF sc26 46 5 z96) 46 3 (Int32.ofInt 5)).2.2.1 46 1).toInt := by have b0 : w26_46_2 = (sF (sF sc26 46 5 z96) 46 3 (Int32.ofInt 5)).2.2.1 46 2 := sF_ne rfl (sF_ne rfl (v26_46_2)); have b1 : u_46_1 = (sF (sF sc26 46 5 z96) 46 3 (Int32.ofInt 5)).2.2.1 46 1 := sF_ne rfl (sF_ne rfl (fr_F e_46_1 hFc26 rfl)); rw [← b0, ← b1]; exact n119b
                have n119d : (u_46_2).toInt + 1 ≤ (w26_46_2).toInt := by have a0 := h2; unfold In at a0; have a1 := i91; unfold In at a1; have a2 := i42x5; unfold In at a2; have a3 := i42x5a; unfold In at a3; have a4 := j26_4; unfold In at a4; have a5 := i108; unfold In at a5; have a6 := (in_c 5 rfl); unfold In at a6; have a7 := i96; unfold In at a7; omega
                have n119e : (s.2.2.1 46 2).toInt + 1 ≤ ((sF (sF sc26 46 5 z96) 46 3 (Int32.ofInt 5)).2.2.1 46 2).toInt := by have b0 : w26_46_2 = (sF (sF sc26 46 5 z96) 46 3 (Int32.ofInt 5)).2.2.1 46 2 := sF_ne rfl (sF_ne rfl (v26_46_2)); first | (rw [← b0, ← e_46_2]; exact n119d) | (rw [← b0]; exact n119d)
                exact g_return (gd rfl) rfl (hP _ _ ⟨(sF (sF sc26 46 5 z96) 46 3 (Int32.ofInt 5)), hI116, (fr_sF rfl (fr_sF rfl hFc26)), n119c, n119e, rfl, rfl, n119, n119a⟩)
          · skip
            exact zn_ne c45 (in_c 0 rfl) rfl
        · skip
          refine g_aload_n 9 (gd rfl) rfl rfl ?_
          refine g_getA (q2 := 47) 12 (gd rfl) rfl rfl rfl rfl ?_
          refine g_iload_n 13 (gd rfl) rfl rfl ?_
          refine g_caload 14 (gd rfl) rfl (n := 1000) rfl (in_ix i34 rfl) (fun z42x13 e42x13 => ?_)
          have i42x13 := inv_I hIc26 (n := 1000) (t := 2) 0 65535 rfl (in_ix i34 rfl) rfl e42x13
          refine g_bipush 48 16 (gd rfl) rfl rfl ?_
          refine g_cmp_lt 19 34 (gd rfl) rfl rfl (fun c42x16 => ?_) (fun c42x16 => ?_)
          · skip
            have i42x16 := r_lt1 0 47 c42x16 i42x13 (in_c 48 rfl) rfl
            refine g_iconst 0 35 (gd rfl) rfl rfl ?_
            refine g_ireturn (gd rfl) rfl (nb01 (in_w 0 1 (in_c 0 rfl) rfl)) (hp42 _ _ ?_)
            show GG _ _ _ _ _ _ _ _ [.int (Int32.ofInt 0)] _ _ _
            refine g_if_eq 48 89 (gd rfl) rfl rfl (fun c45 => ?_) (fun c45 => ?_)
            · skip
              have hq89 : (u_46_2).toInt + 1 ≤ (w26_46_2).toInt := (by have c48 : (Int32.ofInt 48).toInt = 48 := (by decide); have c57 : (Int32.ofInt 57).toInt = 57 := (by decide); have hd : w26_46_2.toInt = u_46_2.toInt + x1.toInt → 48 ≤ (z42x13).toInt ∧ (z42x13).toInt ≤ 57 := (fun h => by have e0 : (w26_46_2).toNatClampNeg = ((s.2.2.1 46 2).toInt + x1.toInt).toNat := (by rw [← e_46_2]; show (w26_46_2).toInt.toNat = _; omega); rw [e42x13, e0, hFc26.1 47 rfl]; exact q_0); have a0 := h2; unfold In at a0; have a1 := h1; unfold In at a1; have a2 := i34a; unfold In at a2; have a3 := i34; unfold In at a3; have a4 := j26_4; unfold In at a4; have a5 := j26_3; unfold In at a5; omega)
              refine g_aload_n 90 (gd rfl) rfl rfl ?_
              refine g_iload_n 91 (gd rfl) rfl rfl ?_
              refine g_if_eq 94 100 (gd rfl) rfl rfl (fun c91 => ?_) (fun c91 => ?_)
              · skip
                have i91 := z_eq 0 0 c91 h1 rfl
                refine g_iload 102 (gd rfl) rfl rfl ?_
                refine g_putI 105 (gd rfl) rfl rfl rfl rfl ?_
                have hI102 := inv_sF (q := 46) (j := 5) hIc26 rfl (in_w (-2147483648) 2147483647 j26_4 rfl)
                refine g_aload_n 106 (gd rfl) rfl rfl ?_
                refine g_iload_n 107 (gd rfl) rfl rfl ?_
                refine g_iload_n 108 (gd rfl) rfl rfl ?_
                refine g_cmp_le 111 115 (gd rfl) rfl rfl (fun c108 => ?_) (fun c108 => ?_)
                · skip
                  have i108 := r_le1 0 7 c108 j26_3 h2 rfl
                  refine g_iconst 2 116 (gd rfl) rfl rfl ?_
                  refine g_putI 119 (gd rfl) rfl rfl rfl rfl ?_
                  have hI116 := inv_sF (q := 46) (j := 3) hI102 rfl (in_w 0 5 (in_c 2 rfl) rfl)
                  have n119 : ((sF (sF sc26 46 5 y26_4) 46 3 (Int32.ofInt 2)).2.2.1 46 3).toInt ≠ 1 := by rw [← (show (Int32.ofInt 2) = (sF (sF sc26 46 5 y26_4) 46 3 (Int32.ofInt 2)).2.2.1 46 3 from sF_get)]; decide
                  have n119a : (x2).toInt = 6 → ((sF (sF sc26 46 5 y26_4) 46 3 (Int32.ofInt 2)).2.2.1 46 3).toInt = 2 → ((sF (sF sc26 46 5 y26_4) 46 3 (Int32.ofInt 2)).2.2.1 46 5).toInt ≤ 999999 := by intro h6 h2; rw [← (show (Int32.ofInt 2) = (sF (sF sc26 46 5 y26_4) 46 3 (Int32.ofInt 2)).2.2.1 46 3 from sF_get)] at h2; rw [← (show y26_4 = (sF (sF sc26 46 5 y26_4) 46 3 (Int32.ofInt 2)).2.2.1 46 5 from sF_ne rfl (sF_get))]; first | (exfalso; revert h2; decide) | exact dg_6 (by have a0 := h2; unfold In at a0; have a1 := i91; unfold In at a1; have a2 := i34a; unfold In at a2; have a3 := i34; unfold In at a3; have a4 := j26_4; unfold In at a4; have a5 := i108; unfold In at a5; have a6 := (in_c 2 rfl); unfold In at a6; omega) (by have a0 := h2; unfold In at a0; have a1 := i91; unfold In at a1; have a2 := i34a; unfold In at a2; have a3 := i34; unfold In at a3; have a4 := j26_4; unfold In at a4; have a5 := i108; unfold In at a5; have a6 := (in_c 2 rfl); unfold In at a6; omega) (g26_0.2.1 (by have a0 := h2; unfold In at a0; have a1 := i91; unfold In at a1; have a2 := i34a; unfold In at a2; have a3 := i34; unfold In at a3; have a4 := j26_4; unfold In at a4; have a5 := i108; unfold In at a5; have a6 := (in_c 2 rfl); unfold In at a6; omega))
                  have n119b : (w26_46_2).toInt ≤ (u_46_1).toInt := by have a0 := h2; unfold In at a0; have a1 := i91; unfold In at a1; have a2 := i34a; unfold In at a2; have a3 := i34; unfold In at a3; have a4 := j26_4; unfold In at a4; have a5 := i108; unfold In at a5; have a6 := (in_c 2 rfl); unfold In at a6; omega
                  have n119c : ((sF (sF sc26 46 5 y26_4) 46 3 (Int32.ofInt 2)).2.2.1 46 2).toInt ≤ ((sF (sF sc26 46 5 y26_4) 46 3 (Int32.ofInt 2)).2.2.1 46 1).toInt := by have b0 : w26_46_2 = (sF (sF sc26 46 5 y26_4) 46 3 (Int32.ofInt 2)).2.2.1 46 2 := sF_ne rfl (sF_ne rfl (v26_46_2)); have b1 : u_46_1 = (sF (sF sc26 46 5 y26_4) 46 3 (Int32.ofInt 2)).2.2.1 46 1 := sF_ne rfl (sF_ne rfl (fr_F e_46_1 hFc26 rfl)); rw [← b0, ← b1]; exact n119b
                  have n119d : (u_46_2).toInt + 1 ≤ (w26_46_2).toInt := by have a0 := h2; unfold In at a0; have a1 := i91; unfold In at a1; have a2 := i34a; unfold In at a2; have a3 := i34; unfold In at a3; have a4 := j26_4; unfold In at a4; have a5 := i108; unfold In at a5; have a6 := (in_c 2 rfl); unfold In at a6; omega
                  have n119e : (s.2.2.1 46 2).toInt + 1 ≤ ((sF (sF sc26 46 5 y26_4) 46 3 (Int32.ofInt 2)).2.2.1 46 2).toInt := by have b0 : w26_46_2 = (sF (sF sc26 46 5 y26_4) 46 3 (Int32.ofInt 2)).2.2.1 46 2 := sF_ne rfl (sF_ne rfl (v26_46_2)); first | (rw [← b0, ← e_46_2]; exact n119d) | (rw [← b0]; exact n119d)
                  exact g_return (gd rfl) rfl (hP _ _ ⟨(sF (sF sc26 46 5 y26_4) 46 3 (Int32.ofInt 2)), hI116, (fr_sF rfl (fr_sF rfl hFc26)), n119c, n119e, rfl, rfl, n119, n119a⟩)
                · skip
                  have i108 := r_lt2 7 1000 c108 h2 j26_3 rfl
                  refine g_iconst 5 112 (gd rfl) rfl rfl ?_
                  refine g_goto 116 (gd rfl) rfl ?_
                  refine g_putI 119 (gd rfl) rfl rfl rfl rfl ?_
                  have hI116 := inv_sF (q := 46) (j := 3) hI102 rfl (in_w 0 5 (in_c 5 rfl) rfl)
                  have n119 : ((sF (sF sc26 46 5 y26_4) 46 3 (Int32.ofInt 5)).2.2.1 46 3).toInt ≠ 1 := by rw [← (show (Int32.ofInt 5) = (sF (sF sc26 46 5 y26_4) 46 3 (Int32.ofInt 5)).2.2.1 46 3 from sF_get)]; decide
                  have n119a : (x2).toInt = 6 → ((sF (sF sc26 46 5 y26_4) 46 3 (Int32.ofInt 5)).2.2.1 46 3).toInt = 2 → ((sF (sF sc26 46 5 y26_4) 46 3 (Int32.ofInt 5)).2.2.1 46 5).toInt ≤ 999999 := by intro h6 h2; rw [← (show (Int32.ofInt 5) = (sF (sF sc26 46 5 y26_4) 46 3 (Int32.ofInt 5)).2.2.1 46 3 from sF_get)] at h2; rw [← (show y26_4 = (sF (sF sc26 46 5 y26_4) 46 3 (Int32.ofInt 5)).2.2.1 46 5 from sF_ne rfl (sF_get))]; first | (exfalso; revert h2; decide) | exact dg_6 (by have a0 := h2; unfold In at a0; have a1 := i91; unfold In at a1; have a2 := i34a; unfold In at a2; have a3 := i34; unfold In at a3; have a4 := j26_4; unfold In at a4; have a5 := i108; unfold In at a5; have a6 := (in_c 5 rfl); unfold In at a6; omega) (by have a0 := h2; unfold In at a0; have a1 := i91; unfold In at a1; have a2 := i34a; unfold In at a2; have a3 := i34; unfold In at a3; have a4 := j26_4; unfold In at a4; have a5 := i108; unfold In at a5; have a6 := (in_c 5 rfl); unfold In at a6; omega) (g26_0.2.1 (by have a0 := h2; unfold In at a0; have a1 := i91; unfold In at a1; have a2 := i34a; unfold In at a2; have a3 := i34; unfold In at a3; have a4 := j26_4; unfold In at a4; have a5 := i108; unfold In at a5; have a6 := (in_c 5 rfl); unfold In at a6; omega))
                  have n119b : (w26_46_2).toInt ≤ (u_46_1).toInt := by have a0 := h2; unfold In at a0; have a1 := i91; unfold In at a1; have a2 := i34a; unfold In at a2; have a3 := i34; unfold In at a3; have a4 := j26_4; unfold In at a4; have a5 := i108; unfold In at a5; have a6 := (in_c 5 rfl); unfold In at a6; omega
                  have n119c : ((sF (sF sc26 46 5 y26_4) 46 3 (Int32.ofInt 5)).2.2.1 46 2).toInt ≤ ((sF (sF sc26 46 5 y26_4) 46 3 (Int32.ofInt 5)).2.2.1 46 1).toInt := by have b0 : w26_46_2 = (sF (sF sc26 46 5 y26_4) 46 3 (Int32.ofInt 5)).2.2.1 46 2 := sF_ne rfl (sF_ne rfl (v26_46_2)); have b1 : u_46_1 = (sF (sF sc26 46 5 y26_4) 46 3 (Int32.ofInt 5)).2.2.1 46 1 := sF_ne rfl (sF_ne rfl (fr_F e_46_1 hFc26 rfl)); rw [← b0, ← b1]; exact n119b
                  have n119d : (u_46_2).toInt + 1 ≤ (w26_46_2).toInt := by have a0 := h2; unfold In at a0; have a1 := i91; unfold In at a1; have a2 := i34a; unfold In at a2; have a3 := i34; unfold In at a3; have a4 := j26_4; unfold In at a4; have a5 := i108; unfold In at a5; have a6 := (in_c 5 rfl); unfold In at a6; omega
                  have n119e : (s.2.2.1 46 2).toInt + 1 ≤ ((sF (sF sc26 46 5 y26_4) 46 3 (Int32.ofInt 5)).2.2.1 46 2).toInt := by have b0 : w26_46_2 = (sF (sF sc26 46 5 y26_4) 46 3 (Int32.ofInt 5)).2.2.1 46 2 := sF_ne rfl (sF_ne rfl (v26_46_2)); first | (rw [← b0, ← e_46_2]; exact n119d) | (rw [← b0]; exact n119d)
                  exact g_return (gd rfl) rfl (hP _ _ ⟨(sF (sF sc26 46 5 y26_4) 46 3 (Int32.ofInt 5)), hI116, (fr_sF rfl (fr_sF rfl hFc26)), n119c, n119e, rfl, rfl, n119, n119a⟩)
              · skip
                have i91 := z_ne 1 1 c91 h1 rfl
                refine g_iload 96 (gd rfl) rfl rfl ?_
                refine g_ineg 97 (gd rfl) rfl (fun z96 e96 => ?_)
                have i96 := in_neg (-9999999) 0 e96 j26_4 rfl
                refine g_goto 102 (gd rfl) rfl ?_
                refine g_putI 105 (gd rfl) rfl rfl rfl rfl ?_
                have hI102 := inv_sF (q := 46) (j := 5) hIc26 rfl (in_w (-2147483648) 2147483647 i96 rfl)
                refine g_aload_n 106 (gd rfl) rfl rfl ?_
                refine g_iload_n 107 (gd rfl) rfl rfl ?_
                refine g_iload_n 108 (gd rfl) rfl rfl ?_
                refine g_cmp_le 111 115 (gd rfl) rfl rfl (fun c108 => ?_) (fun c108 => ?_)
                · skip
                  have i108 := r_le1 0 7 c108 j26_3 h2 rfl
                  refine g_iconst 2 116 (gd rfl) rfl rfl ?_
                  refine g_putI 119 (gd rfl) rfl rfl rfl rfl ?_
                  have hI116 := inv_sF (q := 46) (j := 3) hI102 rfl (in_w 0 5 (in_c 2 rfl) rfl)
                  have n119 : ((sF (sF sc26 46 5 z96) 46 3 (Int32.ofInt 2)).2.2.1 46 3).toInt ≠ 1 := by rw [← (show (Int32.ofInt 2) = (sF (sF sc26 46 5 z96) 46 3 (Int32.ofInt 2)).2.2.1 46 3 from sF_get)]; decide
                  have n119a : (x2).toInt = 6 → ((sF (sF sc26 46 5 z96) 46 3 (Int32.ofInt 2)).2.2.1 46 3).toInt = 2 → ((sF (sF sc26 46 5 z96) 46 3 (Int32.ofInt 2)).2.2.1 46 5).toInt ≤ 999999 := by intro h6 h2; rw [← (show (Int32.ofInt 2) = (sF (sF sc26 46 5 z96) 46 3 (Int32.ofInt 2)).2.2.1 46 3 from sF_get)] at h2; rw [← (show z96 = (sF (sF sc26 46 5 z96) 46 3 (Int32.ofInt 2)).2.2.1 46 5 from sF_ne rfl (sF_get))]; first | (exfalso; revert h2; decide) | (have a0 := h2; unfold In at a0; have a1 := i91; unfold In at a1; have a2 := i34a; unfold In at a2; have a3 := i34; unfold In at a3; have a4 := j26_4; unfold In at a4; have a5 := i108; unfold In at a5; have a6 := (in_c 2 rfl); unfold In at a6; have a7 := i96; unfold In at a7; omega)
                  have n119b : (w26_46_2).toInt ≤ (u_46_1).toInt := by have a0 := h2; unfold In at a0; have a1 := i91; unfold In at a1; have a2 := i34a; unfold In at a2; have a3 := i34; unfold In at a3; have a4 := j26_4; unfold In at a4; have a5 := i108; unfold In at a5; have a6 := (in_c 2 rfl); unfold In at a6; have a7 := i96; unfold In at a7; omega
                  have n119c : ((sF (sF sc26 46 5 z96) 46 3 (Int32.ofInt 2)).2.2.1 46 2).toInt ≤ ((sF (sF sc26 46 5 z96) 46 3 (Int32.ofInt 2)).2.2.1 46 1).toInt := by have b0 : w26_46_2 = (sF (sF sc26 46 5 z96) 46 3 (Int32.ofInt 2)).2.2.1 46 2 := sF_ne rfl (sF_ne rfl (v26_46_2)); have b1 : u_46_1 = (sF (sF sc26 46 5 z96) 46 3 (Int32.ofInt 2)).2.2.1 46 1 := sF_ne rfl (sF_ne rfl (fr_F e_46_1 hFc26 rfl)); rw [← b0, ← b1]; exact n119b
                  have n119d : (u_46_2).toInt + 1 ≤ (w26_46_2).toInt := by have a0 := h2; unfold In at a0; have a1 := i91; unfold In at a1; have a2 := i34a; unfold In at a2; have a3 := i34; unfold In at a3; have a4 := j26_4; unfold In at a4; have a5 := i108; unfold In at a5; have a6 := (in_c 2 rfl); unfold In at a6; have a7 := i96; unfold In at a7; omega
                  have n119e : (s.2.2.1 46 2).toInt + 1 ≤ ((sF (sF sc26 46 5 z96) 46 3 (Int32.ofInt 2)).2.2.1 46 2).toInt := by have b0 : w26_46_2 = (sF (sF sc26 46 5 z96) 46 3 (Int32.ofInt 2)).2.2.1 46 2 := sF_ne rfl (sF_ne rfl (v26_46_2)); first | (rw [← b0, ← e_46_2]; exact n119d) | (rw [← b0]; exact n119d)
                  exact g_return (gd rfl) rfl (hP _ _ ⟨(sF (sF sc26 46 5 z96) 46 3 (Int32.ofInt 2)), hI116, (fr_sF rfl (fr_sF rfl hFc26)), n119c, n119e, rfl, rfl, n119, n119a⟩)
                · skip
                  have i108 := r_lt2 7 1000 c108 h2 j26_3 rfl
                  refine g_iconst 5 112 (gd rfl) rfl rfl ?_
                  refine g_goto 116 (gd rfl) rfl ?_
                  refine g_putI 119 (gd rfl) rfl rfl rfl rfl ?_
                  have hI116 := inv_sF (q := 46) (j := 3) hI102 rfl (in_w 0 5 (in_c 5 rfl) rfl)
                  have n119 : ((sF (sF sc26 46 5 z96) 46 3 (Int32.ofInt 5)).2.2.1 46 3).toInt ≠ 1 := by rw [← (show (Int32.ofInt 5) = (sF (sF sc26 46 5 z96) 46 3 (Int32.ofInt 5)).2.2.1 46 3 from sF_get)]; decide
                  have n119a : (x2).toInt = 6 → ((sF (sF sc26 46 5 z96) 46 3 (Int32.ofInt 5)).2.2.1 46 3).toInt = 2 → ((sF (sF sc26 46 5 z96) 46 3 (Int32.ofInt 5)).2.2.1 46 5).toInt ≤ 999999 := by intro h6 h2; rw [← (show (Int32.ofInt 5) = (sF (sF sc26 46 5 z96) 46 3 (Int32.ofInt 5)).2.2.1 46 3 from sF_get)] at h2; rw [← (show z96 = (sF (sF sc26 46 5 z96) 46 3 (Int32.ofInt 5)).2.2.1 46 5 from sF_ne rfl (sF_get))]; first | (exfalso; revert h2; decide) | (have a0 := h2; unfold In at a0; have a1 := i91; unfold In at a1; have a2 := i34a; unfold In at a2; have a3 := i34; unfold In at a3; have a4 := j26_4; unfold In at a4; have a5 := i108; unfold In at a5; have a6 := (in_c 5 rfl); unfold In at a6; have a7 := i96; unfold In at a7; omega)
                  have n119b : (w26_46_2).toInt ≤ (u_46_1).toInt := by have a0 := h2; unfold In at a0; have a1 := i91; unfold In at a1; have a2 := i34a; unfold In at a2; have a3 := i34; unfold In at a3; have a4 := j26_4; unfold In at a4; have a5 := i108; unfold In at a5; have a6 := (in_c 5 rfl); unfold In at a6; have a7 := i96; unfold In at a7; omega
                  have n119c : ((sF (sF sc26 46 5 z96) 46 3 (Int32.ofInt 5)).2.2.1 46 2).toInt ≤ ((sF (sF sc26 46 5 z96) 46 3 (Int32.ofInt 5)).2.2.1 46 1).toInt := by have b0 : w26_46_2 = (sF (sF sc26 46 5 z96) 46 3 (Int32.ofInt 5)).2.2.1 46 2 := sF_ne rfl (sF_ne rfl (v26_46_2)); have b1 : u_46_1 = (sF (sF sc26 46 5 z96) 46 3 (Int32.ofInt 5)).2.2.1 46 1 := sF_ne rfl (sF_ne rfl (fr_F e_46_1 hFc26 rfl)); rw [← b0, ← b1]; exact n119b
                  have n119d : (u_46_2).toInt + 1 ≤ (w26_46_2).toInt := by have a0 := h2; unfold In at a0; have a1 := i91; unfold In at a1; have a2 := i34a; unfold In at a2; have a3 := i34; unfold In at a3; have a4 := j26_4; unfold In at a4; have a5 := i108; unfold In at a5; have a6 := (in_c 5 rfl); unfold In at a6; have a7 := i96; unfold In at a7; omega
                  have n119e : (s.2.2.1 46 2).toInt + 1 ≤ ((sF (sF sc26 46 5 z96) 46 3 (Int32.ofInt 5)).2.2.1 46 2).toInt := by have b0 : w26_46_2 = (sF (sF sc26 46 5 z96) 46 3 (Int32.ofInt 5)).2.2.1 46 2 := sF_ne rfl (sF_ne rfl (v26_46_2)); first | (rw [← b0, ← e_46_2]; exact n119d) | (rw [← b0]; exact n119d)
                  exact g_return (gd rfl) rfl (hP _ _ ⟨(sF (sF sc26 46 5 z96) 46 3 (Int32.ofInt 5)), hI116, (fr_sF rfl (fr_sF rfl hFc26)), n119c, n119e, rfl, rfl, n119, n119a⟩)
            · skip
              exact zn_ne c45 (in_c 0 rfl) rfl
          · skip
            have i42x16 := r_le2 48 65535 c42x16 (in_c 48 rfl) i42x13 rfl
            refine g_aload_n 20 (gd rfl) rfl rfl ?_
            refine g_getA (q2 := 47) 23 (gd rfl) rfl rfl rfl rfl ?_
            refine g_iload_n 24 (gd rfl) rfl rfl ?_
            refine g_caload 25 (gd rfl) rfl (n := 1000) rfl (in_ix i34 rfl) (fun z42x24 e42x24 => ?_)
            have q42x24 : z42x13 = z42x24 := (e42x13).trans e42x24.symm
            subst q42x24
            refine g_bipush 57 27 (gd rfl) rfl rfl ?_
            refine g_cmp_gt 30 34 (gd rfl) rfl rfl (fun c42x27 => ?_) (fun c42x27 => ?_)
            · skip
              have i42x27 := r_lt2 58 65535 c42x27 (in_c 57 rfl) i42x16 rfl
              refine g_iconst 0 35 (gd rfl) rfl rfl ?_
              refine g_ireturn (gd rfl) rfl (nb01 (in_w 0 1 (in_c 0 rfl) rfl)) (hp42 _ _ ?_)
              show GG _ _ _ _ _ _ _ _ [.int (Int32.ofInt 0)] _ _ _
              refine g_if_eq 48 89 (gd rfl) rfl rfl (fun c45 => ?_) (fun c45 => ?_)
              · skip
                have hq89 : (u_46_2).toInt + 1 ≤ (w26_46_2).toInt := (by have c48 : (Int32.ofInt 48).toInt = 48 := (by decide); have c57 : (Int32.ofInt 57).toInt = 57 := (by decide); have hd : w26_46_2.toInt = u_46_2.toInt + x1.toInt → 48 ≤ (z42x13).toInt ∧ (z42x13).toInt ≤ 57 := (fun h => by have e0 : (w26_46_2).toNatClampNeg = ((s.2.2.1 46 2).toInt + x1.toInt).toNat := (by rw [← e_46_2]; show (w26_46_2).toInt.toNat = _; omega); rw [e42x13, e0, hFc26.1 47 rfl]; exact q_0); have a0 := h2; unfold In at a0; have a1 := h1; unfold In at a1; have a2 := i34a; unfold In at a2; have a3 := i34; unfold In at a3; have a4 := j26_4; unfold In at a4; have a5 := j26_3; unfold In at a5; omega)
                refine g_aload_n 90 (gd rfl) rfl rfl ?_
                refine g_iload_n 91 (gd rfl) rfl rfl ?_
                refine g_if_eq 94 100 (gd rfl) rfl rfl (fun c91 => ?_) (fun c91 => ?_)
                · skip
                  have i91 := z_eq 0 0 c91 h1 rfl
                  refine g_iload 102 (gd rfl) rfl rfl ?_
                  refine g_putI 105 (gd rfl) rfl rfl rfl rfl ?_
                  have hI102 := inv_sF (q := 46) (j := 5) hIc26 rfl (in_w (-2147483648) 2147483647 j26_4 rfl)
                  refine g_aload_n 106 (gd rfl) rfl rfl ?_
                  refine g_iload_n 107 (gd rfl) rfl rfl ?_
                  refine g_iload_n 108 (gd rfl) rfl rfl ?_
                  refine g_cmp_le 111 115 (gd rfl) rfl rfl (fun c108 => ?_) (fun c108 => ?_)
                  · skip
                    have i108 := r_le1 0 7 c108 j26_3 h2 rfl
                    refine g_iconst 2 116 (gd rfl) rfl rfl ?_
                    refine g_putI 119 (gd rfl) rfl rfl rfl rfl ?_
                    have hI116 := inv_sF (q := 46) (j := 3) hI102 rfl (in_w 0 5 (in_c 2 rfl) rfl)
                    have n119 : ((sF (sF sc26 46 5 y26_4) 46 3 (Int32.ofInt 2)).2.2.1 46 3).toInt ≠ 1 := by rw [← (show (Int32.ofInt 2) = (sF (sF sc26 46 5 y26_4) 46 3 (Int32.ofInt 2)).2.2.1 46 3 from sF_get)]; decide
                    have n119a : (x2).toInt = 6 → ((sF (sF sc26 46 5 y26_4) 46 3 (Int32.ofInt 2)).2.2.1 46 3).toInt = 2 → ((sF (sF sc26 46 5 y26_4) 46 3 (Int32.ofInt 2)).2.2.1 46 5).toInt ≤ 999999 := by intro h6 h2; rw [← (show (Int32.ofInt 2) = (sF (sF sc26 46 5 y26_4) 46 3 (Int32.ofInt 2)).2.2.1 46 3 from sF_get)] at h2; rw [← (show y26_4 = (sF (sF sc26 46 5 y26_4) 46 3 (Int32.ofInt 2)).2.2.1 46 5 from sF_ne rfl (sF_get))]; first | (exfalso; revert h2; decide) | exact dg_6 (by have a0 := h2; unfold In at a0; have a1 := i91; unfold In at a1; have a2 := i34a; unfold In at a2; have a3 := i34; unfold In at a3; have a4 := j26_4; unfold In at a4; have a5 := i108; unfold In at a5; have a6 := (in_c 2 rfl); unfold In at a6; omega) (by have a0 := h2; unfold In at a0; have a1 := i91; unfold In at a1; have a2 := i34a; unfold In at a2; have a3 := i34; unfold In at a3; have a4 := j26_4; unfold In at a4; have a5 := i108; unfold In at a5; have a6 := (in_c 2 rfl); unfold In at a6; omega) (g26_0.2.1 (by have a0 := h2; unfold In at a0; have a1 := i91; unfold In at a1; have a2 := i34a; unfold In at a2; have a3 := i34; unfold In at a3; have a4 := j26_4; unfold In at a4; have a5 := i108; unfold In at a5; have a6 := (in_c 2 rfl); unfold In at a6; omega))
                    have n119b : (w26_46_2).toInt ≤ (u_46_1).toInt := by have a0 := h2; unfold In at a0; have a1 := i91; unfold In at a1; have a2 := i34a; unfold In at a2; have a3 := i34; unfold In at a3; have a4 := j26_4; unfold In at a4; have a5 := i108; unfold In at a5; have a6 := (in_c 2 rfl); unfold In at a6; omega
                    have n119c : ((sF (sF sc26 46 5 y26_4) 46 3 (Int32.ofInt 2)).2.2.1 46 2).toInt ≤ ((sF (sF sc26 46 5 y26_4) 46 3 (Int32.ofInt 2)).2.2.1 46 1).toInt := by have b0 : w26_46_2 = (sF (sF sc26 46 5 y26_4) 46 3 (Int32.ofInt 2)).2.2.1 46 2 := sF_ne rfl (sF_ne rfl (v26_46_2)); have b1 : u_46_1 = (sF (sF sc26 46 5 y26_4) 46 3 (Int32.ofInt 2)).2.2.1 46 1 := sF_ne rfl (sF_ne rfl (fr_F e_46_1 hFc26 rfl)); rw [← b0, ← b1]; exact n119b
                    have n119d : (u_46_2).toInt + 1 ≤ (w26_46_2).toInt := by have a0 := h2; unfold In at a0; have a1 := i91; unfold In at a1; have a2 := i34a; unfold In at a2; have a3 := i34; unfold In at a3; have a4 := j26_4; unfold In at a4; have a5 := i108; unfold In at a5; have a6 := (in_c 2 rfl); unfold In at a6; omega
                    have n119e : (s.2.2.1 46 2).toInt + 1 ≤ ((sF (sF sc26 46 5 y26_4) 46 3 (Int32.ofInt 2)).2.2.1 46 2).toInt := by have b0 : w26_46_2 = (sF (sF sc26 46 5 y26_4) 46 3 (Int32.ofInt 2)).2.2.1 46 2 := sF_ne rfl (sF_ne rfl (v26_46_2)); first | (rw [← b0, ← e_46_2]; exact n119d) | (rw [← b0]; exact n119d)
                    exact g_return (gd rfl) rfl (hP _ _ ⟨(sF (sF sc26 46 5 y26_4) 46 3 (Int32.ofInt 2)), hI116, (fr_sF rfl (fr_sF rfl hFc26)), n119c, n119e, rfl, rfl, n119, n119a⟩)
                  · skip
                    have i108 := r_lt2 7 1000 c108 h2 j26_3 rfl
                    refine g_iconst 5 112 (gd rfl) rfl rfl ?_
                    refine g_goto 116 (gd rfl) rfl ?_
                    refine g_putI 119 (gd rfl) rfl rfl rfl rfl ?_
                    have hI116 := inv_sF (q := 46) (j := 3) hI102 rfl (in_w 0 5 (in_c 5 rfl) rfl)
                    have n119 : ((sF (sF sc26 46 5 y26_4) 46 3 (Int32.ofInt 5)).2.2.1 46 3).toInt ≠ 1 := by rw [← (show (Int32.ofInt 5) = (sF (sF sc26 46 5 y26_4) 46 3 (Int32.ofInt 5)).2.2.1 46 3 from sF_get)]; decide
                    have n119a : (x2).toInt = 6 → ((sF (sF sc26 46 5 y26_4) 46 3 (Int32.ofInt 5)).2.2.1 46 3).toInt = 2 → ((sF (sF sc26 46 5 y26_4) 46 3 (Int32.ofInt 5)).2.2.1 46 5).toInt ≤ 999999 := by intro h6 h2; rw [← (show (Int32.ofInt 5) = (sF (sF sc26 46 5 y26_4) 46 3 (Int32.ofInt 5)).2.2.1 46 3 from sF_get)] at h2; rw [← (show y26_4 = (sF (sF sc26 46 5 y26_4) 46 3 (Int32.ofInt 5)).2.2.1 46 5 from sF_ne rfl (sF_get))]; first | (exfalso; revert h2; decide) | exact dg_6 (by have a0 := h2; unfold In at a0; have a1 := i91; unfold In at a1; have a2 := i34a; unfold In at a2; have a3 := i34; unfold In at a3; have a4 := j26_4; unfold In at a4; have a5 := i108; unfold In at a5; have a6 := (in_c 5 rfl); unfold In at a6; omega) (by have a0 := h2; unfold In at a0; have a1 := i91; unfold In at a1; have a2 := i34a; unfold In at a2; have a3 := i34; unfold In at a3; have a4 := j26_4; unfold In at a4; have a5 := i108; unfold In at a5; have a6 := (in_c 5 rfl); unfold In at a6; omega) (g26_0.2.1 (by have a0 := h2; unfold In at a0; have a1 := i91; unfold In at a1; have a2 := i34a; unfold In at a2; have a3 := i34; unfold In at a3; have a4 := j26_4; unfold In at a4; have a5 := i108; unfold In at a5; have a6 := (in_c 5 rfl); unfold In at a6; omega))
                    have n119b : (w26_46_2).toInt ≤ (u_46_1).toInt := by have a0 := h2; unfold In at a0; have a1 := i91; unfold In at a1; have a2 := i34a; unfold In at a2; have a3 := i34; unfold In at a3; have a4 := j26_4; unfold In at a4; have a5 := i108; unfold In at a5; have a6 := (in_c 5 rfl); unfold In at a6; omega
                    have n119c : ((sF (sF sc26 46 5 y26_4) 46 3 (Int32.ofInt 5)).2.2.1 46 2).toInt ≤ ((sF (sF sc26 46 5 y26_4) 46 3 (Int32.ofInt 5)).2.2.1 46 1).toInt := by have b0 : w26_46_2 = (sF (sF sc26 46 5 y26_4) 46 3 (Int32.ofInt 5)).2.2.1 46 2 := sF_ne rfl (sF_ne rfl (v26_46_2)); have b1 : u_46_1 = (sF (sF sc26 46 5 y26_4) 46 3 (Int32.ofInt 5)).2.2.1 46 1 := sF_ne rfl (sF_ne rfl (fr_F e_46_1 hFc26 rfl)); rw [← b0, ← b1]; exact n119b
                    have n119d : (u_46_2).toInt + 1 ≤ (w26_46_2).toInt := by have a0 := h2; unfold In at a0; have a1 := i91; unfold In at a1; have a2 := i34a; unfold In at a2; have a3 := i34; unfold In at a3; have a4 := j26_4; unfold In at a4; have a5 := i108; unfold In at a5; have a6 := (in_c 5 rfl); unfold In at a6; omega
                    have n119e : (s.2.2.1 46 2).toInt + 1 ≤ ((sF (sF sc26 46 5 y26_4) 46 3 (Int32.ofInt 5)).2.2.1 46 2).toInt := by have b0 : w26_46_2 = (sF (sF sc26 46 5 y26_4) 46 3 (Int32.ofInt 5)).2.2.1 46 2 := sF_ne rfl (sF_ne rfl (v26_46_2)); first | (rw [← b0, ← e_46_2]; exact n119d) | (rw [← b0]; exact n119d)
                    exact g_return (gd rfl) rfl (hP _ _ ⟨(sF (sF sc26 46 5 y26_4) 46 3 (Int32.ofInt 5)), hI116, (fr_sF rfl (fr_sF rfl hFc26)), n119c, n119e, rfl, rfl, n119, n119a⟩)
                · skip
                  have i91 := z_ne 1 1 c91 h1 rfl
                  refine g_iload 96 (gd rfl) rfl rfl ?_
                  refine g_ineg 97 (gd rfl) rfl (fun z96 e96 => ?_)
                  have i96 := in_neg (-9999999) 0 e96 j26_4 rfl
                  refine g_goto 102 (gd rfl) rfl ?_
                  refine g_putI 105 (gd rfl) rfl rfl rfl rfl ?_
                  have hI102 := inv_sF (q := 46) (j := 5) hIc26 rfl (in_w (-2147483648) 2147483647 i96 rfl)
                  refine g_aload_n 106 (gd rfl) rfl rfl ?_
                  refine g_iload_n 107 (gd rfl) rfl rfl ?_
                  refine g_iload_n 108 (gd rfl) rfl rfl ?_
                  refine g_cmp_le 111 115 (gd rfl) rfl rfl (fun c108 => ?_) (fun c108 => ?_)
                  · skip
                    have i108 := r_le1 0 7 c108 j26_3 h2 rfl
                    refine g_iconst 2 116 (gd rfl) rfl rfl ?_
                    refine g_putI 119 (gd rfl) rfl rfl rfl rfl ?_
                    have hI116 := inv_sF (q := 46) (j := 3) hI102 rfl (in_w 0 5 (in_c 2 rfl) rfl)
                    have n119 : ((sF (sF sc26 46 5 z96) 46 3 (Int32.ofInt 2)).2.2.1 46 3).toInt ≠ 1 := by rw [← (show (Int32.ofInt 2) = (sF (sF sc26 46 5 z96) 46 3 (Int32.ofInt 2)).2.2.1 46 3 from sF_get)]; decide
                    have n119a : (x2).toInt = 6 → ((sF (sF sc26 46 5 z96) 46 3 (Int32.ofInt 2)).2.2.1 46 3).toInt = 2 → ((sF (sF sc26 46 5 z96) 46 3 (Int32.ofInt 2)).2.2.1 46 5).toInt ≤ 999999 := by intro h6 h2; rw [← (show (Int32.ofInt 2) = (sF (sF sc26 46 5 z96) 46 3 (Int32.ofInt 2)).2.2.1 46 3 from sF_get)] at h2; rw [← (show z96 = (sF (sF sc26 46 5 z96) 46 3 (Int32.ofInt 2)).2.2.1 46 5 from sF_ne rfl (sF_get))]; first | (exfalso; revert h2; decide) | (have a0 := h2; unfold In at a0; have a1 := i91; unfold In at a1; have a2 := i34a; unfold In at a2; have a3 := i34; unfold In at a3; have a4 := j26_4; unfold In at a4; have a5 := i108; unfold In at a5; have a6 := (in_c 2 rfl); unfold In at a6; have a7 := i96; unfold In at a7; omega)
                    have n119b : (w26_46_2).toInt ≤ (u_46_1).toInt := by have a0 := h2; unfold In at a0; have a1 := i91; unfold In at a1; have a2 := i34a; unfold In at a2; have a3 := i34; unfold In at a3; have a4 := j26_4; unfold In at a4; have a5 := i108; unfold In at a5; have a6 := (in_c 2 rfl); unfold In at a6; have a7 := i96; unfold In at a7; omega
                    have n119c : ((sF (sF sc26 46 5 z96) 46 3 (Int32.ofInt 2)).2.2.1 46 2).toInt ≤ ((sF (sF sc26 46 5 z96) 46 3 (Int32.ofInt 2)).2.2.1 46 1).toInt := by have b0 : w26_46_2 = (sF (sF sc26 46 5 z96) 46 3 (Int32.ofInt 2)).2.2.1 46 2 := sF_ne rfl (sF_ne rfl (v26_46_2)); have b1 : u_46_1 = (sF (sF sc26 46 5 z96) 46 3 (Int32.ofInt 2)).2.2.1 46 1 := sF_ne rfl (sF_ne rfl (fr_F e_46_1 hFc26 rfl)); rw [← b0, ← b1]; exact n119b
                    have n119d : (u_46_2).toInt + 1 ≤ (w26_46_2).toInt := by have a0 := h2; unfold In at a0; have a1 := i91; unfold In at a1; have a2 := i34a; unfold In at a2; have a3 := i34; unfold In at a3; have a4 := j26_4; unfold In at a4; have a5 := i108; unfold In at a5; have a6 := (in_c 2 rfl); unfold In at a6; have a7 := i96; unfold In at a7; omega
                    have n119e : (s.2.2.1 46 2).toInt + 1 ≤ ((sF (sF sc26 46 5 z96) 46 3 (Int32.ofInt 2)).2.2.1 46 2).toInt := by have b0 : w26_46_2 = (sF (sF sc26 46 5 z96) 46 3 (Int32.ofInt 2)).2.2.1 46 2 := sF_ne rfl (sF_ne rfl (v26_46_2)); first | (rw [← b0, ← e_46_2]; exact n119d) | (rw [← b0]; exact n119d)
                    exact g_return (gd rfl) rfl (hP _ _ ⟨(sF (sF sc26 46 5 z96) 46 3 (Int32.ofInt 2)), hI116, (fr_sF rfl (fr_sF rfl hFc26)), n119c, n119e, rfl, rfl, n119, n119a⟩)
                  · skip
                    have i108 := r_lt2 7 1000 c108 h2 j26_3 rfl
                    refine g_iconst 5 112 (gd rfl) rfl rfl ?_
                    refine g_goto 116 (gd rfl) rfl ?_
                    refine g_putI 119 (gd rfl) rfl rfl rfl rfl ?_
                    have hI116 := inv_sF (q := 46) (j := 3) hI102 rfl (in_w 0 5 (in_c 5 rfl) rfl)
                    have n119 : ((sF (sF sc26 46 5 z96) 46 3 (Int32.ofInt 5)).2.2.1 46 3).toInt ≠ 1 := by rw [← (show (Int32.ofInt 5) = (sF (sF sc26 46 5 z96) 46 3 (Int32.ofInt 5)).2.2.1 46 3 from sF_get)]; decide
                    have n119a : (x2).toInt = 6 → ((sF (sF sc26 46 5 z96) 46 3 (Int32.ofInt 5)).2.2.1 46 3).toInt = 2 → ((sF (sF sc26 46 5 z96) 46 3 (Int32.ofInt 5)).2.2.1 46 5).toInt ≤ 999999 := by intro h6 h2; rw [← (show (Int32.ofInt 5) = (sF (sF sc26 46 5 z96) 46 3 (Int32.ofInt 5)).2.2.1 46 3 from sF_get)] at h2; rw [← (show z96 = (sF (sF sc26 46 5 z96) 46 3 (Int32.ofInt 5)).2.2.1 46 5 from sF_ne rfl (sF_get))]; first | (exfalso; revert h2; decide) | (have a0 := h2; unfold In at a0; have a1 := i91; unfold In at a1; have a2 := i34a; unfold In at a2; have a3 := i34; unfold In at a3; have a4 := j26_4; unfold In at a4; have a5 := i108; unfold In at a5; have a6 := (in_c 5 rfl); unfold In at a6; have a7 := i96; unfold In at a7; omega)
                    have n119b : (w26_46_2).toInt ≤ (u_46_1).toInt := by have a0 := h2; unfold In at a0; have a1 := i91; unfold In at a1; have a2 := i34a; unfold In at a2; have a3 := i34; unfold In at a3; have a4 := j26_4; unfold In at a4; have a5 := i108; unfold In at a5; have a6 := (in_c 5 rfl); unfold In at a6; have a7 := i96; unfold In at a7; omega
                    have n119c : ((sF (sF sc26 46 5 z96) 46 3 (Int32.ofInt 5)).2.2.1 46 2).toInt ≤ ((sF (sF sc26 46 5 z96) 46 3 (Int32.ofInt 5)).2.2.1 46 1).toInt := by have b0 : w26_46_2 = (sF (sF sc26 46 5 z96) 46 3 (Int32.ofInt 5)).2.2.1 46 2 := sF_ne rfl (sF_ne rfl (v26_46_2)); have b1 : u_46_1 = (sF (sF sc26 46 5 z96) 46 3 (Int32.ofInt 5)).2.2.1 46 1 := sF_ne rfl (sF_ne rfl (fr_F e_46_1 hFc26 rfl)); rw [← b0, ← b1]; exact n119b
                    have n119d : (u_46_2).toInt + 1 ≤ (w26_46_2).toInt := by have a0 := h2; unfold In at a0; have a1 := i91; unfold In at a1; have a2 := i34a; unfold In at a2; have a3 := i34; unfold In at a3; have a4 := j26_4; unfold In at a4; have a5 := i108; unfold In at a5; have a6 := (in_c 5 rfl); unfold In at a6; have a7 := i96; unfold In at a7; omega
                    have n119e : (s.2.2.1 46 2).toInt + 1 ≤ ((sF (sF sc26 46 5 z96) 46 3 (Int32.ofInt 5)).2.2.1 46 2).toInt := by have b0 : w26_46_2 = (sF (sF sc26 46 5 z96) 46 3 (Int32.ofInt 5)).2.2.1 46 2 := sF_ne rfl (sF_ne rfl (v26_46_2)); first | (rw [← b0, ← e_46_2]; exact n119d) | (rw [← b0]; exact n119d)
                    exact g_return (gd rfl) rfl (hP _ _ ⟨(sF (sF sc26 46 5 z96) 46 3 (Int32.ofInt 5)), hI116, (fr_sF rfl (fr_sF rfl hFc26)), n119c, n119e, rfl, rfl, n119, n119a⟩)
              · skip
                exact zn_ne c45 (in_c 0 rfl) rfl
            · skip
              have i42x27 := r_le1 48 57 c42x27 i42x16 (in_c 57 rfl) rfl
              refine g_iconst 1 31 (gd rfl) rfl rfl ?_
              refine g_goto 35 (gd rfl) rfl ?_
              refine g_ireturn (gd rfl) rfl (nb01 (in_w 0 1 (in_c 1 rfl) rfl)) (hp42 _ _ ?_)
              show GG _ _ _ _ _ _ _ _ [.int (Int32.ofInt 1)] _ _ _
              refine g_if_eq 48 89 (gd rfl) rfl rfl (fun c45 => ?_) (fun c45 => ?_)
              · skip
                exact zn_eq c45 (in_c 1 rfl) rfl
              · skip
                refine g_iinc 51 (gd rfl) rfl rfl (Nat.le_of_ble_eq_true rfl) (fun z48 e48 => ?_)
                have i48 := in_add 1 1001 e48 j26_3 (in_c 1 rfl) rfl rfl
                refine g_iload_n 52 (gd rfl) rfl rfl ?_
                refine g_iload_n 53 (gd rfl) rfl rfl ?_
                refine g_cmp_gt 56 76 (gd rfl) rfl rfl (fun c53 => ?_) (fun c53 => ?_)
                · skip
                  have i53 := r_lt2 7 1001 c53 h2 i48 rfl
                  refine g_aload_n 77 (gd rfl) rfl rfl ?_
                  refine g_dup 78 (gd rfl) rfl rfl ?_
                  refine g_getI 81 (gd rfl) rfl rfl rfl (fun z78 e78 => ?_)
                  have q78 : w26_46_2 = z78 := (v26_46_2).trans e78.symm
                  subst q78
                  refine g_iconst 1 82 (gd rfl) rfl rfl ?_
                  refine g_iadd 83 (gd rfl) rfl (fun z82 e82 => ?_)
                  have i82 := in_add 1 1000 e82 i34 (in_c 1 rfl) rfl rfl
                  refine g_putI 86 (gd rfl) rfl rfl rfl rfl ?_
                  have hI83 := inv_sF (q := 46) (j := 2) hIc26 rfl (in_w 0 1000 i82 rfl)
                  refine g_goto 26 (gd rfl) rfl ?_
                  have i26 : In z48 0 1000 := by exact ⟨by have a0 := h2; unfold In at a0; have a1 := h1; unfold In at a1; have a2 := i34a; unfold In at a2; have a3 := i34; unfold In at a3; have a4 := j26_4; unfold In at a4; have a5 := j26_3; unfold In at a5; have a6 := i53; unfold In at a6; have a7 := t_add e48 j26_3 (in_c 1 rfl) rfl; have a8 := (in_c 1 rfl); unfold In at a8; have a9 := i82; unfold In at a9; have a10 := t_add e82 i34 (in_c 1 rfl) rfl; omega, by have a0 := h2; unfold In at a0; have a1 := h1; unfold In at a1; have a2 := i34a; unfold In at a2; have a3 := i34; unfold In at a3; have a4 := j26_4; unfold In at a4; have a5 := j26_3; unfold In at a5; have a6 := i53; unfold In at a6; have a7 := t_add e48 j26_3 (in_c 1 rfl) rfl; have a8 := (in_c 1 rfl); unfold In at a8; have a9 := i82; unfold In at a9; have a10 := t_add e82 i34 (in_c 1 rfl) rfl; omega⟩
                  have v26 : z82 = (sF sc26 46 2 z82).2.2.1 46 2 := sF_get
                  have n26 : (z82).toInt ≤ (u_46_1).toInt := by have a0 := h2; unfold In at a0; have a1 := h1; unfold In at a1; have a2 := i34a; unfold In at a2; have a3 := i34; unfold In at a3; have a4 := j26_4; unfold In at a4; have a5 := j26_3; unfold In at a5; have a6 := i26; unfold In at a6; have a7 := t_add e48 j26_3 (in_c 1 rfl) rfl; have a8 := (in_c 1 rfl); unfold In at a8; have a9 := i82; unfold In at a9; have a10 := t_add e82 i34 (in_c 1 rfl) rfl; omega
                  have n26a : (u_46_2).toInt + (x1).toInt ≤ (z82).toInt := by have a0 := h2; unfold In at a0; have a1 := h1; unfold In at a1; have a2 := i34a; unfold In at a2; have a3 := i34; unfold In at a3; have a4 := j26_4; unfold In at a4; have a5 := j26_3; unfold In at a5; have a6 := i26; unfold In at a6; have a7 := t_add e48 j26_3 (in_c 1 rfl) rfl; have a8 := (in_c 1 rfl); unfold In at a8; have a9 := i82; unfold In at a9; have a10 := t_add e82 i34 (in_c 1 rfl) rfl; omega
                  have n26b : (z48).toInt ≤ (z82).toInt := by have a0 := h2; unfold In at a0; have a1 := h1; unfold In at a1; have a2 := i34a; unfold In at a2; have a3 := i34; unfold In at a3; have a4 := j26_4; unfold In at a4; have a5 := j26_3; unfold In at a5; have a6 := i26; unfold In at a6; have a7 := t_add e48 j26_3 (in_c 1 rfl) rfl; have a8 := (in_c 1 rfl); unfold In at a8; have a9 := i82; unfold In at a9; have a10 := t_add e82 i34 (in_c 1 rfl) rfl; omega
                  have n26c : 0 ≤ (y26_4).toInt ∧ ((z48).toInt ≤ (x2).toInt → (y26_4).toInt < (10 : Int) ^ ((z48).toInt).toNat) ∧ ((x2).toInt < (z48).toInt → (y26_4).toInt < (10 : Int) ^ ((x2).toInt).toNat) := by exact ⟨g26_0.1, fun h => absurd h (by have a0 := h2; unfold In at a0; have a1 := h1; unfold In at a1; have a2 := i34a; unfold In at a2; have a3 := i34; unfold In at a3; have a4 := j26_4; unfold In at a4; have a5 := j26_3; unfold In at a5; have a6 := i26; unfold In at a6; have a7 := t_add e48 j26_3 (in_c 1 rfl) rfl; have a8 := (in_c 1 rfl); unfold In at a8; have a9 := i82; unfold In at a9; have a10 := t_add e82 i34 (in_c 1 rfl) rfl; omega), fun _ => (Int.lt_or_le (x2).toInt (y26_3).toInt).elim g26_0.2.2 (fun hh => by have e7 : y26_3.toInt = x2.toInt := (by have a0 := h2; unfold In at a0; have a1 := h1; unfold In at a1; have a2 := i34a; unfold In at a2; have a3 := i34; unfold In at a3; have a4 := j26_4; unfold In at a4; have a5 := j26_3; unfold In at a5; have a6 := i26; unfold In at a6; have a7 := t_add e48 j26_3 (in_c 1 rfl) rfl; have a8 := (in_c 1 rfl); unfold In at a8; have a9 := i82; unfold In at a9; have a10 := t_add e82 i34 (in_c 1 rfl) rfl; omega); rw [← e7]; exact g26_0.2.1 hh)⟩
                  have m26 : (u_46_1).toInt - (z82).toInt < ((k26 : Nat) : Int) := by have a0 := h2; unfold In at a0; have a1 := h1; unfold In at a1; have a2 := i34a; unfold In at a2; have a3 := i34; unfold In at a3; have a4 := j26_4; unfold In at a4; have a5 := j26_3; unfold In at a5; have a6 := i26; unfold In at a6; have a7 := t_add e48 j26_3 (in_c 1 rfl) rfl; have a8 := (in_c 1 rfl); unfold In at a8; have a9 := i82; unfold In at a9; have a10 := t_add e82 i34 (in_c 1 rfl) rfl; omega
                  exact gg_w (by omega) (gg_f (gf_cons rfl (gf_cons rfl (gf_cons rfl (gf_cons rfl (gf_cons rfl gf_nil))))) (ih26  (sF sc26 46 2 z82) z48 y26_4 z82 hI83 (fr_sF rfl hFc26) i26 (in_w 0 9999999 j26_4 rfl) v26 n26 n26a n26b n26c m26))
                · skip
                  have i53 := r_le1 1 7 c53 i48 h2 rfl
                  refine g_iload 58 (gd rfl) rfl rfl ?_
                  refine g_bipush 10 60 (gd rfl) rfl rfl ?_
                  refine g_imul 61 (gd rfl) rfl (fun z60 e60 => ?_)
                  have i60 := in_mulc 10 0 99999990 (Or.inr e60) j26_4 rfl rfl
                  refine g_aload_n 62 (gd rfl) rfl rfl ?_
                  refine g_getA (q2 := 47) 65 (gd rfl) rfl rfl rfl rfl ?_
                  refine g_aload_n 66 (gd rfl) rfl rfl ?_
                  refine g_getI 69 (gd rfl) rfl rfl rfl (fun z66 e66 => ?_)
                  have q66 : w26_46_2 = z66 := (v26_46_2).trans e66.symm
                  subst q66
                  refine g_caload 70 (gd rfl) rfl (n := 1000) rfl (in_ix i34 rfl) (fun z69 e69 => ?_)
                  have q69 : z42x13 = z69 := (e42x13).trans e69.symm
                  subst q69
                  refine g_bipush 48 72 (gd rfl) rfl rfl ?_
                  refine g_isub 73 (gd rfl) rfl (fun z72 e72 => ?_)
                  have i72 := in_sub 0 9 e72 i42x27 (in_c 48 rfl) rfl rfl
                  refine g_iadd 74 (gd rfl) rfl (fun z73 e73 => ?_)
                  have i73 := in_add 0 99999999 e73 i60 i72 rfl rfl
                  have hq := dg_st (a := y26_4.toInt) (d := z72.toInt) (n := y26_3.toInt) (by have a0 := h2; unfold In at a0; have a1 := h1; unfold In at a1; have a2 := i34a; unfold In at a2; have a3 := i34; unfold In at a3; have a4 := j26_4; unfold In at a4; have a5 := j26_3; unfold In at a5; have a6 := i53; unfold In at a6; have a7 := t_add e48 j26_3 (in_c 1 rfl) rfl; have a8 := (in_c 1 rfl); unfold In at a8; have a9 := i73; unfold In at a9; have a10 := t_add e73 i60 i72 rfl; have a11 := i72; unfold In at a11; have a12 := t_sub e72 i42x27 (in_c 48 rfl) rfl; have a13 := (in_c 48 rfl); unfold In at a13; have a14 := i42x27; unfold In at a14; have a15 := i60; unfold In at a15; have a16 := (t_mulc 10 (Or.inr e60) j26_4 rfl).1; omega) g26_0.1 (g26_0.2.1 (by have a0 := h2; unfold In at a0; have a1 := h1; unfold In at a1; have a2 := i34a; unfold In at a2; have a3 := i34; unfold In at a3; have a4 := j26_4; unfold In at a4; have a5 := j26_3; unfold In at a5; have a6 := i53; unfold In at a6; have a7 := t_add e48 j26_3 (in_c 1 rfl) rfl; have a8 := (in_c 1 rfl); unfold In at a8; have a9 := i73; unfold In at a9; have a10 := t_add e73 i60 i72 rfl; have a11 := i72; unfold In at a11; have a12 := t_sub e72 i42x27 (in_c 48 rfl) rfl; have a13 := (in_c 48 rfl); unfold In at a13; have a14 := i42x27; unfold In at a14; have a15 := i60; unfold In at a15; have a16 := (t_mulc 10 (Or.inr e60) j26_4 rfl).1; omega)) (by have a0 := h2; unfold In at a0; have a1 := h1; unfold In at a1; have a2 := i34a; unfold In at a2; have a3 := i34; unfold In at a3; have a4 := j26_4; unfold In at a4; have a5 := j26_3; unfold In at a5; have a6 := i53; unfold In at a6; have a7 := t_add e48 j26_3 (in_c 1 rfl) rfl; have a8 := (in_c 1 rfl); unfold In at a8; have a9 := i73; unfold In at a9; have a10 := t_add e73 i60 i72 rfl; have a11 := i72; unfold In at a11; have a12 := t_sub e72 i42x27 (in_c 48 rfl) rfl; have a13 := (in_c 48 rfl); unfold In at a13; have a14 := i42x27; unfold In at a14; have a15 := i60; unfold In at a15; have a16 := (t_mulc 10 (Or.inr e60) j26_4 rfl).1; omega)
                  have iq : In z73 0 9999999 := (by have e7 : z73.toInt = y26_4.toInt * 10 + z72.toInt := (by have a0 := h2; unfold In at a0; have a1 := h1; unfold In at a1; have a2 := i34a; unfold In at a2; have a3 := i34; unfold In at a3; have a4 := j26_4; unfold In at a4; have a5 := j26_3; unfold In at a5; have a6 := i53; unfold In at a6; have a7 := t_add e48 j26_3 (in_c 1 rfl) rfl; have a8 := (in_c 1 rfl); unfold In at a8; have a9 := i73; unfold In at a9; have a10 := t_add e73 i60 i72 rfl; have a11 := i72; unfold In at a11; have a12 := t_sub e72 i42x27 (in_c 48 rfl) rfl; have a13 := (in_c 48 rfl); unfold In at a13; have a14 := i42x27; unfold In at a14; have a15 := i60; unfold In at a15; have a16 := (t_mulc 10 (Or.inr e60) j26_4 rfl).1; omega); have h7 := dg_7 (n := y26_3.toInt + 1) (by have a0 := h2; unfold In at a0; have a1 := h1; unfold In at a1; have a2 := i34a; unfold In at a2; have a3 := i34; unfold In at a3; have a4 := j26_4; unfold In at a4; have a5 := j26_3; unfold In at a5; have a6 := i53; unfold In at a6; have a7 := t_add e48 j26_3 (in_c 1 rfl) rfl; have a8 := (in_c 1 rfl); unfold In at a8; have a9 := i73; unfold In at a9; have a10 := t_add e73 i60 i72 rfl; have a11 := i72; unfold In at a11; have a12 := t_sub e72 i42x27 (in_c 48 rfl) rfl; have a13 := (in_c 48 rfl); unfold In at a13; have a14 := i42x27; unfold In at a14; have a15 := i60; unfold In at a15; have a16 := (t_mulc 10 (Or.inr e60) j26_4 rfl).1; omega) (by have a0 := h2; unfold In at a0; have a1 := h1; unfold In at a1; have a2 := i34a; unfold In at a2; have a3 := i34; unfold In at a3; have a4 := j26_4; unfold In at a4; have a5 := j26_3; unfold In at a5; have a6 := i53; unfold In at a6; have a7 := t_add e48 j26_3 (in_c 1 rfl) rfl; have a8 := (in_c 1 rfl); unfold In at a8; have a9 := i73; unfold In at a9; have a10 := t_add e73 i60 i72 rfl; have a11 := i72; unfold In at a11; have a12 := t_sub e72 i42x27 (in_c 48 rfl) rfl; have a13 := (in_c 48 rfl); unfold In at a13; have a14 := i42x27; unfold In at a14; have a15 := i60; unfold In at a15; have a16 := (t_mulc 10 (Or.inr e60) j26_4 rfl).1; omega) hq.2; exact ⟨by rw [e7]; exact hq.1, by rw [e7]; exact h7⟩)
                  have i74 : In z73 0 9999999 := by exact iq
                  refine g_istore 76 (gd rfl) rfl (Nat.le_of_ble_eq_true rfl) ?_
                  refine g_aload_n 77 (gd rfl) rfl rfl ?_
                  refine g_dup 78 (gd rfl) rfl rfl ?_
                  refine g_getI 81 (gd rfl) rfl rfl rfl (fun z78 e78 => ?_)
                  have q78 : w26_46_2 = z78 := (v26_46_2).trans e78.symm
                  subst q78
                  refine g_iconst 1 82 (gd rfl) rfl rfl ?_
                  refine g_iadd 83 (gd rfl) rfl (fun z82 e82 => ?_)
                  have i82 := in_add 1 1000 e82 i34 (in_c 1 rfl) rfl rfl
                  refine g_putI 86 (gd rfl) rfl rfl rfl rfl ?_
                  have hI83 := inv_sF (q := 46) (j := 2) hIc26 rfl (in_w 0 1000 i82 rfl)
                  refine g_goto 26 (gd rfl) rfl ?_
                  have v26 : z82 = (sF sc26 46 2 z82).2.2.1 46 2 := sF_get
                  have n26 : (z82).toInt ≤ (u_46_1).toInt := by have a0 := h2; unfold In at a0; have a1 := h1; unfold In at a1; have a2 := i34a; unfold In at a2; have a3 := i34; unfold In at a3; have a4 := j26_4; unfold In at a4; have a5 := j26_3; unfold In at a5; have a6 := i74; unfold In at a6; have a7 := t_add e73 i60 i72 rfl; have a8 := i72; unfold In at a8; have a9 := t_sub e72 i42x27 (in_c 48 rfl) rfl; have a10 := (in_c 48 rfl); unfold In at a10; have a11 := i42x27; unfold In at a11; have a12 := i60; unfold In at a12; have a13 := (t_mulc 10 (Or.inr e60) j26_4 rfl).1; have a14 := i53; unfold In at a14; have a15 := t_add e48 j26_3 (in_c 1 rfl) rfl; have a16 := (in_c 1 rfl); unfold In at a16; have a17 := i82; unfold In at a17; have a18 := t_add e82 i34 (in_c 1 rfl) rfl; omega
                  have n26a : (u_46_2).toInt + (x1).toInt ≤ (z82).toInt := by have a0 := h2; unfold In at a0; have a1 := h1; unfold In at a1; have a2 := i34a; unfold In at a2; have a3 := i34; unfold In at a3; have a4 := j26_4; unfold In at a4; have a5 := j26_3; unfold In at a5; have a6 := i74; unfold In at a6; have a7 := t_add e73 i60 i72 rfl; have a8 := i72; unfold In at a8; have a9 := t_sub e72 i42x27 (in_c 48 rfl) rfl; have a10 := (in_c 48 rfl); unfold In at a10; have a11 := i42x27; unfold In at a11; have a12 := i60; unfold In at a12; have a13 := (t_mulc 10 (Or.inr e60) j26_4 rfl).1; have a14 := i53; unfold In at a14; have a15 := t_add e48 j26_3 (in_c 1 rfl) rfl; have a16 := (in_c 1 rfl); unfold In at a16; have a17 := i82; unfold In at a17; have a18 := t_add e82 i34 (in_c 1 rfl) rfl; omega
                  have n26b : (z48).toInt ≤ (z82).toInt := by have a0 := h2; unfold In at a0; have a1 := h1; unfold In at a1; have a2 := i34a; unfold In at a2; have a3 := i34; unfold In at a3; have a4 := j26_4; unfold In at a4; have a5 := j26_3; unfold In at a5; have a6 := i74; unfold In at a6; have a7 := t_add e73 i60 i72 rfl; have a8 := i72; unfold In at a8; have a9 := t_sub e72 i42x27 (in_c 48 rfl) rfl; have a10 := (in_c 48 rfl); unfold In at a10; have a11 := i42x27; unfold In at a11; have a12 := i60; unfold In at a12; have a13 := (t_mulc 10 (Or.inr e60) j26_4 rfl).1; have a14 := i53; unfold In at a14; have a15 := t_add e48 j26_3 (in_c 1 rfl) rfl; have a16 := (in_c 1 rfl); unfold In at a16; have a17 := i82; unfold In at a17; have a18 := t_add e82 i34 (in_c 1 rfl) rfl; omega
                  have n26c : 0 ≤ (z73).toInt ∧ ((z48).toInt ≤ (x2).toInt → (z73).toInt < (10 : Int) ^ ((z48).toInt).toNat) ∧ ((x2).toInt < (z48).toInt → (z73).toInt < (10 : Int) ^ ((x2).toInt).toNat) := by have e7 : z73.toInt = y26_4.toInt * 10 + z72.toInt := (by have a0 := h2; unfold In at a0; have a1 := h1; unfold In at a1; have a2 := i34a; unfold In at a2; have a3 := i34; unfold In at a3; have a4 := j26_4; unfold In at a4; have a5 := j26_3; unfold In at a5; have a6 := i74; unfold In at a6; have a7 := t_add e73 i60 i72 rfl; have a8 := i72; unfold In at a8; have a9 := t_sub e72 i42x27 (in_c 48 rfl) rfl; have a10 := (in_c 48 rfl); unfold In at a10; have a11 := i42x27; unfold In at a11; have a12 := i60; unfold In at a12; have a13 := (t_mulc 10 (Or.inr e60) j26_4 rfl).1; have a14 := i53; unfold In at a14; have a15 := t_add e48 j26_3 (in_c 1 rfl) rfl; have a16 := (in_c 1 rfl); unfold In at a16; have a17 := i82; unfold In at a17; have a18 := t_add e82 i34 (in_c 1 rfl) rfl; omega); have e8 : z48.toInt = y26_3.toInt + 1 := (by have a0 := h2; unfold In at a0; have a1 := h1; unfold In at a1; have a2 := i34a; unfold In at a2; have a3 := i34; unfold In at a3; have a4 := j26_4; unfold In at a4; have a5 := j26_3; unfold In at a5; have a6 := i74; unfold In at a6; have a7 := t_add e73 i60 i72 rfl; have a8 := i72; unfold In at a8; have a9 := t_sub e72 i42x27 (in_c 48 rfl) rfl; have a10 := (in_c 48 rfl); unfold In at a10; have a11 := i42x27; unfold In at a11; have a12 := i60; unfold In at a12; have a13 := (t_mulc 10 (Or.inr e60) j26_4 rfl).1; have a14 := i53; unfold In at a14; have a15 := t_add e48 j26_3 (in_c 1 rfl) rfl; have a16 := (in_c 1 rfl); unfold In at a16; have a17 := i82; unfold In at a17; have a18 := t_add e82 i34 (in_c 1 rfl) rfl; omega); exact ⟨by rw [e7]; exact hq.1, fun _ => by rw [e7, e8]; exact hq.2, fun h => absurd h (by have a0 := h2; unfold In at a0; have a1 := h1; unfold In at a1; have a2 := i34a; unfold In at a2; have a3 := i34; unfold In at a3; have a4 := j26_4; unfold In at a4; have a5 := j26_3; unfold In at a5; have a6 := i74; unfold In at a6; have a7 := t_add e73 i60 i72 rfl; have a8 := i72; unfold In at a8; have a9 := t_sub e72 i42x27 (in_c 48 rfl) rfl; have a10 := (in_c 48 rfl); unfold In at a10; have a11 := i42x27; unfold In at a11; have a12 := i60; unfold In at a12; have a13 := (t_mulc 10 (Or.inr e60) j26_4 rfl).1; have a14 := i53; unfold In at a14; have a15 := t_add e48 j26_3 (in_c 1 rfl) rfl; have a16 := (in_c 1 rfl); unfold In at a16; have a17 := i82; unfold In at a17; have a18 := t_add e82 i34 (in_c 1 rfl) rfl; omega)⟩
                  have m26 : (u_46_1).toInt - (z82).toInt < ((k26 : Nat) : Int) := by have a0 := h2; unfold In at a0; have a1 := h1; unfold In at a1; have a2 := i34a; unfold In at a2; have a3 := i34; unfold In at a3; have a4 := j26_4; unfold In at a4; have a5 := j26_3; unfold In at a5; have a6 := i74; unfold In at a6; have a7 := t_add e73 i60 i72 rfl; have a8 := i72; unfold In at a8; have a9 := t_sub e72 i42x27 (in_c 48 rfl) rfl; have a10 := (in_c 48 rfl); unfold In at a10; have a11 := i42x27; unfold In at a11; have a12 := i60; unfold In at a12; have a13 := (t_mulc 10 (Or.inr e60) j26_4 rfl).1; have a14 := i53; unfold In at a14; have a15 := t_add e48 j26_3 (in_c 1 rfl) rfl; have a16 := (in_c 1 rfl); unfold In at a16; have a17 := i82; unfold In at a17; have a18 := t_add e82 i34 (in_c 1 rfl) rfl; omega
                  exact gg_w (by omega) (gg_f (gf_cons rfl (gf_cons rfl (gf_cons rfl (gf_cons rfl (gf_cons rfl gf_nil))))) (ih26  (sF sc26 46 2 z82) z48 z73 z82 hI83 (fr_sF rfl hFc26) (in_w 0 1000 i53 rfl) (in_w 0 9999999 i74 rfl) v26 n26 n26a n26b n26c m26))
  refine g_enter2 (k := 173) (N := 901801) (by omega) rfl (Nat.le_of_ble_eq_true rfl) ?_
  refine g_iconst 0 1 (gd rfl) rfl rfl ?_
  refine g_istore_n 2 (gd rfl) rfl (Nat.le_of_ble_eq_true rfl) ?_
  refine g_iconst 0 3 (gd rfl) rfl rfl ?_
  refine g_istore 5 (gd rfl) rfl (Nat.le_of_ble_eq_true rfl) ?_
  refine g_aload_n 6 (gd rfl) rfl rfl ?_
  refine g_iload_n 7 (gd rfl) rfl rfl ?_
  refine g_if_eq 10 19 (gd rfl) rfl rfl (fun c7 => ?_) (fun c7 => ?_)
  · skip
    have i7 := z_eq 0 0 c7 h1 rfl
    refine g_aload_n 20 (gd rfl) rfl rfl ?_
    refine g_getI 23 (gd rfl) rfl rfl rfl (fun z20 e20 => ?_)
    have q20 : u_46_2 = z20 := (e_46_2).trans e20.symm
    subst q20
    refine g_putI 26 (gd rfl) rfl rfl rfl rfl ?_
    have hI23 := inv_sF (q := 46) (j := 2) hI rfl (in_w 0 1000 (inv_F hI 0 1000 rfl e_46_2) rfl)
    have v26 : u_46_2 = (sF s 46 2 u_46_2).2.2.1 46 2 := sF_get
    have n26 : (u_46_2).toInt ≤ (u_46_1).toInt := by have a0 := (inv_F hI 0 1000 rfl e_46_1); unfold In at a0; have a1 := (inv_F hI 0 1000 rfl e_46_2); unfold In at a1; have a2 := h2; unfold In at a2; have a3 := i7; unfold In at a3; have a4 := (in_c 0 rfl); unfold In at a4; omega
    have n26a : (u_46_2).toInt + (x1).toInt ≤ (u_46_2).toInt := by have a0 := (inv_F hI 0 1000 rfl e_46_1); unfold In at a0; have a1 := (inv_F hI 0 1000 rfl e_46_2); unfold In at a1; have a2 := h2; unfold In at a2; have a3 := i7; unfold In at a3; have a4 := (in_c 0 rfl); unfold In at a4; omega
    have n26b : ((Int32.ofInt 0)).toInt ≤ (u_46_2).toInt := by have a0 := (inv_F hI 0 1000 rfl e_46_1); unfold In at a0; have a1 := (inv_F hI 0 1000 rfl e_46_2); unfold In at a1; have a2 := h2; unfold In at a2; have a3 := i7; unfold In at a3; have a4 := (in_c 0 rfl); unfold In at a4; omega
    have n26c : 0 ≤ ((Int32.ofInt 0)).toInt ∧ (((Int32.ofInt 0)).toInt ≤ (x2).toInt → ((Int32.ofInt 0)).toInt < (10 : Int) ^ (((Int32.ofInt 0)).toInt).toNat) ∧ ((x2).toInt < ((Int32.ofInt 0)).toInt → ((Int32.ofInt 0)).toInt < (10 : Int) ^ ((x2).toInt).toNat) := by exact ⟨by decide, fun _ => by decide, fun h => absurd h (by have h9 : (Int32.ofInt 0).toInt = 0 := rfl; have a0 := (inv_F hI 0 1000 rfl e_46_1); unfold In at a0; have a1 := (inv_F hI 0 1000 rfl e_46_2); unfold In at a1; have a2 := h2; unfold In at a2; have a3 := i7; unfold In at a3; have a4 := (in_c 0 rfl); unfold In at a4; omega)⟩
    have m26 : (u_46_1).toInt - (u_46_2).toInt < ((1001 : Nat) : Int) := by have a0 := (inv_F hI 0 1000 rfl e_46_1); unfold In at a0; have a1 := (inv_F hI 0 1000 rfl e_46_2); unfold In at a1; have a2 := h2; unfold In at a2; have a3 := i7; unfold In at a3; have a4 := (in_c 0 rfl); unfold In at a4; omega
    exact gg_w (by omega) (gg_f (gf_cons rfl (gf_cons rfl (gf_cons rfl (gf_cons rfl (gf_cons rfl gf_nil))))) (ct26 1001 (sF s 46 2 u_46_2) (Int32.ofInt 0) (Int32.ofInt 0) u_46_2 hI23 (fr_sF rfl fr_rf) (in_w 0 1000 (in_c 0 rfl) rfl) (in_w 0 9999999 (in_c 0 rfl) rfl) v26 n26 n26a n26b n26c m26))
  · skip
    have i7 := z_ne 1 1 c7 h1 rfl
    refine g_aload_n 11 (gd rfl) rfl rfl ?_
    refine g_getI 14 (gd rfl) rfl rfl rfl (fun z11 e11 => ?_)
    have q11 : u_46_2 = z11 := (e_46_2).trans e11.symm
    subst q11
    refine g_iconst 1 15 (gd rfl) rfl rfl ?_
    refine g_iadd 16 (gd rfl) rfl (fun z15 e15 => ?_)
    have i15 := in_add 1 1001 e15 (inv_F hI 0 1000 rfl e_46_2) (in_c 1 rfl) rfl rfl
    refine g_goto 23 (gd rfl) rfl ?_
    have i23 : In z15 0 1000 := by have a0 := (inv_F hI 0 1000 rfl e_46_1); unfold In at a0; have a1 := (inv_F hI 0 1000 rfl e_46_2); unfold In at a1; have a2 := h2; unfold In at a2; have a3 := i7; unfold In at a3; have a4 := (in_c 0 rfl); unfold In at a4; have a5 := i15; unfold In at a5; have a6 := t_add e15 (inv_F hI 0 1000 rfl e_46_2) (in_c 1 rfl) rfl; have a7 := (in_c 1 rfl); unfold In at a7; exact ⟨by omega, by omega⟩
    refine g_putI 26 (gd rfl) rfl rfl rfl rfl ?_
    have hI23 := inv_sF (q := 46) (j := 2) hI rfl (in_w 0 1000 i23 rfl)
    have v26 : z15 = (sF s 46 2 z15).2.2.1 46 2 := sF_get
    have n26 : (z15).toInt ≤ (u_46_1).toInt := by have a0 := (inv_F hI 0 1000 rfl e_46_1); unfold In at a0; have a1 := (inv_F hI 0 1000 rfl e_46_2); unfold In at a1; have a2 := h2; unfold In at a2; have a3 := i7; unfold In at a3; have a4 := (in_c 0 rfl); unfold In at a4; have a5 := i23; unfold In at a5; have a6 := t_add e15 (inv_F hI 0 1000 rfl e_46_2) (in_c 1 rfl) rfl; have a7 := (in_c 1 rfl); unfold In at a7; omega
    have n26a : (u_46_2).toInt + (x1).toInt ≤ (z15).toInt := by have a0 := (inv_F hI 0 1000 rfl e_46_1); unfold In at a0; have a1 := (inv_F hI 0 1000 rfl e_46_2); unfold In at a1; have a2 := h2; unfold In at a2; have a3 := i7; unfold In at a3; have a4 := (in_c 0 rfl); unfold In at a4; have a5 := i23; unfold In at a5; have a6 := t_add e15 (inv_F hI 0 1000 rfl e_46_2) (in_c 1 rfl) rfl; have a7 := (in_c 1 rfl); unfold In at a7; omega
    have n26b : ((Int32.ofInt 0)).toInt ≤ (z15).toInt := by have a0 := (inv_F hI 0 1000 rfl e_46_1); unfold In at a0; have a1 := (inv_F hI 0 1000 rfl e_46_2); unfold In at a1; have a2 := h2; unfold In at a2; have a3 := i7; unfold In at a3; have a4 := (in_c 0 rfl); unfold In at a4; have a5 := i23; unfold In at a5; have a6 := t_add e15 (inv_F hI 0 1000 rfl e_46_2) (in_c 1 rfl) rfl; have a7 := (in_c 1 rfl); unfold In at a7; omega
    have n26c : 0 ≤ ((Int32.ofInt 0)).toInt ∧ (((Int32.ofInt 0)).toInt ≤ (x2).toInt → ((Int32.ofInt 0)).toInt < (10 : Int) ^ (((Int32.ofInt 0)).toInt).toNat) ∧ ((x2).toInt < ((Int32.ofInt 0)).toInt → ((Int32.ofInt 0)).toInt < (10 : Int) ^ ((x2).toInt).toNat) := by exact ⟨by decide, fun _ => by decide, fun h => absurd h (by have h9 : (Int32.ofInt 0).toInt = 0 := rfl; have a0 := (inv_F hI 0 1000 rfl e_46_1); unfold In at a0; have a1 := (inv_F hI 0 1000 rfl e_46_2); unfold In at a1; have a2 := h2; unfold In at a2; have a3 := i7; unfold In at a3; have a4 := (in_c 0 rfl); unfold In at a4; have a5 := i23; unfold In at a5; have a6 := t_add e15 (inv_F hI 0 1000 rfl e_46_2) (in_c 1 rfl) rfl; have a7 := (in_c 1 rfl); unfold In at a7; omega)⟩
    have m26 : (u_46_1).toInt - (z15).toInt < ((1001 : Nat) : Int) := by have a0 := (inv_F hI 0 1000 rfl e_46_1); unfold In at a0; have a1 := (inv_F hI 0 1000 rfl e_46_2); unfold In at a1; have a2 := h2; unfold In at a2; have a3 := i7; unfold In at a3; have a4 := (in_c 0 rfl); unfold In at a4; have a5 := i23; unfold In at a5; have a6 := t_add e15 (inv_F hI 0 1000 rfl e_46_2) (in_c 1 rfl) rfl; have a7 := (in_c 1 rfl); unfold In at a7; omega
    exact gg_w (by omega) (gg_f (gf_cons rfl (gf_cons rfl (gf_cons rfl (gf_cons rfl (gf_cons rfl gf_nil))))) (ct26 1001 (sF s 46 2 z15) (Int32.ofInt 0) (Int32.ofInt 0) z15 hI23 (fr_sF rfl fr_rf) (in_w 0 1000 (in_c 0 rfl) rfl) (in_w 0 9999999 (in_c 0 rfl) rfl) v26 n26 n26a n26b n26c m26))

def fm_57_102 : FM := ([104], [], [(102, 4)], [])
/-- GraphHouse$Engine.emit -/
theorem k_57_102 {Z : AmZ} {A : Nat → Nat} {s : GS} {ex : va_W} {d : Nat} {X : AmX} {x1 : Int32} {u_102_4 : Int32} (hd : 1 ≤ d) (hI : Inv s) (e_102_4 : u_102_4 = s.2.2.1 102 4) (p_0 : (u_102_4).toInt ≤ 119) : GC Z d 57 [.ref (A 102), .int x1] (WW Z A s ++ ex) 0 0 (fun v u => ∃ t : GS, Inv t ∧ Fr fm_57_102 s t ∧ ((t.2.2.1 102 4).toInt = (s.2.2.1 102 4).toInt + 1) ∧ ∃ z : Int32, v = some (.int z) ∧ u = WW Z A t ++ ex ∧ In z 1 1 ∧ (t.1 104 = upd (s.1 104) (s.2.2.1 102 4).toNatClampNeg x1)) X := by
  intro post xp hP hX
  refine g_enter2 (k := 57) (N := 900) (by omega) rfl (Nat.le_of_ble_eq_true rfl) ?_
  refine g_aload_n 1 (gd rfl) rfl rfl ?_
  refine g_getI 4 (gd rfl) rfl rfl rfl (fun z1 e1 => ?_)
  have q1 : u_102_4 = z1 := (e_102_4).trans e1.symm
  subst q1
  refine g_bipush 120 6 (gd rfl) rfl rfl ?_
  refine g_cmp_ge 9 29 (gd rfl) rfl rfl (fun c6 => ?_) (fun c6 => ?_)
  · skip
    have i6 := r_le2 120 120 c6 (in_c 120 rfl) (inv_F hI 0 120 rfl e_102_4) rfl
    exfalso
    have a0 := i6; unfold In at a0; omega
  · skip
    have i6 := r_lt1 0 119 c6 (inv_F hI 0 120 rfl e_102_4) (in_c 120 rfl) rfl
    refine g_aload_n 10 (gd rfl) rfl rfl ?_
    refine g_getA (q2 := 104) 13 (gd rfl) rfl rfl rfl rfl ?_
    refine g_aload_n 14 (gd rfl) rfl rfl ?_
    refine g_getI 17 (gd rfl) rfl rfl rfl (fun z14 e14 => ?_)
    have q14 : u_102_4 = z14 := (e_102_4).trans e14.symm
    subst q14
    refine g_iload_n 18 (gd rfl) rfl rfl ?_
    refine g_iastore 19 (gd rfl) rfl (n := 120) rfl (in_ix i6 rfl) ?_
    have hI18 := inv_sI (q := 104) (j := u_102_4.toNatClampNeg) hI rfl (in_w (-2147483648) 2147483647 (i_rng x1) rfl)
    refine g_aload_n 20 (gd rfl) rfl rfl ?_
    refine g_dup 21 (gd rfl) rfl rfl ?_
    refine g_getI 24 (gd rfl) rfl rfl rfl (fun z21 e21 => ?_)
    have q21 : u_102_4 = z21 := (sI_F (e_102_4)).trans e21.symm
    subst q21
    refine g_iconst 1 25 (gd rfl) rfl rfl ?_
    refine g_iadd 26 (gd rfl) rfl (fun z25 e25 => ?_)
    have i25 := in_add 1 120 e25 i6 (in_c 1 rfl) rfl rfl
    refine g_putI 29 (gd rfl) rfl rfl rfl rfl ?_
    have hI26 := inv_sF (q := 102) (j := 4) hI18 rfl (in_w 0 120 i25 rfl)
    refine g_iconst 1 30 (gd rfl) rfl rfl ?_
    have n30 : (sF (sI s 104 u_102_4.toNatClampNeg x1) 102 4 z25).1 104 = upd (s.1 104) (s.2.2.1 102 4).toNatClampNeg x1 := by rw [← e_102_4]; simp [sI, sF]
    have n30a : (z25).toInt = (u_102_4).toInt + 1 := by have a0 := i6; unfold In at a0; have a1 := i25; unfold In at a1; have a2 := t_add e25 i6 (in_c 1 rfl) rfl; have a3 := (in_c 1 rfl); unfold In at a3; omega
    have n30b : ((sF (sI s 104 u_102_4.toNatClampNeg x1) 102 4 z25).2.2.1 102 4).toInt = (s.2.2.1 102 4).toInt + 1 := by have b0 : z25 = (sF (sI s 104 u_102_4.toNatClampNeg x1) 102 4 z25).2.2.1 102 4 := sF_get; first | (rw [← b0, ← e_102_4]; exact n30a) | (rw [← b0]; exact n30a)
    exact g_ireturn (gd rfl) rfl (nb01 (in_w 0 1 (in_c 1 rfl) rfl)) (hP _ _ ⟨(sF (sI s 104 u_102_4.toNatClampNeg x1) 102 4 z25), hI26, (fr_sF rfl (fr_sI rfl fr_rf)), n30b, (Int32.ofInt 1), rfl, rfl, in_w 1 1 (in_c 1 rfl) rfl, n30⟩)

def fm_105_2 : FM := ([4], [], [(2, 2), (2, 3)], [])
def fm_132_1_2 : FM := ([4, 5, 6, 7, 8], [], [(2, 2), (2, 3)], [])
def fm_133_1_2 : FM := ([6, 7, 8], [], [], [])
def fm_131_1_2 : FM := ([3, 4, 5, 6, 7, 8], [], [(2, 0), (2, 1), (2, 2), (2, 3)], [])
def fm_105_32 : FM := ([34], [], [(32, 2), (32, 3)], [])
def fm_132_1_32 : FM := ([34, 35, 36, 37, 38], [], [(32, 2), (32, 3)], [])
def fm_133_1_32 : FM := ([36, 37, 38], [], [], [])
def fm_129_1 : FM := ([3, 4, 5, 6, 7, 8, 30], [], [(2, 0), (2, 1), (2, 2), (2, 3), (30, 0)], [])