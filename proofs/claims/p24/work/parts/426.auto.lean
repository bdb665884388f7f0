/-! methods, by vc.py -/
def fm_285 : FM := ([110, 111, 112, 113, 114, 115, 116, 117, 118, 119, 120, 121, 122, 123, 124], [], [(109, 0), (109, 9), (109, 18), (109, 19), (109, 20)], [])
def fm_300 : FM := ([], [], [(109, 23), (109, 24), (109, 27)], [(109, 31)])
/-- GraphHouseModel.readNumber -/
theorem k_300 {Z : AmZ} {A : Nat → Nat} {s : GS} {ex : va_W} {d : Nat} {X : AmX} {x1 : Int32} {u_109_27 : Int32} {u_109_22 : Int32} (hd : 3 ≤ d) (hI : Inv s) (h1 : In x1 6 7) (e_109_27 : u_109_27 = s.2.2.1 109 27) (e_109_22 : u_109_22 = s.2.2.1 109 22) (p_0 : (u_109_27).toInt < (u_109_22).toInt) (q_0 : 48 ≤ (s.1 125 (s.2.2.1 109 27).toNatClampNeg).toInt ∧ (s.1 125 (s.2.2.1 109 27).toNatClampNeg).toInt ≤ 57) : GC Z d 300 [.ref (A 109), .int x1] (WW Z A s ++ ex) 0 0 (fun v u => ∃ t : GS, Inv t ∧ Fr fm_300 s t ∧ ((t.2.2.1 109 27).toInt ≤ (t.2.2.1 109 22).toInt) ∧ ((s.2.2.1 109 27).toInt + 1 ≤ (t.2.2.1 109 27).toInt) ∧ v = none ∧ u = WW Z A t ++ ex) X := by
  intro post xp hP hX
  have ro_109_22 := inv_F hI 0 1000 rfl e_109_22
  obtain ⟨u_109_29, e_109_29⟩ : ∃ w, w = s.2.2.1 109 29 := ⟨_, rfl⟩
  have ro_109_29 := inv_F hI 0 1000 rfl e_109_29
  have ct10 : ∀ (k10 : Nat) (sc10 : GS) (y10_2 : Int32) (w10_109_27 : Int32), Inv sc10 → Fr fm_300 s sc10 → (In y10_2 0 1000) → (w10_109_27 = sc10.2.2.1 109 27) → ((w10_109_27).toInt ≤ (u_109_22).toInt) → ((u_109_27).toInt ≤ (w10_109_27).toInt) → (u_109_22).toInt - (w10_109_27).toInt < (k10 : Int) → GG Z (d - 1) 300 post (gx xp) (1 + k10 * 900) 10 (fun j => xlook j [(0, .ref (A 109)), (1, .int x1), (2, .int y10_2)]) [] (WW Z A sc10 ++ ex) 0 0 := by
    intro k10
    induction k10 with
    | zero => intro sc10 y10_2 w10_109_27 hIc10 hFc10 j10_2 v10_109_27 n10_0 n10_1 mm10; exfalso; have a0 := h1; unfold In at a0; have a1 := ro_109_29; unfold In at a1; have a2 := ro_109_22; unfold In at a2; have a3 := (inv_F hIc10 0 1000 rfl v10_109_27); unfold In at a3; have a4 := j10_2; unfold In at a4; omega
    | succ k10 ih10 =>
      intro sc10 y10_2 w10_109_27 hIc10 hFc10 j10_2 v10_109_27 n10_0 n10_1 mm10
      refine gg_w (M := 1 + k10 * 900 + 900) (by omega) (g_aload_n 11 (gd rfl) rfl rfl (g_getIv (y := w10_109_27) 14 (gd rfl) rfl rfl rfl (v10_109_27) (g_aload_n 15 (gd rfl) rfl rfl (g_getIv (y := u_109_22) 18 (gd rfl) rfl rfl rfl (fr_F e_109_22 hFc10 rfl) (g_cmp_ge 21 93 (gd rfl) rfl rfl (fun c18 => ?_) (fun c18 => ?_))))))
      · skip
        have hq93 : (u_109_27).toInt + 1 ≤ (w10_109_27).toInt := (by first | (exact (have a0 := in_u h1; have a1 := in_u ro_109_29; have a2 := in_u ro_109_22; have a3 := in_u ((inv_F hIc10 0 1000 rfl v10_109_27)); have a4 := in_u j10_2; by omega)) | (have hi := i30x3; unfold In at hi; exact (have a0 := in_u h1; have a1 := in_u ro_109_29; have a2 := in_u ro_109_22; have a3 := in_u ((inv_F hIc10 0 1000 rfl v10_109_27)); have a4 := in_u j10_2; by omega)) | (have hi := i30x9; unfold In at hi; exact (have a0 := in_u h1; have a1 := in_u ro_109_29; have a2 := in_u ro_109_22; have a3 := in_u ((inv_F hIc10 0 1000 rfl v10_109_27)); have a4 := in_u j10_2; by omega)))
        refine g_aload_n 94 (gd rfl) rfl rfl (g_getIv (y := w10_109_27) 97 (gd rfl) rfl rfl rfl (v10_109_27) (g_iload_n 98 (gd rfl) rfl rfl (g_isub 99 (gd rfl) rfl (fun z98 e98 => have i98 := in_sub (-1000) 1000 e98 (inv_F hIc10 0 1000 rfl v10_109_27) j10_2 rfl rfl; g_iload_n 100 (gd rfl) rfl rfl (g_cmp_le 103 122 (gd rfl) rfl rfl (fun c100 => ?_) (fun c100 => ?_))))))
        · skip
          have i100 := r_le1 (-1000) 7 c100 i98 h1 rfl
          have n122 : (w10_109_27).toInt ≤ (u_109_22).toInt := by exact (have a0 := in_u h1; have a1 := in_u ro_109_29; have a2 := in_u ro_109_22; have a3 := in_u ((inv_F hIc10 0 1000 rfl v10_109_27)); have a4 := in_u j10_2; have a5 := in_u i100; have a6 := t_sub e98 (inv_F hIc10 0 1000 rfl v10_109_27) j10_2 rfl; by omega)
          have n122a : (sc10.2.2.1 109 27).toInt ≤ (sc10.2.2.1 109 22).toInt := by have b0 : w10_109_27 = sc10.2.2.1 109 27 := v10_109_27; have b1 : u_109_22 = sc10.2.2.1 109 22 := fr_F e_109_22 hFc10 rfl; rw [← b0, ← b1]; exact n122
          have n122b : (u_109_27).toInt + 1 ≤ (w10_109_27).toInt := by exact (have a0 := in_u h1; have a1 := in_u ro_109_29; have a2 := in_u ro_109_22; have a3 := in_u ((inv_F hIc10 0 1000 rfl v10_109_27)); have a4 := in_u j10_2; have a5 := in_u i100; have a6 := t_sub e98 (inv_F hIc10 0 1000 rfl v10_109_27) j10_2 rfl; by omega)
          have n122c : (s.2.2.1 109 27).toInt + 1 ≤ (sc10.2.2.1 109 27).toInt := by have b0 : w10_109_27 = sc10.2.2.1 109 27 := v10_109_27; first | (rw [← b0, ← e_109_27]; exact n122b) | (rw [← b0]; exact n122b)
          exact g_return (gd rfl) rfl (hP _ _ ⟨sc10, hIc10, hFc10, n122a, n122c, rfl, rfl⟩)
        · skip
          have i100 := r_lt2 7 1000 c100 h1 i98 rfl
          refine g_aload_n 104 (gd rfl) rfl rfl (g_iload_n 105 (gd rfl) rfl rfl (g_bipush 7 107 (gd rfl) rfl rfl (g_cmp_ne 110 114 (gd rfl) rfl rfl (fun c107 => ?_) (fun c107 => ?_))))
          · skip
            have i107 := r_ne1 6 6 c107 h1 (in_c 7 rfl) rfl
            refine g_iconst 4 115 (gd rfl) rfl rfl (g_aload_n 116 (gd rfl) rfl rfl (g_getIv (y := u_109_29) 119 (gd rfl) rfl rfl rfl (fr_F e_109_29 hFc10 rfl) (g_callv (X := _) (As := [.int (Int32.ofInt 4), .int u_109_29]) (r := []) (b := A 109) (q := 109) 122 (gd rfl) rfl rfl rfl rfl rfl (ww_o rfl) (Nat.le_of_ble_eq_true rfl) (Nat.zero_le _) (Nat.zero_le _) (k_298 (by omega) hIc10 (in_w 1 5 (in_c 4 rfl) rfl)) (fun e u h => h) (fun v u h => ?_))))
            obtain ⟨s119, hI119, hF119, n119, rfl, rfl⟩ := h
            obtain ⟨z119a, e119⟩ : ∃ w, w = s119.2.2.1 109 23 := ⟨_, rfl⟩
            have i119a := inv_F hI119 0 9 rfl e119
            rw [← (show z119a = s119.2.2.1 109 23 from e119)] at n119
            show GG _ _ _ _ _ _ _ _ [] _ _ _
            have n122 : (w10_109_27).toInt ≤ (u_109_22).toInt := by exact (have a0 := in_u i107; have a1 := in_u ro_109_29; have a2 := in_u ro_109_22; have a3 := in_u ((inv_F hIc10 0 1000 rfl v10_109_27)); have a4 := in_u j10_2; have a5 := in_u i119a; have a6 := in_u i100; have a7 := t_sub e98 (inv_F hIc10 0 1000 rfl v10_109_27) j10_2 rfl; by omega)
            have n122a : (s119.2.2.1 109 27).toInt ≤ (s119.2.2.1 109 22).toInt := by have b0 : w10_109_27 = s119.2.2.1 109 27 := fr_F (v10_109_27) hF119 rfl; have b1 : u_109_22 = s119.2.2.1 109 22 := fr_F (fr_F e_109_22 hFc10 rfl) hF119 rfl; rw [← b0, ← b1]; exact n122
            have n122b : (u_109_27).toInt + 1 ≤ (w10_109_27).toInt := by exact (have a0 := in_u i107; have a1 := in_u ro_109_29; have a2 := in_u ro_109_22; have a3 := in_u ((inv_F hIc10 0 1000 rfl v10_109_27)); have a4 := in_u j10_2; have a5 := in_u i119a; have a6 := in_u i100; have a7 := t_sub e98 (inv_F hIc10 0 1000 rfl v10_109_27) j10_2 rfl; by omega)
            have n122c : (s.2.2.1 109 27).toInt + 1 ≤ (s119.2.2.1 109 27).toInt := by have b0 : w10_109_27 = s119.2.2.1 109 27 := fr_F (v10_109_27) hF119 rfl; first | (rw [← b0, ← e_109_27]; exact n122b) | (rw [← b0]; exact n122b)
            exact g_return (gd rfl) rfl (hP _ _ ⟨s119, hI119, (fr_tr rfl hFc10 hF119), n122a, n122c, rfl, rfl⟩)
          · skip
            have i107 := r_eq1 7 7 c107 h1 (in_c 7 rfl) rfl
            refine g_iconst 3 111 (gd rfl) rfl rfl (g_goto 115 (gd rfl) rfl (g_aload_n 116 (gd rfl) rfl rfl (g_getIv (y := u_109_29) 119 (gd rfl) rfl rfl rfl (fr_F e_109_29 hFc10 rfl) (g_callv (X := _) (As := [.int (Int32.ofInt 3), .int u_109_29]) (r := []) (b := A 109) (q := 109) 122 (gd rfl) rfl rfl rfl rfl rfl (ww_o rfl) (Nat.le_of_ble_eq_true rfl) (Nat.zero_le _) (Nat.zero_le _) (k_298 (by omega) hIc10 (in_w 1 5 (in_c 3 rfl) rfl)) (fun e u h => h) (fun v u h => ?_)))))
            obtain ⟨s119, hI119, hF119, n119, rfl, rfl⟩ := h
            obtain ⟨z119a, e119⟩ : ∃ w, w = s119.2.2.1 109 23 := ⟨_, rfl⟩
            have i119a := inv_F hI119 0 9 rfl e119
            rw [← (show z119a = s119.2.2.1 109 23 from e119)] at n119
            show GG _ _ _ _ _ _ _ _ [] _ _ _
            have n122 : (w10_109_27).toInt ≤ (u_109_22).toInt := by exact (have a0 := in_u i107; have a1 := in_u ro_109_29; have a2 := in_u ro_109_22; have a3 := in_u ((inv_F hIc10 0 1000 rfl v10_109_27)); have a4 := in_u j10_2; have a5 := in_u i119a; have a6 := in_u i100; have a7 := t_sub e98 (inv_F hIc10 0 1000 rfl v10_109_27) j10_2 rfl; by omega)
            have n122a : (s119.2.2.1 109 27).toInt ≤ (s119.2.2.1 109 22).toInt := by have b0 : w10_109_27 = s119.2.2.1 109 27 := fr_F (v10_109_27) hF119 rfl; have b1 : u_109_22 = s119.2.2.1 109 22 := fr_F (fr_F e_109_22 hFc10 rfl) hF119 rfl; rw [← b0, ← b1]; exact n122
            have n122b : (u_109_27).toInt + 1 ≤ (w10_109_27).toInt := by exact (have a0 := in_u i107; have a1 := in_u ro_109_29; have a2 := in_u ro_109_22; have a3 := in_u ((inv_F hIc10 0 1000 rfl v10_109_27)); have a4 := in_u j10_2; have a5 := in_u i119a; have a6 := in_u i100; have a7 := t_sub e98 (inv_F hIc10 0 1000 rfl v10_109_27) j10_2 rfl; by omega)
            have n122c : (s.2.2.1 109 27).toInt + 1 ≤ (s119.2.2.1 109 27).toInt := by have b0 : w10_109_27 = s119.2.2.1 109 27 := fr_F (v10_109_27) hF119 rfl; first | (rw [← b0, ← e_109_27]; exact n122b) | (rw [← b0]; exact n122b)
            exact g_return (gd rfl) rfl (hP _ _ ⟨s119, hI119, (fr_tr rfl hFc10 hF119), n122a, n122c, rfl, rfl⟩)
      · skip
        have i18 := r_lt1 0 999 c18 (inv_F hIc10 0 1000 rfl v10_109_27) ro_109_22 rfl
        have i18a := r_lt2 1 1000 c18 (inv_F hIc10 0 1000 rfl v10_109_27) ro_109_22 rfl
        refine g_aload_n 22 (gd rfl) rfl rfl (g_getA (q2 := 125) 25 (gd rfl) rfl rfl rfl rfl (g_aload_n 26 (gd rfl) rfl rfl (g_getIv (y := w10_109_27) 29 (gd rfl) rfl rfl rfl (v10_109_27) (g_iaload 30 (gd rfl) rfl (n := 1000) rfl (in_ix i18 rfl) (fun z29 e29 => ?_)))))
        have i29 := inv_I hIc10 (n := 1000) (t := 0) 0 126 rfl (in_ix i18 rfl) rfl e29
        have hd : w10_109_27.toInt = u_109_27.toInt → 48 ≤ (z29).toInt ∧ (z29).toInt ≤ 57 := (fun h => by rw [e29, Int32.toInt_inj.mp h, hFc10.1 125 rfl, e_109_27]; exact q_0)
        refine g_calls (As := [.int z29]) (r := []) 33 (gd rfl) rfl rfl rfl rfl rfl (Nat.le_of_ble_eq_true rfl) (mc := 0) (ms := 0) (Nat.zero_le _) (Nat.zero_le _) (P := fun v u => _) ?_ (fun v u h => h)
        intro po30 xx30 hp30 hx30
        refine g_enter2 (k := 297) (N := 300) (by omega) rfl (Nat.le_of_ble_eq_true rfl) (g_iload_n 1 (gd rfl) rfl rfl (g_bipush 48 3 (gd rfl) rfl rfl (g_cmp_lt 6 16 (gd rfl) rfl rfl (fun c30x3 => ?_) (fun c30x3 => ?_))))
        · skip
          have i30x3 := r_lt1 0 47 c30x3 i29 (in_c 48 rfl) rfl
          refine g_iconst 0 17 (gd rfl) rfl rfl ?_
          refine g_ireturn (gd rfl) rfl (nb01 (in_w 0 1 (in_c 0 rfl) rfl)) (hp30 _ _ ?_)
          show GG _ _ _ _ _ _ _ _ [.int (Int32.ofInt 0)] _ _ _
          refine g_if_eq 36 93 (gd rfl) rfl rfl (fun c33 => ?_) (fun c33 => ?_)
          · skip
            have hq93 : (u_109_27).toInt + 1 ≤ (w10_109_27).toInt := (by first | (exact (have a0 := in_u h1; have a1 := in_u ro_109_29; have a2 := in_u i18a; have a3 := in_u i18; have a4 := in_u j10_2; by omega)) | (have hi := i30x3; unfold In at hi; exact (have a0 := in_u h1; have a1 := in_u ro_109_29; have a2 := in_u i18a; have a3 := in_u i18; have a4 := in_u j10_2; by omega)) | (have hi := i30x9; unfold In at hi; exact (have a0 := in_u h1; have a1 := in_u ro_109_29; have a2 := in_u i18a; have a3 := in_u i18; have a4 := in_u j10_2; by omega)))
            refine g_aload_n 94 (gd rfl) rfl rfl (g_getIv (y := w10_109_27) 97 (gd rfl) rfl rfl rfl (v10_109_27) (g_iload_n 98 (gd rfl) rfl rfl (g_isub 99 (gd rfl) rfl (fun z98 e98 => have i98 := in_sub (-1000) 999 e98 i18 j10_2 rfl rfl; g_iload_n 100 (gd rfl) rfl rfl (g_cmp_le 103 122 (gd rfl) rfl rfl (fun c100 => ?_) (fun c100 => ?_))))))
            · skip
              have i100 := r_le1 (-1000) 7 c100 i98 h1 rfl
              have n122 : (w10_109_27).toInt ≤ (u_109_22).toInt := by exact (have a0 := in_u h1; have a1 := in_u ro_109_29; have a2 := in_u i18a; have a3 := in_u i18; have a4 := in_u j10_2; have a5 := in_u i100; have a6 := t_sub e98 i18 j10_2 rfl; by omega)
              have n122a : (sc10.2.2.1 109 27).toInt ≤ (sc10.2.2.1 109 22).toInt := by have b0 : w10_109_27 = sc10.2.2.1 109 27 := v10_109_27; have b1 : u_109_22 = sc10.2.2.1 109 22 := fr_F e_109_22 hFc10 rfl; rw [← b0, ← b1]; exact n122
              have n122b : (u_109_27).toInt + 1 ≤ (w10_109_27).toInt := by exact (have a0 := in_u h1; have a1 := in_u ro_109_29; have a2 := in_u i18a; have a3 := in_u i18; have a4 := in_u j10_2; have a5 := in_u i100; have a6 := t_sub e98 i18 j10_2 rfl; by omega)
              have n122c : (s.2.2.1 109 27).toInt + 1 ≤ (sc10.2.2.1 109 27).toInt := by have b0 : w10_109_27 = sc10.2.2.1 109 27 := v10_109_27; first | (rw [← b0, ← e_109_27]; exact n122b) | (rw [← b0]; exact n122b)
              exact g_return (gd rfl) rfl (hP _ _ ⟨sc10, hIc10, hFc10, n122a, n122c, rfl, rfl⟩)
            · skip
              have i100 := r_lt2 7 999 c100 h1 i98 rfl
              refine g_aload_n 104 (gd rfl) rfl rfl (g_iload_n 105 (gd rfl) rfl rfl (g_bipush 7 107 (gd rfl) rfl rfl (g_cmp_ne 110 114 (gd rfl) rfl rfl (fun c107 => ?_) (fun c107 => ?_))))
              · skip
                have i107 := r_ne1 6 6 c107 h1 (in_c 7 rfl) rfl
                refine g_iconst 4 115 (gd rfl) rfl rfl (g_aload_n 116 (gd rfl) rfl rfl (g_getIv (y := u_109_29) 119 (gd rfl) rfl rfl rfl (fr_F e_109_29 hFc10 rfl) (g_callv (X := _) (As := [.int (Int32.ofInt 4), .int u_109_29]) (r := []) (b := A 109) (q := 109) 122 (gd rfl) rfl rfl rfl rfl rfl (ww_o rfl) (Nat.le_of_ble_eq_true rfl) (Nat.zero_le _) (Nat.zero_le _) (k_298 (by omega) hIc10 (in_w 1 5 (in_c 4 rfl) rfl)) (fun e u h => h) (fun v u h => ?_))))
                obtain ⟨s119, hI119, hF119, n119, rfl, rfl⟩ := h
                obtain ⟨z119a, e119⟩ : ∃ w, w = s119.2.2.1 109 23 := ⟨_, rfl⟩
                have i119a := inv_F hI119 0 9 rfl e119
                rw [← (show z119a = s119.2.2.1 109 23 from e119)] at n119
                show GG _ _ _ _ _ _ _ _ [] _ _ _
                have n122 : (w10_109_27).toInt ≤ (u_109_22).toInt := by exact (have a0 := in_u i107; have a1 := in_u ro_109_29; have a2 := in_u i18a; have a3 := in_u i18; have a4 := in_u j10_2; have a5 := in_u i119a; have a6 := in_u i100; have a7 := t_sub e98 i18 j10_2 rfl; by omega)
                have n122a : (s119.2.2.1 109 27).toInt ≤ (s119.2.2.1 109 22).toInt := by have b0 : w10_109_27 = s119.2.2.1 109 27 := fr_F (v10_109_27) hF119 rfl; have b1 : u_109_22 = s119.2.2.1 109 22 := fr_F (fr_F e_109_22 hFc10 rfl) hF119 rfl; rw [← b0, ← b1]; exact n122
                have n122b : (u_109_27).toInt + 1 ≤ (w10_109_27).toInt := by exact (have a0 := in_u i107; have a1 := in_u ro_109_29; have a2 := in_u i18a; have a3 := in_u i18; have a4 := in_u j10_2; have a5 := in_u i119a; have a6 := in_u i100; have a7 := t_sub e98 i18 j10_2 rfl; by omega)
                have n122c : (s.2.2.1 109 27).toInt + 1 ≤ (s119.2.2.1 109 27).toInt := by have b0 : w10_109_27 = s119.2.2.1 109 27 := fr_F (v10_109_27) hF119 rfl; first | (rw [← b0, ← e_109_27]; exact n122b) | (rw [← b0]; exact n122b)
                exact g_return (gd rfl) rfl (hP _ _ ⟨s119, hI119, (fr_tr rfl hFc10 hF119), n122a, n122c, rfl, rfl⟩)
              · skip
                have i107 := r_eq1 7 7 c107 h1 (in_c 7 rfl) rfl
                refine g_iconst 3 111 (gd rfl) rfl rfl (g_goto 115 (gd rfl) rfl (g_aload_n 116 (gd rfl) rfl rfl (g_getIv (y := u_109_29) 119 (gd rfl) rfl rfl rfl (fr_F e_109_29 hFc10 rfl) (g_callv (X := _) (As := [.int (Int32.ofInt 3), .int u_109_29]) (r := []) (b := A 109) (q := 109) 122 (gd rfl) rfl rfl rfl rfl rfl (ww_o rfl) (Nat.le_of_ble_eq_true rfl) (Nat.zero_le _) (Nat.zero_le _) (k_298 (by omega) hIc10 (in_w 1 5 (in_c 3 rfl) rfl)) (fun e u h => h) (fun v u h => ?_)))))
                obtain ⟨s119, hI119, hF119, n119, rfl, rfl⟩ := h
                obtain ⟨z119a, e119⟩ : ∃ w, w = s119.2.2.1 109 23 := ⟨_, rfl⟩
                have i119a := inv_F hI119 0 9 rfl e119
                rw [← (show z119a = s119.2.2.1 109 23 from e119)] at n119
                show GG _ _ _ _ _ _ _ _ [] _ _ _
                have n122 : (w10_109_27).toInt ≤ (u_109_22).toInt := by exact (have a0 := in_u i107; have a1 := in_u ro_109_29; have a2 := in_u i18a; have a3 := in_u i18; have a4 := in_u j10_2; have a5 := in_u i119a; have a6 := in_u i100; have a7 := t_sub e98 i18 j10_2 rfl; by omega)
                have n122a : (s119.2.2.1 109 27).toInt ≤ (s119.2.2.1 109 22).toInt := by have b0 : w10_109_27 = s119.2.2.1 109 27 := fr_F (v10_109_27) hF119 rfl; have b1 : u_109_22 = s119.2.2.1 109 22 := fr_F (fr_F e_109_22 hFc10 rfl) hF119 rfl; rw [← b0, ← b1]; exact n122
                have n122b : (u_109_27).toInt + 1 ≤ (w10_109_27).toInt := by exact (have a0 := in_u i107; have a1 := in_u ro_109_29; have a2 := in_u i18a; have a3 := in_u i18; have a4 := in_u j10_2; have a5 := in_u i119a; have a6 := in_u i100; have a7 := t_sub e98 i18 j10_2 rfl; by omega)
                have n122c : (s.2.2.1 109 27).toInt + 1 ≤ (s119.2.2.1 109 27).toInt := by have b0 : w10_109_27 = s119.2.2.1 109 27 := fr_F (v10_109_27) hF119 rfl; first | (rw [← b0, ← e_109_27]; exact n122b) | (rw [← b0]; exact n122b)
                exact g_return (gd rfl) rfl (hP _ _ ⟨s119, hI119, (fr_tr rfl hFc10 hF119), n122a, n122c, rfl, rfl⟩)
          · skip
            exact zn_ne c33 (in_c 0 rfl) rfl
        · skip
          have i30x3 := r_le2 48 126 c30x3 (in_c 48 rfl) i29 rfl
          refine g_iload_n 7 (gd rfl) rfl rfl (g_bipush 57 9 (gd rfl) rfl rfl (g_cmp_gt 12 16 (gd rfl) rfl rfl (fun c30x9 => ?_) (fun c30x9 => ?_)))
          · skip
            have i30x9 := r_lt2 58 126 c30x9 (in_c 57 rfl) i30x3 rfl
            refine g_iconst 0 17 (gd rfl) rfl rfl ?_
            refine g_ireturn (gd rfl) rfl (nb01 (in_w 0 1 (in_c 0 rfl) rfl)) (hp30 _ _ ?_)
            show GG _ _ _ _ _ _ _ _ [.int (Int32.ofInt 0)] _ _ _
            refine g_if_eq 36 93 (gd rfl) rfl rfl (fun c33 => ?_) (fun c33 => ?_)
            · skip
              have hq93 : (u_109_27).toInt + 1 ≤ (w10_109_27).toInt := (by first | (exact (have a0 := in_u h1; have a1 := in_u ro_109_29; have a2 := in_u i18a; have a3 := in_u i18; have a4 := in_u j10_2; by omega)) | (have hi := i30x3; unfold In at hi; exact (have a0 := in_u h1; have a1 := in_u ro_109_29; have a2 := in_u i18a; have a3 := in_u i18; have a4 := in_u j10_2; by omega)) | (have hi := i30x9; unfold In at hi; exact (have a0 := in_u h1; have a1 := in_u ro_109_29; have a2 := in_u i18a; have a3 := in_u i18; have a4 := in_u j10_2; by omega)))
              refine g_aload_n 94 (gd rfl) rfl rfl (g_getIv (y := w10_109_27) 97 (gd rfl) rfl rfl rfl (v10_109_27) (g_iload_n 98 (gd rfl) rfl rfl (g_isub 99 (gd rfl) rfl (fun z98 e98 => have i98 := in_sub (-1000) 999 e98 i18 j10_2 rfl rfl; g_iload_n 100 (gd rfl) rfl rfl (g_cmp_le 103 122 (gd rfl) rfl rfl (fun c100 => ?_) (fun c100 => ?_))))))
              · skip
                have i100 := r_le1 (-1000) 7 c100 i98 h1 rfl
                have n122 : (w10_109_27).toInt ≤ (u_109_22).toInt := by exact (have a0 := in_u h1; have a1 := in_u ro_109_29; have a2 := in_u i18a; have a3 := in_u i18; have a4 := in_u j10_2; have a5 := in_u i100; have a6 := t_sub e98 i18 j10_2 rfl; by omega)
                have n122a : (sc10.2.2.1 109 27).toInt ≤ (sc10.2.2.1 109 22).toInt := by have b0 : w10_109_27 = sc10.2.2.1 109 27 := v10_109_27; have b1 : u_109_22 = sc10.2.2.1 109 22 := fr_F e_109_22 hFc10 rfl; rw [← b0, ← b1]; exact n122
                have n122b : (u_109_27).toInt + 1 ≤ (w10_109_27).toInt := by exact (have a0 := in_u h1; have a1 := in_u ro_109_29; have a2 := in_u i18a; have a3 := in_u i18; have a4 := in_u j10_2; have a5 := in_u i100; have a6 := t_sub e98 i18 j10_2 rfl; by omega)
                have n122c : (s.2.2.1 109 27).toInt + 1 ≤ (sc10.2.2.1 109 27).toInt := by have b0 : w10_109_27 = sc10.2.2.1 109 27 := v10_109_27; first | (rw [← b0, ← e_109_27]; exact n122b) | (rw [← b0]; exact n122b)
                exact g_return (gd rfl) rfl (hP _ _ ⟨sc10, hIc10, hFc10, n122a, n122c, rfl, rfl⟩)
              · skip
                have i100 := r_lt2 7 999 c100 h1 i98 rfl
                refine g_aload_n 104 (gd rfl) rfl rfl (g_iload_n 105 (gd rfl) rfl rfl (g_bipush 7 107 (gd rfl) rfl rfl (g_cmp_ne 110 114 (gd rfl) rfl rfl (fun c107 => ?_) (fun c107 => ?_))))
                · skip
                  have i107 := r_ne1 6 6 c107 h1 (in_c 7 rfl) rfl
                  refine g_iconst 4 115 (gd rfl) rfl rfl (g_aload_n 116 (gd rfl) rfl rfl (g_getIv (y := u_109_29) 119 (gd rfl) rfl rfl rfl (fr_F e_109_29 hFc10 rfl) (g_callv (X := _) (As := [.int (Int32.ofInt 4), .int u_109_29]) (r := []) (b := A 109) (q := 109) 122 (gd rfl) rfl rfl rfl rfl rfl (ww_o rfl) (Nat.le_of_ble_eq_true rfl) (Nat.zero_le _) (Nat.zero_le _) (k_298 (by omega) hIc10 (in_w 1 5 (in_c 4 rfl) rfl)) (fun e u h => h) (fun v u h => ?_))))
                  obtain ⟨s119, hI119, hF119, n119, rfl, rfl⟩ := h
                  obtain ⟨z119a, e119⟩ : ∃ w, w = s119.2.2.1 109 23 := ⟨_, rfl⟩
                  have i119a := inv_F hI119 0 9 rfl e119
                  rw [← (show z119a = s119.2.2.1 109 23 from e119)] at n119
                  show GG _ _ _ _ _ _ _ _ [] _ _ _
                  have n122 : (w10_109_27).toInt ≤ (u_109_22).toInt := by exact (have a0 := in_u i107; have a1 := in_u ro_109_29; have a2 := in_u i18a; have a3 := in_u i18; have a4 := in_u j10_2; have a5 := in_u i119a; have a6 := in_u i100; have a7 := t_sub e98 i18 j10_2 rfl; by omega)
                  have n122a : (s119.2.2.1 109 27).toInt ≤ (s119.2.2.1 109 22).toInt := by have b0 : w10_109_27 = s119.2.2.1 109 27 := fr_F (v10_109_27) hF119 rfl; have b1 : u_109_22 = s119.2.2.1 109 22 := fr_F (fr_F e_109_22 hFc10 rfl) hF119 rfl; rw [← b0, ← b1]; exact n122
                  have n122b : (u_109_27).toInt + 1 ≤ (w10_109_27).toInt := by exact (have a0 := in_u i107; have a1 := in_u ro_109_29; have a2 := in_u i18a; have a3 := in_u i18; have a4 := in_u j10_2; have a5 := in_u i119a; have a6 := in_u i100; have a7 := t_sub e98 i18 j10_2 rfl; by omega)
                  have n122c : (s.2.2.1 109 27).toInt + 1 ≤ (s119.2.2.1 109 27).toInt := by have b0 : w10_109_27 = s119.2.2.1 109 27 := fr_F (v10_109_27) hF119 rfl; first | (rw [← b0, ← e_109_27]; exact n122b) | (rw [← b0]; exact n122b)
                  exact g_return (gd rfl) rfl (hP _ _ ⟨s119, hI119, (fr_tr rfl hFc10 hF119), n122a, n122c, rfl, rfl⟩)
                · skip
                  have i107 := r_eq1 7 7 c107 h1 (in_c 7 rfl) rfl
                  refine g_iconst 3 111 (gd rfl) rfl rfl (g_goto 115 (gd rfl) rfl (g_aload_n 116 (gd rfl) rfl rfl (g_getIv (y := u_109_29) 119 (gd rfl) rfl rfl rfl (fr_F e_109_29 hFc10 rfl) (g_callv (X := _) (As := [.int (Int32.ofInt 3), .int u_109_29]) (r := []) (b := A 109) (q := 109) 122 (gd rfl) rfl rfl rfl rfl rfl (ww_o rfl) (Nat.le_of_ble_eq_true rfl) (Nat.zero_le _) (Nat.zero_le _) (k_298 (by omega) hIc10 (in_w 1 5 (in_c 3 rfl) rfl)) (fun e u h => h) (fun v u h => ?_)))))
                  obtain ⟨s119, hI119, hF119, n119, rfl, rfl⟩ := h
                  obtain ⟨z119a, e119⟩ : ∃ w, w = s119.2.2.1 109 23 := ⟨_, rfl⟩
                  have i119a := inv_F hI119 0 9 rfl e119
                  rw [← (show z119a = s119.2.2.1 109 23 from e119)] at n119
                  show GG _ _ _ _ _ _ _ _ [] _ _ _
                  have n122 : (w10_109_27).toInt ≤ (u_109_22).toInt := by exact (have a0 := in_u i107; have a1 := in_u ro_109_29; have a2 := in_u i18a; have a3 := in_u i18; have a4 := in_u j10_2; have a5 := in_u i119a; have a6 := in_u i100; have a7 := t_sub e98 i18 j10_2 rfl; by omega)
                  have n122a : (s119.2.2.1 109 27).toInt ≤ (s119.2.2.1 109 22).toInt := by have b0 : w10_109_27 = s119.2.2.1 109 27 := fr_F (v10_109_27) hF119 rfl; have b1 : u_109_22 = s119.2.2.1 109 22 := fr_F (fr_F e_109_22 hFc10 rfl) hF119 rfl; rw [← b0, ← b1]; exact n122
                  have n122b : (u_109_27).toInt + 1 ≤ (w10_109_27).toInt := by exact (have a0 := in_u i107; have a1 := in_u ro_109_29; have a2 := in_u i18a; have a3 := in_u i18; have a4 := in_u j10_2; have a5 := in_u i119a; have a6 := in_u i100; have a7 := t_sub e98 i18 j10_2 rfl; by omega)
                  have n122c : (s.2.2.1 109 27).toInt + 1 ≤ (s119.2.2.1 109 27).toInt := by have b0 : w10_109_27 = s119.2.2.1 109 27 := fr_F (v10_109_27) hF119 rfl; first | (rw [← b0, ← e_109_27]; exact n122b) | (rw [← b0]; exact n122b)
                  exact g_return (gd rfl) rfl (hP _ _ ⟨s119, hI119, (fr_tr rfl hFc10 hF119), n122a, n122c, rfl, rfl⟩)
            · skip
              exact zn_ne c33 (in_c 0 rfl) rfl
          · skip
            have i30x9 := r_le1 48 57 c30x9 i30x3 (in_c 57 rfl) rfl
            refine g_iconst 1 13 (gd rfl) rfl rfl (g_goto 17 (gd rfl) rfl ?_)
            refine g_ireturn (gd rfl) rfl (nb01 (in_w 0 1 (in_c 1 rfl) rfl)) (hp30 _ _ ?_)
            show GG _ _ _ _ _ _ _ _ [.int (Int32.ofInt 1)] _ _ _
            refine g_if_eq 36 93 (gd rfl) rfl rfl (fun c33 => ?_) (fun c33 => ?_)
            · skip
              exact zn_eq c33 (in_c 1 rfl) rfl
            · skip
              refine g_aload_n 37 (gd rfl) rfl rfl (g_aload_n 38 (gd rfl) rfl rfl (g_getIv (y := w10_109_27) 41 (gd rfl) rfl rfl rfl (v10_109_27) (g_iload_n 42 (gd rfl) rfl rfl (g_isub 43 (gd rfl) rfl (fun z42 e42 => have i42 := in_sub (-1000) 999 e42 i18 j10_2 rfl rfl; g_iload_n 44 (gd rfl) rfl rfl (g_cmp_ge 47 73 (gd rfl) rfl rfl (fun c44 => ?_) (fun c44 => ?_)))))))
              · skip
                have i44 := r_le2 6 999 c44 h1 i42 rfl
                refine g_aload_n 74 (gd rfl) rfl rfl (g_getL 77 (gd rfl) rfl rfl rfl (fun z74 e74 => g_putL 80 (gd rfl) rfl rfl rfl rfl (have hI77 := inv_sG (q := 109) (j := 31) (x := z74) hIc10 rfl (l_rng z74); g_aload_n 81 (gd rfl) rfl rfl (g_dup 82 (gd rfl) rfl rfl (g_getIv (y := w10_109_27) 85 (gd rfl) rfl rfl rfl (sG_F (v10_109_27)) (g_iconst 1 86 (gd rfl) rfl rfl (g_iadd 87 (gd rfl) rfl (fun z86 e86 => have i86 := in_add 1 1000 e86 i18 (in_c 1 rfl) rfl rfl; g_putI 90 (gd rfl) rfl rfl rfl rfl (have hI87 := inv_sF (q := 109) (j := 27) hI77 rfl (in_w 0 1000 i86 rfl); g_goto 10 (gd rfl) rfl ?_)))))))))
                have v10 : z86 = (sF (sG sc10 109 31 z74) 109 27 z86).2.2.1 109 27 := sF_get
                have n10 : (z86).toInt ≤ (u_109_22).toInt := by exact (have a0 := in_u h1; have a1 := in_u ro_109_29; have a2 := in_u i18a; have a3 := in_u i18; have a4 := in_u j10_2; have a5 := in_u i86; have a6 := t_add e86 i18 (in_c 1 rfl) rfl; have a7 := in_u ((in_c 1 rfl)); have a8 := in_u i44; have a9 := t_sub e42 i18 j10_2 rfl; by omega)
                have n10a : (u_109_27).toInt ≤ (z86).toInt := by exact (have a0 := in_u h1; have a1 := in_u ro_109_29; have a2 := in_u i18a; have a3 := in_u i18; have a4 := in_u j10_2; have a5 := in_u i86; have a6 := t_add e86 i18 (in_c 1 rfl) rfl; have a7 := in_u ((in_c 1 rfl)); have a8 := in_u i44; have a9 := t_sub e42 i18 j10_2 rfl; by omega)
                have m10 : (u_109_22).toInt - (z86).toInt < ((k10 : Nat) : Int) := by exact (have a0 := in_u h1; have a1 := in_u ro_109_29; have a2 := in_u i18a; have a3 := in_u i18; have a4 := in_u j10_2; have a5 := in_u i86; have a6 := t_add e86 i18 (in_c 1 rfl) rfl; have a7 := in_u ((in_c 1 rfl)); have a8 := in_u i44; have a9 := t_sub e42 i18 j10_2 rfl; by omega)
                exact gg_w (by omega) (gg_f (gf_cons rfl (gf_cons rfl (gf_cons rfl gf_nil))) (ih10  (sF (sG sc10 109 31 z74) 109 27 z86) y10_2 z86 hI87 (fr_sF rfl (fr_sG rfl hFc10)) (in_w 0 1000 j10_2 rfl) v10 n10 n10a m10))
              · skip
                have i44 := r_lt1 (-1000) 6 c44 i42 h1 rfl
                refine g_ldc2_w 10 50 (gd rfl) rfl rfl (g_aload_n 51 (gd rfl) rfl rfl (g_getL 54 (gd rfl) rfl rfl rfl (fun z51 e51 => g_lmul 55 (gd rfl) rfl (fun z54 e54 => g_aload_n 56 (gd rfl) rfl rfl (g_getA (q2 := 125) 59 (gd rfl) rfl rfl rfl rfl (g_aload_n 60 (gd rfl) rfl rfl (g_getIv (y := w10_109_27) 63 (gd rfl) rfl rfl rfl (v10_109_27) (g_ialoadv (y := z29) 64 (gd rfl) rfl (n := 1000) rfl (in_ix i18 rfl) (e29) (g_i2l 65 (gd rfl) rfl (fun z64 e64 => have i64 := l_i e64 i30x9; g_ladd 66 (gd rfl) rfl (fun z65 e65 => g_ldc2_w 48 69 (gd rfl) rfl rfl (g_lsub 70 (gd rfl) rfl (fun z69 e69 => g_goto 77 (gd rfl) rfl (g_putL 80 (gd rfl) rfl rfl rfl rfl (have hI77 := inv_sG (q := 109) (j := 31) (x := z69) hIc10 rfl (l_rng z69); g_aload_n 81 (gd rfl) rfl rfl (g_dup 82 (gd rfl) rfl rfl (g_getIv (y := w10_109_27) 85 (gd rfl) rfl rfl rfl (sG_F (v10_109_27)) (g_iconst 1 86 (gd rfl) rfl rfl (g_iadd 87 (gd rfl) rfl (fun z86 e86 => have i86 := in_add 1 1000 e86 i18 (in_c 1 rfl) rfl rfl; g_putI 90 (gd rfl) rfl rfl rfl rfl (have hI87 := inv_sF (q := 109) (j := 27) hI77 rfl (in_w 0 1000 i86 rfl); g_goto 10 (gd rfl) rfl ?_)))))))))))))))))))))
                have v10 : z86 = (sF (sG sc10 109 31 z69) 109 27 z86).2.2.1 109 27 := sF_get
                have n10 : (z86).toInt ≤ (u_109_22).toInt := by exact (have a0 := in_u h1; have a1 := in_u ro_109_29; have a2 := in_u i18a; have a3 := in_u i18; have a4 := in_u j10_2; have a5 := in_u i86; have a6 := t_add e86 i18 (in_c 1 rfl) rfl; have a7 := in_u ((in_c 1 rfl)); have a8 := tx_i2l e64; have a9 := in_u i30x9; have a10 := in_u i44; have a11 := t_sub e42 i18 j10_2 rfl; by omega)
                have n10a : (u_109_27).toInt ≤ (z86).toInt := by exact (have a0 := in_u h1; have a1 := in_u ro_109_29; have a2 := in_u i18a; have a3 := in_u i18; have a4 := in_u j10_2; have a5 := in_u i86; have a6 := t_add e86 i18 (in_c 1 rfl) rfl; have a7 := in_u ((in_c 1 rfl)); have a8 := tx_i2l e64; have a9 := in_u i30x9; have a10 := in_u i44; have a11 := t_sub e42 i18 j10_2 rfl; by omega)
                have m10 : (u_109_22).toInt - (z86).toInt < ((k10 : Nat) : Int) := by exact (have a0 := in_u h1; have a1 := in_u ro_109_29; have a2 := in_u i18a; have a3 := in_u i18; have a4 := in_u j10_2; have a5 := in_u i86; have a6 := t_add e86 i18 (in_c 1 rfl) rfl; have a7 := in_u ((in_c 1 rfl)); have a8 := tx_i2l e64; have a9 := in_u i30x9; have a10 := in_u i44; have a11 := t_sub e42 i18 j10_2 rfl; by omega)
                exact gg_w (by omega) (gg_f (gf_cons rfl (gf_cons rfl (gf_cons rfl gf_nil))) (ih10  (sF (sG sc10 109 31 z69) 109 27 z86) y10_2 z86 hI87 (fr_sF rfl (fr_sG rfl hFc10)) (in_w 0 1000 j10_2 rfl) v10 n10 n10a m10))
  refine g_enter2 (k := 300) (N := 901801) (by omega) rfl (Nat.le_of_ble_eq_true rfl) (g_aload_n 1 (gd rfl) rfl rfl (g_getIv (y := u_109_27) 4 (gd rfl) rfl rfl rfl (e_109_27) (g_istore_n 5 (gd rfl) rfl (Nat.le_of_ble_eq_true rfl) (g_aload_n 6 (gd rfl) rfl rfl (g_lconst 0 7 (gd rfl) rfl rfl (g_putL 10 (gd rfl) rfl rfl rfl rfl ?_))))))
  have hI7 := inv_sG (q := 109) (j := 31) (x := (Int64.ofInt 0)) hI rfl (l_rng (Int64.ofInt 0))
  have v10 : u_109_27 = (sG s 109 31 (Int64.ofInt 0)).2.2.1 109 27 := sG_F (e_109_27)
  have n10 : (u_109_27).toInt ≤ (u_109_22).toInt := by exact (have a0 := in_u ro_109_29; have a1 := in_u ((inv_F hI 0 1000 rfl e_109_22)); have a2 := in_u ((inv_F hI 0 1000 rfl e_109_27)); have a3 := in_u h1; by omega)
  have n10a : (u_109_27).toInt ≤ (u_109_27).toInt := by exact (have a0 := in_u ro_109_29; have a1 := in_u ((inv_F hI 0 1000 rfl e_109_22)); have a2 := in_u ((inv_F hI 0 1000 rfl e_109_27)); have a3 := in_u h1; by omega)
  have m10 : (u_109_22).toInt - (u_109_27).toInt < ((1001 : Nat) : Int) := by exact (have a0 := in_u ro_109_29; have a1 := in_u ((inv_F hI 0 1000 rfl e_109_22)); have a2 := in_u ((inv_F hI 0 1000 rfl e_109_27)); have a3 := in_u h1; by omega)
  exact gg_w (by omega) (gg_f (gf_cons rfl (gf_cons rfl (gf_cons rfl gf_nil))) (ct10 1001 (sG s 109 31 (Int64.ofInt 0)) u_109_27 u_109_27 hI7 (fr_sG rfl fr_rf) (in_w 0 1000 (inv_F hI 0 1000 rfl e_109_27) rfl) v10 n10 n10a m10))

def fm_312 : FM := ([131], [130], [], [])
/-- GraphHouseModel.toGoal -/
theorem k_312 {Z : AmZ} {A : Nat → Nat} {s : GS} {ex : va_W} {d : Nat} {X : AmX} {x1 : Int32} {x2 : Int32} (hd : 4 ≤ d) (hI : Inv s) (h1 : In x1 0 31) (q_0 : BTS s (x1).toNatClampNeg (x2)) : GC Z d 312 [.ref (A 109), .int x1, .int x2] (WW Z A s ++ ex) 0 0 (fun v u => ∃ t : GS, Inv t ∧ Fr fm_312 s t ∧ ∃ z : Int32, v = some (.int z) ∧ u = WW Z A t ++ ex ∧ In z 0 1 ∧ ((z).toInt ≠ 0 → WFN t (x1).toNatClampNeg (x2))) X := by
  intro post xp hP hX
  obtain ⟨u_109_19, e_109_19⟩ : ∃ w, w = s.2.2.1 109 19 := ⟨_, rfl⟩
  have ro_109_19 := inv_F hI 0 160 rfl e_109_19
  obtain ⟨u_109_20, e_109_20⟩ : ∃ w, w = s.2.2.1 109 20 := ⟨_, rfl⟩
  have ro_109_20 := inv_F hI 0 32 rfl e_109_20
  have ct234 : ∀ (sc234 : GS) (y234_3 : Int32) (y234_4 : Int32), Inv sc234 → Fr fm_312 s sc234 → (In y234_3 0 1) → (In y234_4 0 33) → ((y234_3).toInt = 0 → TGI s (x1).toNatClampNeg (x2) 10000000000 sc234 ∧ TCL s (x2) sc234 160) → GG Z (d - 1) 312 post (gx xp) (901) 234 (fun j => xlook j [(0, .ref (A 109)), (1, .int x1), (2, .int x2), (3, .int y234_3), (4, .int y234_4)]) [] (WW Z A sc234 ++ ex) 0 0 := by
    intro sc234 y234_3 y234_4 hIc234 hFc234 j234_3 j234_4 g234_0
    refine g_iload_n 235 (gd rfl) rfl rfl (g_if_eq 238 240 (gd rfl) rfl rfl (fun c235 => ?_) (fun c235 => ?_))
    · skip
      have i235 := z_eq 0 0 c235 j234_3 rfl
      refine g_aload_n 241 (gd rfl) rfl rfl (g_iload_n 242 (gd rfl) rfl rfl (g_iload_n 243 (gd rfl) rfl rfl ?_))
      have p243 : FWP sc234 (x1).toNatClampNeg (x2) := by exact fwp_i hI (hFc234.1 112 rfl) (hFc234.1 113 rfl) (hFc234.1 114 rfl) (hFc234.1 115 rfl) (hFc234.2.2.1 109 19 rfl) (hFc234.2.2.1 109 20 rfl) q_0 (g234_0 c235).1 (by omega) (g234_0 c235).2
      refine g_callv (X := _) (As := [.int x1, .int x2]) (r := []) (b := A 109) (q := 109) 246 (gd rfl) rfl rfl rfl rfl rfl (ww_o rfl) (Nat.le_of_ble_eq_true rfl) (Nat.zero_le _) (Nat.zero_le _) (k_313 (by omega) hIc234 (in_w 0 31 h1 rfl) p243) (fun e u h => h) (fun v u h => ?_)
      obtain ⟨s243, hI243, hF243, rfl, rfl, p243a⟩ := h
      show GG _ _ _ _ _ _ _ _ [] _ _ _
      refine g_iconst 1 247 (gd rfl) rfl rfl ?_
      have n247 : ((Int32.ofInt 1)).toInt ≠ 0 → WFN s243 (x1).toNatClampNeg (x2) := by exact fun _ => p243a
      exact g_ireturn (gd rfl) rfl (nb01 (in_w 0 1 (in_c 1 rfl) rfl)) (hP _ _ ⟨s243, hI243, (fr_tr rfl hFc234 hF243), (Int32.ofInt 1), rfl, rfl, in_w 0 1 (in_c 1 rfl) rfl, n247⟩)
    · skip
      have i235 := z_ne 1 1 c235 j234_3 rfl
      refine g_iconst 0 239 (gd rfl) rfl rfl ?_
      have n239 : ((Int32.ofInt 0)).toInt ≠ 0 → WFN sc234 (x1).toNatClampNeg (x2) := by exact fun hz => absurd (by decide) hz
      exact g_ireturn (gd rfl) rfl (nb01 (in_w 0 1 (in_c 0 rfl) rfl)) (hP _ _ ⟨sc234, hIc234, hFc234, (Int32.ofInt 0), rfl, rfl, in_w 0 1 (in_c 0 rfl) rfl, n239⟩)
  have ct44 : ∀ (k44 : Nat) (sc44 : GS) (y44_3 : Int32) (y44_4 : Int32), Inv sc44 → Fr fm_312 s sc44 → (In y44_3 0 1) → (In y44_4 0 33) → (TGI s (x1).toNatClampNeg (x2) (160000000 * (y44_4).toInt) sc44) → ((y44_3).toInt = 0 → TCL s (x2) sc44 160) → 33 - (y44_4).toInt < (k44 : Int) → GG Z (d - 1) 312 post (gx xp) (902 + k44 * 812251) 44 (fun j => xlook j [(0, .ref (A 109)), (1, .int x1), (2, .int x2), (3, .int y44_3), (4, .int y44_4)]) [] (WW Z A sc44 ++ ex) 0 0 := by
    intro k44
    induction k44 with
    | zero => intro sc44 y44_3 y44_4 hIc44 hFc44 j44_3 j44_4 g44_0 g44_1 mm44; exact m_no mm44 j44_4 rfl
    | succ k44 ih44 =>
      intro sc44 y44_3 y44_4 hIc44 hFc44 j44_3 j44_4 g44_0 g44_1 mm44
      refine gg_w (M := 902 + k44 * 812251 + 812251) (by omega) ?_
      have ct65 : ∀ (k65 : Nat) (sc65 : GS) (y65_3 : Int32) (y65_5 : Int32), Inv sc65 → Fr fm_312 s sc65 → (In y65_3 0 1) → (In y44_4 0 32) → (In y65_5 0 448) → ((u_109_19).toInt ≤ (y65_5).toInt) → ((y65_5).toInt ≤ (u_109_19).toInt + 160) → (TGI s (x1).toNatClampNeg (x2) (160000000 * (y44_4).toInt + 1000000 * ((y65_5).toInt - u_109_19.toInt)) sc65) → ((y65_3).toInt = 0 → TCL s (x2) sc65 ((y65_5).toInt - u_109_19.toInt).toNat) → 448 - (y65_5).toInt < (k65 : Int) → GG Z (d - 1) 312 post (gx xp) (902 + k44 * 812251 + 1 + k65 * 1801) 65 (fun j => xlook j [(0, .ref (A 109)), (1, .int x1), (2, .int x2), (3, .int y65_3), (4, .int y44_4), (5, .int y65_5)]) [] (WW Z A sc65 ++ ex) 0 0 := by
        intro k65
        induction k65 with
        | zero => intro sc65 y65_3 y65_5 hIc65 hFc65 j65_3 j65_4 j65_5 n65_0 n65_1 g65_0 g65_1 mm65; exact m_no mm65 j65_5 rfl
        | succ k65 ih65 =>
          intro sc65 y65_3 y65_5 hIc65 hFc65 j65_3 j65_4 j65_5 n65_0 n65_1 g65_0 g65_1 mm65
          refine gg_w (M := 902 + k44 * 812251 + 1 + k65 * 1801 + 1801) (by omega) ?_
          have ct222 : ∀ (sc222 : GS) (y222_3 : Int32), Inv sc222 → Fr fm_312 s sc222 → (In y222_3 0 1) → (In y65_5 0 400) → ((u_109_19).toInt ≤ (y65_5).toInt) → ((y65_5).toInt < (u_109_19).toInt + 160) → (TGI s (x1).toNatClampNeg (x2) ((160000000 * (y44_4).toInt + 1000000 * ((y65_5).toInt - u_109_19.toInt)) + 1000000) sc222) → ((y222_3).toInt = 0 → TCL s (x2) sc222 (((y65_5).toInt - u_109_19.toInt).toNat + 1)) → GG Z (d - 1) 312 post (gx xp) (902 + k44 * 812251 + 1 + k65 * 1801 + 901) 222 (fun j => xlook j [(0, .ref (A 109)), (1, .int x1), (2, .int x2), (3, .int y222_3), (4, .int y44_4), (5, .int y65_5)]) [] (WW Z A sc222 ++ ex) 0 0 := by
            intro sc222 y222_3 hIc222 hFc222 j222_3 j222_5 n222_0 n222_1 g222_0 g222_1
            refine g_iinc 225 (gd rfl) rfl rfl (Nat.le_of_ble_eq_true rfl) (fun z222 e222 => have i222 := in_add 1 401 e222 j222_5 (in_c 1 rfl) rfl rfl; g_goto 65 (gd rfl) rfl ?_)
            have n65 : (u_109_19).toInt ≤ (z222).toInt := by exact (have a0 := in_u j222_5; have a1 := in_u j65_4; have a2 := in_u h1; have a3 := in_u ro_109_20; have a4 := in_u ro_109_19; have a5 := in_u j222_3; have a6 := in_u i222; have a7 := t_add e222 j222_5 (in_c 1 rfl) rfl; have a8 := in_u ((in_c 1 rfl)); by omega)
            have n65a : (z222).toInt ≤ (u_109_19).toInt + 160 := by exact (have a0 := in_u j222_5; have a1 := in_u j65_4; have a2 := in_u h1; have a3 := in_u ro_109_20; have a4 := in_u ro_109_19; have a5 := in_u j222_3; have a6 := in_u i222; have a7 := t_add e222 j222_5 (in_c 1 rfl) rfl; have a8 := in_u ((in_c 1 rfl)); by omega)
            have n65b : TGI s (x1).toNatClampNeg (x2) (160000000 * (y44_4).toInt + 1000000 * ((z222).toInt - u_109_19.toInt)) sc222 := by exact tgi_w g222_0 (by exact (have a0 := in_u j222_5; have a1 := in_u j65_4; have a2 := in_u h1; have a3 := in_u ro_109_20; have a4 := in_u ro_109_19; have a5 := in_u j222_3; have a6 := in_u i222; have a7 := t_add e222 j222_5 (in_c 1 rfl) rfl; have a8 := in_u ((in_c 1 rfl)); by omega))
            have n65c : (y222_3).toInt = 0 → TCL s (x2) sc222 ((z222).toInt - u_109_19.toInt).toNat := by (intro hz; rw [show (z222.toInt - u_109_19.toInt).toNat = (y65_5.toInt - u_109_19.toInt).toNat + 1 from (by exact (have a0 := in_u j222_5; have a1 := in_u j65_4; have a2 := in_u h1; have a3 := in_u ro_109_20; have a4 := in_u ro_109_19; have a5 := in_u j222_3; have a6 := in_u i222; have a7 := t_add e222 j222_5 (in_c 1 rfl) rfl; have a8 := in_u ((in_c 1 rfl)); by omega))]; exact g222_1 hz)
            exact gg_w (by omega) (gg_f (gf_cons rfl (gf_cons rfl (gf_cons rfl (gf_cons rfl (gf_cons rfl (gf_cons rfl gf_nil)))))) (ih65 sc222 y222_3 z222 hIc222 hFc222 (in_w 0 1 j222_3 rfl) (in_w 0 32 j65_4 rfl) (in_w 0 448 i222 rfl) n65 n65a n65b n65c (m_up mm65 (t_add e222 j222_5 (in_c 1 rfl) rfl) (in_w 1 1 (in_c 1 rfl) rfl))))
          refine g_iload 67 (gd rfl) rfl rfl (g_aload_n 68 (gd rfl) rfl rfl (g_getIv (y := u_109_19) 71 (gd rfl) rfl rfl rfl (fr_F e_109_19 hFc65 rfl) (g_sipush 160 74 (gd rfl) rfl rfl (g_iadd 75 (gd rfl) rfl (fun z74 e74 => have i74 := in_add 160 320 e74 ro_109_19 (in_c 160 rfl) rfl rfl; g_cmp_ge 78 228 (gd rfl) rfl rfl (fun c75 => ?_) (fun c75 => ?_))))))
          · skip
            have i75 := r_le2 160 448 c75 i74 j65_5 rfl
            refine g_iinc 231 (gd rfl) rfl rfl (Nat.le_of_ble_eq_true rfl) (fun z228 e228 => have i228 := in_add 1 33 e228 j65_4 (in_c 1 rfl) rfl rfl; g_goto 44 (gd rfl) rfl ?_)
            have n44 : TGI s (x1).toNatClampNeg (x2) (160000000 * (z228).toInt) sc65 := by exact tgi_w g65_0 (by exact (have a0 := in_u j65_4; have a1 := in_u h1; have a2 := in_u ro_109_20; have a3 := in_u ro_109_19; have a4 := in_u i75; have a5 := in_u j65_3; have a6 := in_u i228; have a7 := t_add e228 j65_4 (in_c 1 rfl) rfl; have a8 := in_u ((in_c 1 rfl)); have a9 := in_u i74; have a10 := t_add e74 ro_109_19 (in_c 160 rfl) rfl; have a11 := in_u ((in_c 160 rfl)); by omega))
            have n44a : (y65_3).toInt = 0 → TCL s (x2) sc65 160 := by (intro hz; have hc := g65_1 hz; rw [show (y65_5.toInt - u_109_19.toInt).toNat = 160 from (by exact (have a0 := in_u j65_4; have a1 := in_u h1; have a2 := in_u ro_109_20; have a3 := in_u ro_109_19; have a4 := in_u i75; have a5 := in_u j65_3; have a6 := in_u i228; have a7 := t_add e228 j65_4 (in_c 1 rfl) rfl; have a8 := in_u ((in_c 1 rfl)); have a9 := in_u i74; have a10 := t_add e74 ro_109_19 (in_c 160 rfl) rfl; have a11 := in_u ((in_c 160 rfl)); by omega))] at hc; exact hc)
            exact gg_w (by omega) (gg_f (gf_cons rfl (gf_cons rfl (gf_cons rfl (gf_cons rfl (gf_cons rfl gf_nil))))) (ih44 sc65 y65_3 z228 hIc65 hFc65 (in_w 0 1 j65_3 rfl) (in_w 0 33 i228 rfl) n44 n44a (m_up mm44 (t_add e228 j65_4 (in_c 1 rfl) rfl) (in_w 1 1 (in_c 1 rfl) rfl))))
          · skip
            have i75 := r_lt1 0 319 c75 j65_5 i74 rfl
            refine g_aload_n 79 (gd rfl) rfl rfl (g_getA (q2 := 112) 82 (gd rfl) rfl rfl rfl rfl (g_iload 84 (gd rfl) rfl rfl (g_baload 85 (gd rfl) rfl (n := 480) rfl (in_ix i75 rfl) (fun z84 e84 => have i84 := inv_I hIc65 (n := 480) (t := 3) 0 1 rfl (in_ix i75 rfl) rfl e84; g_if_eq 88 222 (gd rfl) rfl rfl (fun c85 => ?_) (fun c85 => ?_)))))
            · skip
              have i85 := z_eq 0 0 c85 i84 rfl
              have n222 : (u_109_19).toInt ≤ (y65_5).toInt := by exact (have a0 := in_u j65_4; have a1 := in_u h1; have a2 := in_u ro_109_20; have a3 := in_u ro_109_19; have a4 := in_u i75; have a5 := in_u j65_3; have a6 := in_u i74; have a7 := t_add e74 ro_109_19 (in_c 160 rfl) rfl; have a8 := in_u ((in_c 160 rfl)); by omega)
              have n222a : (y65_5).toInt < (u_109_19).toInt + 160 := by exact (have a0 := in_u j65_4; have a1 := in_u h1; have a2 := in_u ro_109_20; have a3 := in_u ro_109_19; have a4 := in_u i75; have a5 := in_u j65_3; have a6 := in_u i74; have a7 := t_add e74 ro_109_19 (in_c 160 rfl) rfl; have a8 := in_u ((in_c 160 rfl)); by omega)
              have n222b : TGI s (x1).toNatClampNeg (x2) ((160000000 * (y44_4).toInt + 1000000 * ((y65_5).toInt - u_109_19.toInt)) + 1000000) sc65 := by exact tgi_w g65_0 (by exact (have a0 := in_u j65_4; have a1 := in_u h1; have a2 := in_u ro_109_20; have a3 := in_u ro_109_19; have a4 := in_u i75; have a5 := in_u j65_3; have a6 := in_u i74; have a7 := t_add e74 ro_109_19 (in_c 160 rfl) rfl; have a8 := in_u ((in_c 160 rfl)); by omega))
              have n222c : (y65_3).toInt = 0 → TCL s (x2) sc65 (((y65_5).toInt - u_109_19.toInt).toNat + 1) := by (intro hz; exact tcl_s (g65_1 hz) (fun t1 t2 t3 t4 => by exfalso; rw [(ix_k (y := y65_5) e_109_19 (by exact (have a0 := in_u j65_4; have a1 := in_u h1; have a2 := in_u ro_109_20; have a3 := in_u ro_109_19; have a4 := in_u i75; have a5 := in_u j65_3; have a6 := in_u i74; have a7 := t_add e74 ro_109_19 (in_c 160 rfl) rfl; have a8 := in_u ((in_c 160 rfl)); by omega)) (by exact (have a0 := in_u j65_4; have a1 := in_u h1; have a2 := in_u ro_109_20; have a3 := in_u ro_109_19; have a4 := in_u i75; have a5 := in_u j65_3; have a6 := in_u i74; have a7 := t_add e74 ro_109_19 (in_c 160 rfl) rfl; have a8 := in_u ((in_c 160 rfl)); by omega))), ← hFc65.1 112 rfl, ← e84] at t1; exact t1 c85))
              exact gg_w (by omega) (gg_f (gf_cons rfl (gf_cons rfl (gf_cons rfl (gf_cons rfl (gf_cons rfl (gf_cons rfl gf_nil)))))) (ct222 sc65 y65_3 hIc65 hFc65 (in_w 0 1 j65_3 rfl) (in_w 0 400 i75 rfl) n222 n222a n222b n222c))
            · skip
              have i85 := z_ne 1 1 c85 i84 rfl
              refine g_iload_n 89 (gd rfl) rfl rfl (g_aload_n 90 (gd rfl) rfl rfl (g_getA (q2 := 113) 93 (gd rfl) rfl rfl rfl rfl (g_iload 95 (gd rfl) rfl rfl (g_iaload 96 (gd rfl) rfl (n := 480) rfl (in_ix i75 rfl) (fun z95 e95 => ?_)))))
              have i95 := inv_I hIc65 (n := 480) (t := 0) 0 31 rfl (in_ix i75 rfl) rfl e95
              refine g_calls (As := [.int x2, .int z95]) (r := []) 99 (gd rfl) rfl rfl rfl rfl rfl (Nat.le_of_ble_eq_true rfl) (mc := 0) (ms := 0) (Nat.zero_le _) (Nat.zero_le _) (P := fun v u => _) ?_ (fun v u h => h)
              intro po96 xx96 hp96 hx96
              refine g_enter2 (k := 311) (N := 300) (by omega) rfl (Nat.le_of_ble_eq_true rfl) (g_iload_n 1 (gd rfl) rfl rfl (g_iload_n 2 (gd rfl) rfl rfl (g_ishr 3 (gd rfl) rfl (fun z96x2 e96x2 => g_iconst 1 4 (gd rfl) rfl rfl (g_iand 5 (gd rfl) rfl (fun z96x4 e96x4 => have i96x4 := in_and2 e96x4 (in_c 1 rfl) rfl; g_iconst 1 6 (gd rfl) rfl rfl (g_cmp_ne 9 13 (gd rfl) rfl rfl (fun c96x6 => ?_) (fun c96x6 => ?_))))))))
              · skip
                have i96x6 := r_ne1 0 0 c96x6 i96x4 (in_c 1 rfl) rfl
                refine g_iconst 0 14 (gd rfl) rfl rfl ?_
                refine g_ireturn (gd rfl) rfl (nb01 (in_w 0 1 (in_c 0 rfl) rfl)) (hp96 _ _ ?_)
                show GG _ _ _ _ _ _ _ _ [.int (Int32.ofInt 0)] _ _ _
                refine g_if_eq 102 222 (gd rfl) rfl rfl (fun c99 => ?_) (fun c99 => ?_)
                · skip
                  have n222 : (u_109_19).toInt ≤ (y65_5).toInt := by exact (have a0 := in_u j65_4; have a1 := in_u h1; have a2 := in_u ro_109_20; have a3 := in_u ro_109_19; have a4 := in_u i75; have a5 := in_u j65_3; have a6 := in_u i74; have a7 := t_add e74 ro_109_19 (in_c 160 rfl) rfl; have a8 := in_u ((in_c 160 rfl)); by omega)
                  have n222a : (y65_5).toInt < (u_109_19).toInt + 160 := by exact (have a0 := in_u j65_4; have a1 := in_u h1; have a2 := in_u ro_109_20; have a3 := in_u ro_109_19; have a4 := in_u i75; have a5 := in_u j65_3; have a6 := in_u i74; have a7 := t_add e74 ro_109_19 (in_c 160 rfl) rfl; have a8 := in_u ((in_c 160 rfl)); by omega)
                  have n222b : TGI s (x1).toNatClampNeg (x2) ((160000000 * (y44_4).toInt + 1000000 * ((y65_5).toInt - u_109_19.toInt)) + 1000000) sc65 := by exact tgi_w g65_0 (by exact (have a0 := in_u j65_4; have a1 := in_u h1; have a2 := in_u ro_109_20; have a3 := in_u ro_109_19; have a4 := in_u i75; have a5 := in_u j65_3; have a6 := in_u i74; have a7 := t_add e74 ro_109_19 (in_c 160 rfl) rfl; have a8 := in_u ((in_c 160 rfl)); by omega))
                  have n222c : (y65_3).toInt = 0 → TCL s (x2) sc65 (((y65_5).toInt - u_109_19.toInt).toNat + 1) := by (intro hz; exact tcl_s (g65_1 hz) (fun t1 t2 t3 t4 => by exfalso; have hb := bt_no e96x2 e96x4 i95 c96x6; rw [(ix_k (y := y65_5) e_109_19 (by exact (have a0 := in_u j65_4; have a1 := in_u h1; have a2 := in_u ro_109_20; have a3 := in_u ro_109_19; have a4 := in_u i75; have a5 := in_u j65_3; have a6 := in_u i74; have a7 := t_add e74 ro_109_19 (in_c 160 rfl) rfl; have a8 := in_u ((in_c 160 rfl)); by omega)) (by exact (have a0 := in_u j65_4; have a1 := in_u h1; have a2 := in_u ro_109_20; have a3 := in_u ro_109_19; have a4 := in_u i75; have a5 := in_u j65_3; have a6 := in_u i74; have a7 := t_add e74 ro_109_19 (in_c 160 rfl) rfl; have a8 := in_u ((in_c 160 rfl)); by omega))), ← hFc65.1 113 rfl, ← e95, hb] at t2; cases t2))
                  exact gg_w (by omega) (gg_f (gf_cons rfl (gf_cons rfl (gf_cons rfl (gf_cons rfl (gf_cons rfl (gf_cons rfl gf_nil)))))) (ct222 sc65 y65_3 hIc65 hFc65 (in_w 0 1 j65_3 rfl) (in_w 0 400 i75 rfl) n222 n222a n222b n222c))
                · skip
                  exact zn_ne c99 (in_c 0 rfl) rfl
              · skip
                have i96x6 := r_eq1 1 1 c96x6 i96x4 (in_c 1 rfl) rfl
                refine g_iconst 1 10 (gd rfl) rfl rfl (g_goto 14 (gd rfl) rfl ?_)
                refine g_ireturn (gd rfl) rfl (nb01 (in_w 0 1 (in_c 1 rfl) rfl)) (hp96 _ _ ?_)
                show GG _ _ _ _ _ _ _ _ [.int (Int32.ofInt 1)] _ _ _
                refine g_if_eq 102 222 (gd rfl) rfl rfl (fun c99 => ?_) (fun c99 => ?_)
                · skip
                  exact zn_eq c99 (in_c 1 rfl) rfl
                · skip
                  refine g_iload_n 103 (gd rfl) rfl rfl (g_aload_n 104 (gd rfl) rfl rfl (g_getA (q2 := 114) 107 (gd rfl) rfl rfl rfl rfl (g_iload 109 (gd rfl) rfl rfl (g_iaload 110 (gd rfl) rfl (n := 480) rfl (in_ix i75 rfl) (fun z109 e109 => ?_)))))
                  have i109 := inv_I hIc65 (n := 480) (t := 0) 0 31 rfl (in_ix i75 rfl) rfl e109
                  refine g_calls (As := [.int x2, .int z109]) (r := []) 113 (gd rfl) rfl rfl rfl rfl rfl (Nat.le_of_ble_eq_true rfl) (mc := 0) (ms := 0) (Nat.zero_le _) (Nat.zero_le _) (P := fun v u => _) ?_ (fun v u h => h)
                  intro po110 xx110 hp110 hx110
                  refine g_enter2 (k := 311) (N := 300) (by omega) rfl (Nat.le_of_ble_eq_true rfl) (g_iload_n 1 (gd rfl) rfl rfl (g_iload_n 2 (gd rfl) rfl rfl (g_ishr 3 (gd rfl) rfl (fun z110x2 e110x2 => g_iconst 1 4 (gd rfl) rfl rfl (g_iand 5 (gd rfl) rfl (fun z110x4 e110x4 => have i110x4 := in_and2 e110x4 (in_c 1 rfl) rfl; g_iconst 1 6 (gd rfl) rfl rfl (g_cmp_ne 9 13 (gd rfl) rfl rfl (fun c110x6 => ?_) (fun c110x6 => ?_))))))))
                  · skip
                    have i110x6 := r_ne1 0 0 c110x6 i110x4 (in_c 1 rfl) rfl
                    refine g_iconst 0 14 (gd rfl) rfl rfl ?_
                    refine g_ireturn (gd rfl) rfl (nb01 (in_w 0 1 (in_c 0 rfl) rfl)) (hp110 _ _ ?_)
                    show GG _ _ _ _ _ _ _ _ [.int (Int32.ofInt 0)] _ _ _
                    refine g_if_eq 116 222 (gd rfl) rfl rfl (fun c113 => ?_) (fun c113 => ?_)
                    · skip
                      have n222 : (u_109_19).toInt ≤ (y65_5).toInt := by exact (have a0 := in_u j65_4; have a1 := in_u h1; have a2 := in_u ro_109_20; have a3 := in_u ro_109_19; have a4 := in_u i75; have a5 := in_u j65_3; have a6 := in_u i74; have a7 := t_add e74 ro_109_19 (in_c 160 rfl) rfl; have a8 := in_u ((in_c 160 rfl)); by omega)
                      have n222a : (y65_5).toInt < (u_109_19).toInt + 160 := by exact (have a0 := in_u j65_4; have a1 := in_u h1; have a2 := in_u ro_109_20; have a3 := in_u ro_109_19; have a4 := in_u i75; have a5 := in_u j65_3; have a6 := in_u i74; have a7 := t_add e74 ro_109_19 (in_c 160 rfl) rfl; have a8 := in_u ((in_c 160 rfl)); by omega)
                      have n222b : TGI s (x1).toNatClampNeg (x2) ((160000000 * (y44_4).toInt + 1000000 * ((y65_5).toInt - u_109_19.toInt)) + 1000000) sc65 := by exact tgi_w g65_0 (by exact (have a0 := in_u j65_4; have a1 := in_u h1; have a2 := in_u ro_109_20; have a3 := in_u ro_109_19; have a4 := in_u i75; have a5 := in_u j65_3; have a6 := in_u i74; have a7 := t_add e74 ro_109_19 (in_c 160 rfl) rfl; have a8 := in_u ((in_c 160 rfl)); by omega))
                      have n222c : (y65_3).toInt = 0 → TCL s (x2) sc65 (((y65_5).toInt - u_109_19.toInt).toNat + 1) := by (intro hz; exact tcl_s (g65_1 hz) (fun t1 t2 t3 t4 => by exfalso; have hb := bt_no e110x2 e110x4 i109 c110x6; rw [(ix_k (y := y65_5) e_109_19 (by exact (have a0 := in_u j65_4; have a1 := in_u h1; have a2 := in_u ro_109_20; have a3 := in_u ro_109_19; have a4 := in_u i75; have a5 := in_u j65_3; have a6 := in_u i74; have a7 := t_add e74 ro_109_19 (in_c 160 rfl) rfl; have a8 := in_u ((in_c 160 rfl)); by omega)) (by exact (have a0 := in_u j65_4; have a1 := in_u h1; have a2 := in_u ro_109_20; have a3 := in_u ro_109_19; have a4 := in_u i75; have a5 := in_u j65_3; have a6 := in_u i74; have a7 := t_add e74 ro_109_19 (in_c 160 rfl) rfl; have a8 := in_u ((in_c 160 rfl)); by omega))), ← hFc65.1 114 rfl, ← e109, hb] at t3; cases t3))
                      exact gg_w (by omega) (gg_f (gf_cons rfl (gf_cons rfl (gf_cons rfl (gf_cons rfl (gf_cons rfl (gf_cons rfl gf_nil)))))) (ct222 sc65 y65_3 hIc65 hFc65 (in_w 0 1 j65_3 rfl) (in_w 0 400 i75 rfl) n222 n222a n222b n222c))
                    · skip
                      exact zn_ne c113 (in_c 0 rfl) rfl
                  · skip
                    have i110x6 := r_eq1 1 1 c110x6 i110x4 (in_c 1 rfl) rfl
                    refine g_iconst 1 10 (gd rfl) rfl rfl (g_goto 14 (gd rfl) rfl ?_)
                    refine g_ireturn (gd rfl) rfl (nb01 (in_w 0 1 (in_c 1 rfl) rfl)) (hp110 _ _ ?_)
                    show GG _ _ _ _ _ _ _ _ [.int (Int32.ofInt 1)] _ _ _
                    refine g_if_eq 116 222 (gd rfl) rfl rfl (fun c113 => ?_) (fun c113 => ?_)
                    · skip
                      exact zn_eq c113 (in_c 1 rfl) rfl
                    · skip
                      refine g_aload_n 117 (gd rfl) rfl rfl (g_getA (q2 := 130) 120 (gd rfl) rfl rfl rfl rfl (g_aload_n 121 (gd rfl) rfl rfl (g_getA (q2 := 114) 124 (gd rfl) rfl rfl rfl rfl (g_iload 126 (gd rfl) rfl rfl (g_ialoadv (y := z109) 127 (gd rfl) rfl (n := 480) rfl (in_ix i75 rfl) (e109) (g_laload 128 (gd rfl) rfl (n := 32) rfl (in_ix i109 rfl) (fun z127 e127 => g_ldc2_w 9000000000000000 131 (gd rfl) rfl rfl (g_lcmp 132 (gd rfl) rfl (fun z131 e131 => have i131 := lc_in e131; g_if_ge 135 222 (gd rfl) rfl rfl (fun c132 => ?_) (fun c132 => ?_))))))))))
                      · skip
                        have i132 := z_ge 0 1 c132 i131 rfl
                        have c132a := lc_ge e131 c132
                        have i132a := lr_le2 9000000000000000 9223372036854775807 c132a (l_c 9000000000000000 rfl) (l_rng z127) rfl
                        have n222 : (u_109_19).toInt ≤ (y65_5).toInt := by exact (have a0 := in_u j65_4; have a1 := in_u h1; have a2 := in_u ro_109_20; have a3 := in_u ro_109_19; have a4 := in_u i75; have a5 := in_u j65_3; have a6 := in_u i74; have a7 := t_add e74 ro_109_19 (in_c 160 rfl) rfl; have a8 := in_u ((in_c 160 rfl)); by omega)
                        have n222a : (y65_5).toInt < (u_109_19).toInt + 160 := by exact (have a0 := in_u j65_4; have a1 := in_u h1; have a2 := in_u ro_109_20; have a3 := in_u ro_109_19; have a4 := in_u i75; have a5 := in_u j65_3; have a6 := in_u i74; have a7 := t_add e74 ro_109_19 (in_c 160 rfl) rfl; have a8 := in_u ((in_c 160 rfl)); by omega)
                        have n222b : TGI s (x1).toNatClampNeg (x2) ((160000000 * (y44_4).toInt + 1000000 * ((y65_5).toInt - u_109_19.toInt)) + 1000000) sc65 := by exact tgi_w g65_0 (by exact (have a0 := in_u j65_4; have a1 := in_u h1; have a2 := in_u ro_109_20; have a3 := in_u ro_109_19; have a4 := in_u i75; have a5 := in_u j65_3; have a6 := in_u i74; have a7 := t_add e74 ro_109_19 (in_c 160 rfl) rfl; have a8 := in_u ((in_c 160 rfl)); by omega))
                        have n222c : (y65_3).toInt = 0 → TCL s (x2) sc65 (((y65_5).toInt - u_109_19.toInt).toNat + 1) := by (intro hz; exact tcl_s (g65_1 hz) (fun t1 t2 t3 t4 => by exfalso; rw [(ix_k (y := y65_5) e_109_19 (by exact (have a0 := in_u j65_4; have a1 := in_u h1; have a2 := in_u ro_109_20; have a3 := in_u ro_109_19; have a4 := in_u i75; have a5 := in_u j65_3; have a6 := in_u i74; have a7 := t_add e74 ro_109_19 (in_c 160 rfl) rfl; have a8 := in_u ((in_c 160 rfl)); by omega)) (by exact (have a0 := in_u j65_4; have a1 := in_u h1; have a2 := in_u ro_109_20; have a3 := in_u ro_109_19; have a4 := in_u i75; have a5 := in_u j65_3; have a6 := in_u i74; have a7 := t_add e74 ro_109_19 (in_c 160 rfl) rfl; have a8 := in_u ((in_c 160 rfl)); by omega))), ← hFc65.1 114 rfl, ← e109, ← e127] at t4; have h := i132a.1; omega))
                        exact gg_w (by omega) (gg_f (gf_cons rfl (gf_cons rfl (gf_cons rfl (gf_cons rfl (gf_cons rfl (gf_cons rfl gf_nil)))))) (ct222 sc65 y65_3 hIc65 hFc65 (in_w 0 1 j65_3 rfl) (in_w 0 400 i75 rfl) n222 n222a n222b n222c))
                      · skip
                        have i132 := z_lt (-1) (-1) c132 i131 rfl
                        have c132a := lc_lt e131 c132
                        have i132a := lr_lt1 (-9223372036854775808) 8999999999999999 c132a (l_rng z127) (l_c 9000000000000000 rfl) rfl
                        refine g_aload_n 136 (gd rfl) rfl rfl (g_getA (q2 := 130) 139 (gd rfl) rfl rfl rfl rfl (g_aload_n 140 (gd rfl) rfl rfl (g_getA (q2 := 114) 143 (gd rfl) rfl rfl rfl rfl (g_iload 145 (gd rfl) rfl rfl (g_ialoadv (y := z109) 146 (gd rfl) rfl (n := 480) rfl (in_ix i75 rfl) (e109) (g_laload 147 (gd rfl) rfl (n := 32) rfl (in_ix i109 rfl) (fun z146 e146 => g_aload_n 148 (gd rfl) rfl rfl (g_getA (q2 := 115) 151 (gd rfl) rfl rfl rfl rfl (g_iload 153 (gd rfl) rfl rfl (g_iaload 154 (gd rfl) rfl (n := 480) rfl (in_ix i75 rfl) (fun z153 e153 => have i153 := inv_I hIc65 (n := 480) (t := 0) (-1000000) 1000000 rfl (in_ix i75 rfl) rfl e153; g_i2l 155 (gd rfl) rfl (fun z154 e154 => have i154 := l_i e154 i153; g_ladd 156 (gd rfl) rfl (fun z155 e155 => g_lstore 158 (gd rfl) rfl (Nat.le_of_ble_eq_true rfl) (g_aload_n 159 (gd rfl) rfl rfl (g_getA (q2 := 131) 162 (gd rfl) rfl rfl rfl rfl (g_aload_n 163 (gd rfl) rfl rfl (g_getA (q2 := 114) 166 (gd rfl) rfl rfl rfl rfl (g_iload 168 (gd rfl) rfl rfl (g_ialoadv (y := z109) 169 (gd rfl) rfl (n := 480) rfl (in_ix i75 rfl) (e109) (g_iaload 170 (gd rfl) rfl (n := 32) rfl (in_ix i109 rfl) (fun z169 e169 => g_iconst 1 171 (gd rfl) rfl rfl (g_iadd 172 (gd rfl) rfl (fun z171 e171 => g_istore 174 (gd rfl) rfl (Nat.le_of_ble_eq_true rfl) (g_lload 176 (gd rfl) rfl rfl (g_aload_n 177 (gd rfl) rfl rfl (g_getA (q2 := 130) 180 (gd rfl) rfl rfl rfl rfl (g_aload_n 181 (gd rfl) rfl rfl (g_getA (q2 := 113) 184 (gd rfl) rfl rfl rfl rfl (g_iload 186 (gd rfl) rfl rfl (g_ialoadv (y := z95) 187 (gd rfl) rfl (n := 480) rfl (in_ix i75 rfl) (e95) (g_laload 188 (gd rfl) rfl (n := 32) rfl (in_ix i95 rfl) (fun z187 e187 => g_lcmp 189 (gd rfl) rfl (fun z188 e188 => have i188 := lc_in e188; g_if_ge 192 222 (gd rfl) rfl rfl (fun c189 => ?_) (fun c189 => ?_))))))))))))))))))))))))))))))))))
                        · skip
                          have i189 := z_ge 0 1 c189 i188 rfl
                          have c189a := lc_ge e188 c189
                          have n222 : (u_109_19).toInt ≤ (y65_5).toInt := by exact (have a0 := in_u j65_4; have a1 := in_u h1; have a2 := in_u ro_109_20; have a3 := in_u ro_109_19; have a4 := in_u i75; have a5 := in_u j65_3; have a6 := tx_i2l e154; have a7 := in_u i153; have a8 := in_u i74; have a9 := t_add e74 ro_109_19 (in_c 160 rfl) rfl; have a10 := in_u ((in_c 160 rfl)); by omega)
                          have n222a : (y65_5).toInt < (u_109_19).toInt + 160 := by exact (have a0 := in_u j65_4; have a1 := in_u h1; have a2 := in_u ro_109_20; have a3 := in_u ro_109_19; have a4 := in_u i75; have a5 := in_u j65_3; have a6 := tx_i2l e154; have a7 := in_u i153; have a8 := in_u i74; have a9 := t_add e74 ro_109_19 (in_c 160 rfl) rfl; have a10 := in_u ((in_c 160 rfl)); by omega)
                          have n222b : TGI s (x1).toNatClampNeg (x2) ((160000000 * (y44_4).toInt + 1000000 * ((y65_5).toInt - u_109_19.toInt)) + 1000000) sc65 := by first | exact tgi_w g65_0 (by exact (have a0 := in_u j65_4; have a1 := in_u h1; have a2 := in_u ro_109_20; have a3 := in_u ro_109_19; have a4 := in_u i75; have a5 := in_u j65_3; have a6 := tx_i2l e154; have a7 := in_u i153; have a8 := in_u i74; have a9 := t_add e74 ro_109_19 (in_c 160 rfl) rfl; have a10 := in_u ((in_c 160 rfl)); by omega))
                          have n222c : (y65_3).toInt = 0 → TCL s (x2) sc65 (((y65_5).toInt - u_109_19.toInt).toNat + 1) := by (intro hz; exact tcl_s (g65_1 hz) (fun t1 t2 t3 t4 => by have hk := arc_n hI (a := (y65_5.toInt - u_109_19.toInt).toNat) (by exact (have a0 := in_u j65_4; have a1 := in_u h1; have a2 := in_u ro_109_20; have a3 := in_u ro_109_19; have a4 := in_u i75; have a5 := in_u j65_3; have a6 := tx_i2l e154; have a7 := in_u i153; have a8 := in_u i74; have a9 := t_add e74 ro_109_19 (in_c 160 rfl) rfl; have a10 := in_u ((in_c 160 rfl)); by omega)) (by rw [(ix_k (y := y65_5) e_109_19 (by exact (have a0 := in_u j65_4; have a1 := in_u h1; have a2 := in_u ro_109_20; have a3 := in_u ro_109_19; have a4 := in_u i75; have a5 := in_u j65_3; have a6 := tx_i2l e154; have a7 := in_u i153; have a8 := in_u i74; have a9 := t_add e74 ro_109_19 (in_c 160 rfl) rfl; have a10 := in_u ((in_c 160 rfl)); by omega)) (by exact (have a0 := in_u j65_4; have a1 := in_u h1; have a2 := in_u ro_109_20; have a3 := in_u ro_109_19; have a4 := in_u i75; have a5 := in_u j65_3; have a6 := tx_i2l e154; have a7 := in_u i153; have a8 := in_u i74; have a9 := t_add e74 ro_109_19 (in_c 160 rfl) rfl; have a10 := in_u ((in_c 160 rfl)); by omega))), ← hFc65.1 112 rfl, ← e84]; exact c85); rw [(ix_k (y := y65_5) e_109_19 (by exact (have a0 := in_u j65_4; have a1 := in_u h1; have a2 := in_u ro_109_20; have a3 := in_u ro_109_19; have a4 := in_u i75; have a5 := in_u j65_3; have a6 := tx_i2l e154; have a7 := in_u i153; have a8 := in_u i74; have a9 := t_add e74 ro_109_19 (in_c 160 rfl) rfl; have a10 := in_u ((in_c 160 rfl)); by omega)) (by exact (have a0 := in_u j65_4; have a1 := in_u h1; have a2 := in_u ro_109_20; have a3 := in_u ro_109_19; have a4 := in_u i75; have a5 := in_u j65_3; have a6 := tx_i2l e154; have a7 := in_u i153; have a8 := in_u i74; have a9 := t_add e74 ro_109_19 (in_c 160 rfl) rfl; have a10 := in_u ((in_c 160 rfl)); by omega))), ← hFc65.1 114 rfl, ← e109] at hk; have hadd := tgi_add g65_0 (by exact (have a0 := in_u j65_4; have a1 := in_u h1; have a2 := in_u ro_109_20; have a3 := in_u ro_109_19; have a4 := in_u i75; have a5 := in_u j65_3; have a6 := tx_i2l e154; have a7 := in_u i153; have a8 := in_u i74; have a9 := t_add e74 ro_109_19 (in_c 160 rfl) rfl; have a10 := in_u ((in_c 160 rfl)); by omega)) (by exact (have a0 := in_u j65_4; have a1 := in_u h1; have a2 := in_u ro_109_20; have a3 := in_u ro_109_19; have a4 := in_u i75; have a5 := in_u j65_3; have a6 := tx_i2l e154; have a7 := in_u i153; have a8 := in_u i74; have a9 := t_add e74 ro_109_19 (in_c 160 rfl) rfl; have a10 := in_u ((in_c 160 rfl)); by omega)) i109 hk.2.1.2 e146 (by rw [e146, ← e127]; have h := i132a.2; omega) i153 e155 (tx_i2l e154); rw [(ix_k (y := y65_5) e_109_19 (by exact (have a0 := in_u j65_4; have a1 := in_u h1; have a2 := in_u ro_109_20; have a3 := in_u ro_109_19; have a4 := in_u i75; have a5 := in_u j65_3; have a6 := tx_i2l e154; have a7 := in_u i153; have a8 := in_u i74; have a9 := t_add e74 ro_109_19 (in_c 160 rfl) rfl; have a10 := in_u ((in_c 160 rfl)); by omega)) (by exact (have a0 := in_u j65_4; have a1 := in_u h1; have a2 := in_u ro_109_20; have a3 := in_u ro_109_19; have a4 := in_u i75; have a5 := in_u j65_3; have a6 := tx_i2l e154; have a7 := in_u i153; have a8 := in_u i74; have a9 := t_add e74 ro_109_19 (in_c 160 rfl) rfl; have a10 := in_u ((in_c 160 rfl)); by omega))), ← hFc65.1 113 rfl, ← hFc65.1 114 rfl, ← hFc65.1 115 rfl, ← e95, ← e109, ← e153, ← e187, ← e146]; have h := c189a; omega))
                          exact gg_w (by omega) (gg_f (gf_cons rfl (gf_cons rfl (gf_cons rfl (gf_cons rfl (gf_cons rfl (gf_cons rfl gf_nil)))))) (ct222 sc65 y65_3 hIc65 hFc65 (in_w 0 1 j65_3 rfl) (in_w 0 400 i75 rfl) n222 n222a n222b n222c))
                        · skip
                          have i189 := z_lt (-1) (-1) c189 i188 rfl
                          have c189a := lc_lt e188 c189
                          have i189a := lr_lt1 (-9223372036854775808) 9223372036854775806 c189a (l_rng z155) (l_rng z187) rfl
                          have i189b := lr_lt2 (-9223372036854775807) 9223372036854775807 c189a (l_rng z155) (l_rng z187) rfl
                          refine g_aload_n 193 (gd rfl) rfl rfl (g_getA (q2 := 130) 196 (gd rfl) rfl rfl rfl rfl (g_aload_n 197 (gd rfl) rfl rfl (g_getA (q2 := 113) 200 (gd rfl) rfl rfl rfl rfl (g_iload 202 (gd rfl) rfl rfl (g_ialoadv (y := z95) 203 (gd rfl) rfl (n := 480) rfl (in_ix i75 rfl) (e95) (g_lload 205 (gd rfl) rfl rfl (g_lastore 206 (gd rfl) rfl (n := 32) rfl (in_ix i95 rfl) (have hI205 := inv_sL (q := 130) (j := z95.toNatClampNeg) (x := z155) hIc65 rfl (l_rng z155); g_aload_n 207 (gd rfl) rfl rfl (g_getA (q2 := 131) 210 (gd rfl) rfl rfl rfl rfl (g_aload_n 211 (gd rfl) rfl rfl (g_getA (q2 := 113) 214 (gd rfl) rfl rfl rfl rfl (g_iload 216 (gd rfl) rfl rfl (g_ialoadv (y := z95) 217 (gd rfl) rfl (n := 480) rfl (in_ix i75 rfl) (sL_I (e95)) (g_iload 219 (gd rfl) rfl rfl (g_iastore 220 (gd rfl) rfl (n := 32) rfl (in_ix i95 rfl) (have hI219 := inv_sI (q := 131) (j := z95.toNatClampNeg) hI205 rfl (in_w (-2147483648) 2147483647 (i_rng z171) rfl); g_iconst 1 221 (gd rfl) rfl rfl (g_istore_n 222 (gd rfl) rfl (Nat.le_of_ble_eq_true rfl) ?_)))))))))))))))))
                          have n222 : (u_109_19).toInt ≤ (y65_5).toInt := by exact (have a0 := in_u j65_4; have a1 := in_u h1; have a2 := in_u ro_109_20; have a3 := in_u ro_109_19; have a4 := in_u i75; have a5 := in_u j65_3; have a6 := in_u ((in_c 1 rfl)); have a7 := tx_i2l e154; have a8 := in_u i153; have a9 := in_u i74; have a10 := t_add e74 ro_109_19 (in_c 160 rfl) rfl; have a11 := in_u ((in_c 160 rfl)); by omega)
                          have n222a : (y65_5).toInt < (u_109_19).toInt + 160 := by exact (have a0 := in_u j65_4; have a1 := in_u h1; have a2 := in_u ro_109_20; have a3 := in_u ro_109_19; have a4 := in_u i75; have a5 := in_u j65_3; have a6 := in_u ((in_c 1 rfl)); have a7 := tx_i2l e154; have a8 := in_u i153; have a9 := in_u i74; have a10 := t_add e74 ro_109_19 (in_c 160 rfl) rfl; have a11 := in_u ((in_c 160 rfl)); by omega)
                          have n222b : TGI s (x1).toNatClampNeg (x2) ((160000000 * (y44_4).toInt + 1000000 * ((y65_5).toInt - u_109_19.toInt)) + 1000000) (sI (sL sc65 130 z95.toNatClampNeg z155) 131 z95.toNatClampNeg z171) := by exact tgi_ch (a := (y65_5.toInt - u_109_19.toInt).toNat) hI g65_0 (by exact (have a0 := in_u j65_4; have a1 := in_u h1; have a2 := in_u ro_109_20; have a3 := in_u ro_109_19; have a4 := in_u i75; have a5 := in_u j65_3; have a6 := in_u ((in_c 1 rfl)); have a7 := tx_i2l e154; have a8 := in_u i153; have a9 := in_u i74; have a10 := t_add e74 ro_109_19 (in_c 160 rfl) rfl; have a11 := in_u ((in_c 160 rfl)); by omega)) (by rw [(ix_k (y := y65_5) e_109_19 (by exact (have a0 := in_u j65_4; have a1 := in_u h1; have a2 := in_u ro_109_20; have a3 := in_u ro_109_19; have a4 := in_u i75; have a5 := in_u j65_3; have a6 := in_u ((in_c 1 rfl)); have a7 := tx_i2l e154; have a8 := in_u i153; have a9 := in_u i74; have a10 := t_add e74 ro_109_19 (in_c 160 rfl) rfl; have a11 := in_u ((in_c 160 rfl)); by omega)) (by exact (have a0 := in_u j65_4; have a1 := in_u h1; have a2 := in_u ro_109_20; have a3 := in_u ro_109_19; have a4 := in_u i75; have a5 := in_u j65_3; have a6 := in_u ((in_c 1 rfl)); have a7 := tx_i2l e154; have a8 := in_u i153; have a9 := in_u i74; have a10 := t_add e74 ro_109_19 (in_c 160 rfl) rfl; have a11 := in_u ((in_c 160 rfl)); by omega))), ← hFc65.1 112 rfl, ← e84]; exact c85) (by rw [(ix_k (y := y65_5) e_109_19 (by exact (have a0 := in_u j65_4; have a1 := in_u h1; have a2 := in_u ro_109_20; have a3 := in_u ro_109_19; have a4 := in_u i75; have a5 := in_u j65_3; have a6 := in_u ((in_c 1 rfl)); have a7 := tx_i2l e154; have a8 := in_u i153; have a9 := in_u i74; have a10 := t_add e74 ro_109_19 (in_c 160 rfl) rfl; have a11 := in_u ((in_c 160 rfl)); by omega)) (by exact (have a0 := in_u j65_4; have a1 := in_u h1; have a2 := in_u ro_109_20; have a3 := in_u ro_109_19; have a4 := in_u i75; have a5 := in_u j65_3; have a6 := in_u ((in_c 1 rfl)); have a7 := tx_i2l e154; have a8 := in_u i153; have a9 := in_u i74; have a10 := t_add e74 ro_109_19 (in_c 160 rfl) rfl; have a11 := in_u ((in_c 160 rfl)); by omega))), ← hFc65.1 113 rfl]; exact e95) (by rw [(ix_k (y := y65_5) e_109_19 (by exact (have a0 := in_u j65_4; have a1 := in_u h1; have a2 := in_u ro_109_20; have a3 := in_u ro_109_19; have a4 := in_u i75; have a5 := in_u j65_3; have a6 := in_u ((in_c 1 rfl)); have a7 := tx_i2l e154; have a8 := in_u i153; have a9 := in_u i74; have a10 := t_add e74 ro_109_19 (in_c 160 rfl) rfl; have a11 := in_u ((in_c 160 rfl)); by omega)) (by exact (have a0 := in_u j65_4; have a1 := in_u h1; have a2 := in_u ro_109_20; have a3 := in_u ro_109_19; have a4 := in_u i75; have a5 := in_u j65_3; have a6 := in_u ((in_c 1 rfl)); have a7 := tx_i2l e154; have a8 := in_u i153; have a9 := in_u i74; have a10 := t_add e74 ro_109_19 (in_c 160 rfl) rfl; have a11 := in_u ((in_c 160 rfl)); by omega))), ← hFc65.1 114 rfl]; exact e109) (by rw [(ix_k (y := y65_5) e_109_19 (by exact (have a0 := in_u j65_4; have a1 := in_u h1; have a2 := in_u ro_109_20; have a3 := in_u ro_109_19; have a4 := in_u i75; have a5 := in_u j65_3; have a6 := in_u ((in_c 1 rfl)); have a7 := tx_i2l e154; have a8 := in_u i153; have a9 := in_u i74; have a10 := t_add e74 ro_109_19 (in_c 160 rfl) rfl; have a11 := in_u ((in_c 160 rfl)); by omega)) (by exact (have a0 := in_u j65_4; have a1 := in_u h1; have a2 := in_u ro_109_20; have a3 := in_u ro_109_19; have a4 := in_u i75; have a5 := in_u j65_3; have a6 := in_u ((in_c 1 rfl)); have a7 := tx_i2l e154; have a8 := in_u i153; have a9 := in_u i74; have a10 := t_add e74 ro_109_19 (in_c 160 rfl) rfl; have a11 := in_u ((in_c 160 rfl)); by omega))), ← hFc65.1 115 rfl]; exact e153) (bt_yes e96x2 e96x4 i95 c96x6) (bt_yes e110x2 e110x4 i109 c110x6) e146 (by rw [e146, ← e127]; have h := i132a.2; omega) e155 (tx_i2l e154) (by rw [← e187]; exact c189a) (by simp [sI, sL]) (by exact (have a0 := in_u j65_4; have a1 := in_u h1; have a2 := in_u ro_109_20; have a3 := in_u ro_109_19; have a4 := in_u i75; have a5 := in_u j65_3; have a6 := in_u ((in_c 1 rfl)); have a7 := tx_i2l e154; have a8 := in_u i153; have a9 := in_u i74; have a10 := t_add e74 ro_109_19 (in_c 160 rfl) rfl; have a11 := in_u ((in_c 160 rfl)); by omega)) (by exact (have a0 := in_u j65_4; have a1 := in_u h1; have a2 := in_u ro_109_20; have a3 := in_u ro_109_19; have a4 := in_u i75; have a5 := in_u j65_3; have a6 := in_u ((in_c 1 rfl)); have a7 := tx_i2l e154; have a8 := in_u i153; have a9 := in_u i74; have a10 := t_add e74 ro_109_19 (in_c 160 rfl) rfl; have a11 := in_u ((in_c 160 rfl)); by omega)) (by exact (have a0 := in_u j65_4; have a1 := in_u h1; have a2 := in_u ro_109_20; have a3 := in_u ro_109_19; have a4 := in_u i75; have a5 := in_u j65_3; have a6 := in_u ((in_c 1 rfl)); have a7 := tx_i2l e154; have a8 := in_u i153; have a9 := in_u i74; have a10 := t_add e74 ro_109_19 (in_c 160 rfl) rfl; have a11 := in_u ((in_c 160 rfl)); by omega))
                          have n222c : ((Int32.ofInt 1)).toInt = 0 → TCL s (x2) (sI (sL sc65 130 z95.toNatClampNeg z155) 131 z95.toNatClampNeg z171) (((y65_5).toInt - u_109_19.toInt).toNat + 1) := by (intro hz; exfalso; have h0 : (Int32.ofInt 1).toInt = 1 := rfl; omega)
                          exact gg_w (by omega) (gg_f (gf_cons rfl (gf_cons rfl (gf_cons rfl (gf_cons rfl (gf_cons rfl (gf_cons rfl gf_nil)))))) (ct222 (sI (sL sc65 130 z95.toNatClampNeg z155) 131 z95.toNatClampNeg z171) (Int32.ofInt 1) hI219 (fr_sI rfl (fr_sL rfl hFc65)) (in_w 0 1 (in_c 1 rfl) rfl) (in_w 0 400 i75 rfl) n222 n222a n222b n222c))
      refine g_iload 46 (gd rfl) rfl rfl (g_aload_n 47 (gd rfl) rfl rfl (g_getIv (y := u_109_20) 50 (gd rfl) rfl rfl rfl (fr_F e_109_20 hFc44 rfl) (g_cmp_gt 53 234 (gd rfl) rfl rfl (fun c50 => ?_) (fun c50 => ?_))))
      · skip
        have i50 := r_lt2 1 33 c50 ro_109_20 j44_4 rfl
        have n234 : (y44_3).toInt = 0 → TGI s (x1).toNatClampNeg (x2) 10000000000 sc44 ∧ TCL s (x2) sc44 160 := by exact fun hz => ⟨tgi_w g44_0 (by exact (have a0 := in_u h1; have a1 := in_u ro_109_20; have a2 := in_u ro_109_19; have a3 := in_u i50; have a4 := in_u j44_3; by omega)), g44_1 hz⟩
        exact gg_w (by omega) (gg_f (gf_cons rfl (gf_cons rfl (gf_cons rfl (gf_cons rfl (gf_cons rfl gf_nil))))) (ct234 sc44 y44_3 y44_4 hIc44 hFc44 (in_w 0 1 j44_3 rfl) (in_w 0 33 i50 rfl) n234))
      · skip
        have i50 := r_le1 0 32 c50 j44_4 ro_109_20 rfl
        refine g_iload_n 54 (gd rfl) rfl rfl (g_if_eq 57 234 (gd rfl) rfl rfl (fun c54 => ?_) (fun c54 => ?_))
        · skip
          have i54 := z_eq 0 0 c54 j44_3 rfl
          have n234 : (y44_3).toInt = 0 → TGI s (x1).toNatClampNeg (x2) 10000000000 sc44 ∧ TCL s (x2) sc44 160 := by exact fun hz => ⟨tgi_w g44_0 (by exact (have a0 := in_u h1; have a1 := in_u ro_109_20; have a2 := in_u ro_109_19; have a3 := in_u i50; have a4 := in_u i54; by omega)), g44_1 hz⟩
          exact gg_w (by omega) (gg_f (gf_cons rfl (gf_cons rfl (gf_cons rfl (gf_cons rfl (gf_cons rfl gf_nil))))) (ct234 sc44 y44_3 y44_4 hIc44 hFc44 (in_w 0 1 i54 rfl) (in_w 0 33 i50 rfl) n234))
        · skip
          have i54 := z_ne 1 1 c54 j44_3 rfl
          refine g_iconst 0 58 (gd rfl) rfl rfl (g_istore_n 59 (gd rfl) rfl (Nat.le_of_ble_eq_true rfl) (g_aload_n 60 (gd rfl) rfl rfl (g_getIv (y := u_109_19) 63 (gd rfl) rfl rfl rfl (fr_F e_109_19 hFc44 rfl) (g_istore 65 (gd rfl) rfl (Nat.le_of_ble_eq_true rfl) ?_))))
          have n65 : (u_109_19).toInt ≤ (u_109_19).toInt := by exact (have a0 := in_u h1; have a1 := in_u ro_109_20; have a2 := in_u ro_109_19; have a3 := in_u i50; have a4 := in_u i54; have a5 := in_u ((in_c 0 rfl)); by omega)
          have n65a : (u_109_19).toInt ≤ (u_109_19).toInt + 160 := by exact (have a0 := in_u h1; have a1 := in_u ro_109_20; have a2 := in_u ro_109_19; have a3 := in_u i50; have a4 := in_u i54; have a5 := in_u ((in_c 0 rfl)); by omega)
          have n65b : TGI s (x1).toNatClampNeg (x2) (160000000 * (y44_4).toInt + 1000000 * ((u_109_19).toInt - u_109_19.toInt)) sc44 := by exact tgi_w g44_0 (by exact (have a0 := in_u h1; have a1 := in_u ro_109_20; have a2 := in_u ro_109_19; have a3 := in_u i50; have a4 := in_u i54; have a5 := in_u ((in_c 0 rfl)); by omega))
          have n65c : ((Int32.ofInt 0)).toInt = 0 → TCL s (x2) sc44 ((u_109_19).toInt - u_109_19.toInt).toNat := by (intro _ a ha; exfalso; omega)
          exact gg_w (by omega) (gg_f (gf_cons rfl (gf_cons rfl (gf_cons rfl (gf_cons rfl (gf_cons rfl (gf_cons rfl gf_nil)))))) (ct65 449 sc44 (Int32.ofInt 0) u_109_19 hIc44 hFc44 (in_w 0 1 (in_c 0 rfl) rfl) (in_w 0 32 i50 rfl) (in_w 0 448 ro_109_19 rfl) n65 n65a n65b n65c (m_in 449 (in_w 0 448 ro_109_19 rfl) rfl)))
  have ct2 : ∀ (k2 : Nat) (sc2 : GS) (y2_3 : Int32), Inv sc2 → Fr fm_312 s sc2 → (In y2_3 0 32) → (∀ k : Nat, (k : Int) < (y2_3).toInt → (sc2.2.1 130 k).toInt = 9000000000000000) → 32 - (y2_3).toInt < (k2 : Int) → GG Z (d - 1) 312 post (gx xp) (27617437 + k2 * 900) 2 (fun j => xlook j [(0, .ref (A 109)), (1, .int x1), (2, .int x2), (3, .int y2_3)]) [] (WW Z A sc2 ++ ex) 0 0 := by
    intro k2
    induction k2 with
    | zero => intro sc2 y2_3 hIc2 hFc2 j2_3 g2_0 mm2; exact m_no mm2 j2_3 rfl
    | succ k2 ih2 =>
      intro sc2 y2_3 hIc2 hFc2 j2_3 g2_0 mm2
      refine gg_w (M := 27617437 + k2 * 900 + 900) (by omega) (g_iload_n 3 (gd rfl) rfl rfl (g_aload_n 4 (gd rfl) rfl rfl (g_getIv (y := u_109_20) 7 (gd rfl) rfl rfl rfl (fr_F e_109_20 hFc2 rfl) (g_cmp_ge 10 32 (gd rfl) rfl rfl (fun c7 => ?_) (fun c7 => ?_)))))
      · skip
        refine g_aload_n 33 (gd rfl) rfl rfl (g_getA (q2 := 130) 36 (gd rfl) rfl rfl rfl rfl (g_iload_n 37 (gd rfl) rfl rfl (g_lconst 0 38 (gd rfl) rfl rfl (g_lastore 39 (gd rfl) rfl (n := 32) rfl (in_ix h1 rfl) (have hI38 := inv_sL (q := 130) (j := x1.toNatClampNeg) (x := (Int64.ofInt 0)) hIc2 rfl (l_rng (Int64.ofInt 0)); g_iconst 1 40 (gd rfl) rfl rfl (g_istore_n 41 (gd rfl) rfl (Nat.le_of_ble_eq_true rfl) (g_iconst 0 42 (gd rfl) rfl rfl (g_istore 44 (gd rfl) rfl (Nat.le_of_ble_eq_true rfl) ?_))))))))
        have n44 : TGI s (x1).toNatClampNeg (x2) (160000000 * ((Int32.ofInt 0)).toInt) (sL sc2 130 x1.toNatClampNeg (Int64.ofInt 0)) := by exact tgi_0 (by have h0 : (Int32.ofInt 0).toInt = 0 := rfl; omega) (by rw [show ((sL sc2 130 x1.toNatClampNeg (Int64.ofInt 0))).2.1 130 = vp_updL (sc2.2.1 130) x1.toNatClampNeg (Int64.ofInt 0) from (by simp [sL]), ul_eq]; rfl) (fun v hv hne => by rw [show ((sL sc2 130 x1.toNatClampNeg (Int64.ofInt 0))).2.1 130 = vp_updL (sc2.2.1 130) x1.toNatClampNeg (Int64.ofInt 0) from (by simp [sL]), ul_ne hne]; exact g2_0 v (by unfold nmx at hv; rw [← e_109_20] at hv; exact (have a0 := in_u h1; have a1 := in_u ro_109_20; have a2 := in_u ro_109_19; have a3 := in_u j2_3; have a4 := in_u ((in_c 0 rfl)); have a5 := in_u ((in_c 1 rfl)); by omega)))
        have n44a : ((Int32.ofInt 1)).toInt = 0 → TCL s (x2) (sL sc2 130 x1.toNatClampNeg (Int64.ofInt 0)) 160 := by (intro hz; exfalso; have h0 : (Int32.ofInt 1).toInt = 1 := rfl; omega)
        exact gg_w (by omega) (gg_f (gf_cons rfl (gf_cons rfl (gf_cons rfl (gf_cons rfl (gf_cons rfl gf_nil))))) (ct44 34 (sL sc2 130 x1.toNatClampNeg (Int64.ofInt 0)) (Int32.ofInt 1) (Int32.ofInt 0) hI38 (fr_sL rfl hFc2) (in_w 0 1 (in_c 1 rfl) rfl) (in_w 0 33 (in_c 0 rfl) rfl) n44 n44a (m_in 34 (in_w 0 33 (in_c 0 rfl) rfl) rfl)))
      · skip
        have i7 := r_lt1 0 31 c7 j2_3 ro_109_20 rfl
        have i7a := r_lt2 1 32 c7 j2_3 ro_109_20 rfl
        refine g_aload_n 11 (gd rfl) rfl rfl (g_getA (q2 := 130) 14 (gd rfl) rfl rfl rfl rfl (g_iload_n 15 (gd rfl) rfl rfl (g_ldc2_w 9000000000000000 18 (gd rfl) rfl rfl (g_lastore 19 (gd rfl) rfl (n := 32) rfl (in_ix i7 rfl) (have hI18 := inv_sL (q := 130) (j := y2_3.toNatClampNeg) (x := (Int64.ofInt 9000000000000000)) hIc2 rfl (l_rng (Int64.ofInt 9000000000000000)); g_aload_n 20 (gd rfl) rfl rfl (g_getA (q2 := 131) 23 (gd rfl) rfl rfl rfl rfl (g_iload_n 24 (gd rfl) rfl rfl (g_iconst 0 25 (gd rfl) rfl rfl (g_iastore 26 (gd rfl) rfl (n := 32) rfl (in_ix i7 rfl) (have hI25 := inv_sI (q := 131) (j := y2_3.toNatClampNeg) hI18 rfl (in_w (-2147483648) 2147483647 (in_c 0 rfl) rfl); g_iinc 29 (gd rfl) rfl rfl (Nat.le_of_ble_eq_true rfl) (fun z26 e26 => have i26 := in_add 1 32 e26 i7 (in_c 1 rfl) rfl rfl; g_goto 2 (gd rfl) rfl ?_)))))))))))
        have n2 : ∀ k : Nat, (k : Int) < (z26).toInt → ((sI (sL sc2 130 y2_3.toNatClampNeg (Int64.ofInt 9000000000000000)) 131 y2_3.toNatClampNeg (Int32.ofInt 0)).2.1 130 k).toInt = 9000000000000000 := by (intro k hk; have e2 : y2_3.toNatClampNeg = y2_3.toInt.toNat := rfl; rw [show ((sI (sL sc2 130 y2_3.toNatClampNeg (Int64.ofInt 9000000000000000)) 131 y2_3.toNatClampNeg (Int32.ofInt 0))).2.1 130 = vp_updL (sc2.2.1 130) y2_3.toNatClampNeg (Int64.ofInt 9000000000000000) from (by simp [sI, sL])]; by_cases c : k = y2_3.toNatClampNeg; (rw [c, ul_eq]; exact (by have hl : InL (Int64.ofInt 9000000000000000) 9000000000000000 9000000000000000 := l_c 9000000000000000 rfl; exact Int.le_antisymm hl.2 hl.1)); (rw [ul_ne c]; exact g2_0 k (by exact (have a0 := in_u h1; have a1 := in_u i7a; have a2 := in_u ro_109_19; have a3 := in_u i7; have a4 := in_u i26; have a5 := t_add e26 i7 (in_c 1 rfl) rfl; have a6 := in_u ((in_c 1 rfl)); by omega))))
        exact gg_w (by omega) (gg_f (gf_cons rfl (gf_cons rfl (gf_cons rfl (gf_cons rfl gf_nil)))) (ih2 (sI (sL sc2 130 y2_3.toNatClampNeg (Int64.ofInt 9000000000000000)) 131 y2_3.toNatClampNeg (Int32.ofInt 0)) z26 hI25 (fr_sI rfl (fr_sL rfl hFc2)) (in_w 0 32 i26 rfl) n2 (m_up mm2 (t_add e26 i7 (in_c 1 rfl) rfl) (in_w 1 1 (in_c 1 rfl) rfl))))
  refine g_enter2 (k := 312) (N := 27648037) (by omega) rfl (Nat.le_of_ble_eq_true rfl) (g_iconst 0 1 (gd rfl) rfl rfl (g_istore_n 2 (gd rfl) rfl (Nat.le_of_ble_eq_true rfl) ?_))
  have n2 : ∀ k : Nat, (k : Int) < ((Int32.ofInt 0)).toInt → (s.2.1 130 k).toInt = 9000000000000000 := by (intro k hk; exfalso; have h0 : (Int32.ofInt 0).toInt = 0 := rfl; omega)
  exact gg_w (by omega) (gg_f (gf_cons rfl (gf_cons rfl (gf_cons rfl (gf_cons rfl gf_nil)))) (ct2 33 s (Int32.ofInt 0) hI fr_rf (in_w 0 32 (in_c 0 rfl) rfl) n2 (m_in 33 (in_w 0 32 (in_c 0 rfl) rfl) rfl)))

def fm_315 : FM := ([129, 131], [130], [(109, 0)], [])
/-- GraphHouseModel.distance -/
theorem k_315 {Z : AmZ} {A : Nat → Nat} {s : GS} {ex : va_W} {d : Nat} {X : AmX} {x1 : Int32} {x2 : Int32} (hd : 5 ≤ d) (hI : Inv s)  : GC Z d 315 [.ref (A 109), .int x1, .int x2] (WW Z A s ++ ex) 0 0 (fun v u => ∃ t : GS, Inv t ∧ Fr fm_315 s t ∧ ∃ z : Int64, v = some (.long z) ∧ u = WW Z A t ++ ex) X := by
  intro post xp hP hX
  obtain ⟨u_109_20, e_109_20⟩ : ∃ w, w = s.2.2.1 109 20 := ⟨_, rfl⟩
  have ro_109_20 := inv_F hI 0 32 rfl e_109_20
  refine g_enter2 (k := 315) (N := 900) (by omega) rfl (Nat.le_of_ble_eq_true rfl) (g_aload_n 1 (gd rfl) rfl rfl (g_aload_n 2 (gd rfl) rfl rfl (g_iload_n 3 (gd rfl) rfl rfl ?_)))
  refine g_callv (X := _) (As := [.int x1]) (r := [.ref (A 109)]) (b := A 109) (q := 109) 6 (gd rfl) rfl rfl rfl rfl rfl (ww_o rfl) (Nat.le_of_ble_eq_true rfl) (mc := 0) (ms := 0) (Nat.zero_le _) (Nat.zero_le _) (P := fun v u => _) ?_ (fun e u h => h) (fun v u h => h)
  intro po3 xx3 hp3 hx3
  refine g_enter2 (k := 272) (N := 300) (by omega) rfl (Nat.le_of_ble_eq_true rfl) (g_iload_n 1 (gd rfl) rfl rfl (g_if_lt 4 16 (gd rfl) rfl rfl (fun c3x1 => ?_) (fun c3x1 => ?_)))
  · skip
    have i3x1 := z_lt (-2147483648) (-1) c3x1 (i_rng x1) rfl
    refine g_iconst 0 17 (gd rfl) rfl rfl ?_
    refine g_ireturn (gd rfl) rfl (nb01 (in_w 0 1 (in_c 0 rfl) rfl)) (hp3 _ _ ?_)
    show GG _ _ _ _ _ _ _ _ [.int (Int32.ofInt 0), .ref (A 109)] _ _ _
    refine g_if_eq 9 21 (gd rfl) rfl rfl (fun c6 => ?_) (fun c6 => ?_)
    · skip
      refine g_iconst 0 22 (gd rfl) rfl rfl ?_
      refine g_callv (X := _) (As := [.int (Int32.ofInt 0)]) (r := []) (b := A 109) (q := 109) 25 (gd rfl) rfl rfl rfl rfl rfl (ww_o rfl) (Nat.le_of_ble_eq_true rfl) (mc := 0) (ms := 0) (Nat.zero_le _) (Nat.zero_le _) (P := fun v u => _) ?_ (fun e u h => h) (fun v u h => h)
      intro po22 xx22 hp22 hx22
      refine g_enter2 (k := 271) (N := 300) (by omega) rfl (Nat.le_of_ble_eq_true rfl) (g_aload_n 1 (gd rfl) rfl rfl (g_iload_n 2 (gd rfl) rfl rfl (g_iconst 1 3 (gd rfl) rfl rfl ?_)))
      refine g_callv (X := _) (As := [.int (Int32.ofInt 0), .int (Int32.ofInt 1)]) (r := []) (b := A 109) (q := 109) 6 (gd rfl) rfl rfl rfl rfl rfl (ww_o rfl) (Nat.le_of_ble_eq_true rfl) (mc := 0) (ms := 0) (Nat.zero_le _) (Nat.zero_le _) (P := fun v u => _) ?_ (fun e u h => h) (fun v u h => h)
      intro po22x3 xx22x3 hp22x3 hx22x3
      refine g_enter2 (k := 270) (N := 300) (by omega) rfl (Nat.le_of_ble_eq_true rfl) (g_aload_n 1 (gd rfl) rfl rfl (g_iload_n 2 (gd rfl) rfl rfl (g_if_ne 5 9 (gd rfl) rfl rfl (fun c22x3x2 => ?_) (fun c22x3x2 => ?_))))
      · skip
        exact zn_ne c22x3x2 (in_c 0 rfl) rfl
      · skip
        refine g_iconst 1 6 (gd rfl) rfl rfl (g_goto 18 (gd rfl) rfl (g_putI 21 (gd rfl) rfl rfl rfl rfl (have hI22x3x18 := inv_sF (q := 109) (j := 0) hI rfl (in_w 0 2 (in_c 1 rfl) rfl); g_aload_n 22 (gd rfl) rfl rfl (g_getIv (y := (Int32.ofInt 1)) 25 (gd rfl) rfl rfl rfl (sF_get) (g_if_le 28 32 (gd rfl) rfl rfl (fun c22x3x25 => ?_) (fun c22x3x25 => ?_))))))
        · skip
          exact zn_le c22x3x25 (in_c 1 rfl) rfl
        · skip
          refine g_iconst 1 29 (gd rfl) rfl rfl (g_goto 33 (gd rfl) rfl ?_)
          refine g_ireturn (gd rfl) rfl (nb01 (in_w 0 1 (in_c 1 rfl) rfl)) (hp22x3 _ _ ?_)
          show GG _ _ _ _ _ _ _ _ [.int (Int32.ofInt 1)] _ _ _
          refine g_ireturn (gd rfl) rfl (nb01 (in_w 0 1 (in_c 1 rfl) rfl)) (hp22 _ _ ?_)
          show GG _ _ _ _ _ _ _ _ [.int (Int32.ofInt 1)] _ _ _
          refine g_if_eq 28 30 (gd rfl) rfl rfl (fun c25 => ?_) (fun c25 => ?_)
          · skip
            exact zn_eq c25 (in_c 1 rfl) rfl
          · skip
            exact g_lconst 0 29 (gd rfl) rfl rfl (g_lreturn (gd rfl) rfl (hP _ _ ⟨(sF s 109 0 (Int32.ofInt 1)), hI22x3x18, (fr_sF rfl fr_rf), (Int64.ofInt 0), rfl, rfl⟩))
    · skip
      exact zn_ne c6 (in_c 0 rfl) rfl
  · skip
    have i3x1 := z_ge 0 2147483647 c3x1 (i_rng x1) rfl
    refine g_iload_n 5 (gd rfl) rfl rfl (g_aload_n 6 (gd rfl) rfl rfl (g_getIv (y := u_109_20) 9 (gd rfl) rfl rfl rfl (e_109_20) (g_cmp_ge 12 16 (gd rfl) rfl rfl (fun c3x9 => ?_) (fun c3x9 => ?_))))
    · skip
      refine g_iconst 0 17 (gd rfl) rfl rfl ?_
      refine g_ireturn (gd rfl) rfl (nb01 (in_w 0 1 (in_c 0 rfl) rfl)) (hp3 _ _ ?_)
      show GG _ _ _ _ _ _ _ _ [.int (Int32.ofInt 0), .ref (A 109)] _ _ _
      refine g_if_eq 9 21 (gd rfl) rfl rfl (fun c6 => ?_) (fun c6 => ?_)
      · skip
        refine g_iconst 0 22 (gd rfl) rfl rfl ?_
        refine g_callv (X := _) (As := [.int (Int32.ofInt 0)]) (r := []) (b := A 109) (q := 109) 25 (gd rfl) rfl rfl rfl rfl rfl (ww_o rfl) (Nat.le_of_ble_eq_true rfl) (mc := 0) (ms := 0) (Nat.zero_le _) (Nat.zero_le _) (P := fun v u => _) ?_ (fun e u h => h) (fun v u h => h)
        intro po22 xx22 hp22 hx22
        refine g_enter2 (k := 271) (N := 300) (by omega) rfl (Nat.le_of_ble_eq_true rfl) (g_aload_n 1 (gd rfl) rfl rfl (g_iload_n 2 (gd rfl) rfl rfl (g_iconst 1 3 (gd rfl) rfl rfl ?_)))
        refine g_callv (X := _) (As := [.int (Int32.ofInt 0), .int (Int32.ofInt 1)]) (r := []) (b := A 109) (q := 109) 6 (gd rfl) rfl rfl rfl rfl rfl (ww_o rfl) (Nat.le_of_ble_eq_true rfl) (mc := 0) (ms := 0) (Nat.zero_le _) (Nat.zero_le _) (P := fun v u => _) ?_ (fun e u h => h) (fun v u h => h)
        intro po22x3 xx22x3 hp22x3 hx22x3
        refine g_enter2 (k := 270) (N := 300) (by omega) rfl (Nat.le_of_ble_eq_true rfl) (g_aload_n 1 (gd rfl) rfl rfl (g_iload_n 2 (gd rfl) rfl rfl (g_if_ne 5 9 (gd rfl) rfl rfl (fun c22x3x2 => ?_) (fun c22x3x2 => ?_))))
        · skip
          exact zn_ne c22x3x2 (in_c 0 rfl) rfl
        · skip
          refine g_iconst 1 6 (gd rfl) rfl rfl (g_goto 18 (gd rfl) rfl (g_putI 21 (gd rfl) rfl rfl rfl rfl (have hI22x3x18 := inv_sF (q := 109) (j := 0) hI rfl (in_w 0 2 (in_c 1 rfl) rfl); g_aload_n 22 (gd rfl) rfl rfl (g_getIv (y := (Int32.ofInt 1)) 25 (gd rfl) rfl rfl rfl (sF_get) (g_if_le 28 32 (gd rfl) rfl rfl (fun c22x3x25 => ?_) (fun c22x3x25 => ?_))))))
          · skip
            exact zn_le c22x3x25 (in_c 1 rfl) rfl
          · skip
            refine g_iconst 1 29 (gd rfl) rfl rfl (g_goto 33 (gd rfl) rfl ?_)
            refine g_ireturn (gd rfl) rfl (nb01 (in_w 0 1 (in_c 1 rfl) rfl)) (hp22x3 _ _ ?_)
            show GG _ _ _ _ _ _ _ _ [.int (Int32.ofInt 1)] _ _ _
            refine g_ireturn (gd rfl) rfl (nb01 (in_w 0 1 (in_c 1 rfl) rfl)) (hp22 _ _ ?_)
            show GG _ _ _ _ _ _ _ _ [.int (Int32.ofInt 1)] _ _ _
            refine g_if_eq 28 30 (gd rfl) rfl rfl (fun c25 => ?_) (fun c25 => ?_)
            · skip
              exact zn_eq c25 (in_c 1 rfl) rfl
            · skip
              exact g_lconst 0 29 (gd rfl) rfl rfl (g_lreturn (gd rfl) rfl (hP _ _ ⟨(sF s 109 0 (Int32.ofInt 1)), hI22x3x18, (fr_sF rfl fr_rf), (Int64.ofInt 0), rfl, rfl⟩))
      · skip
        exact zn_ne c6 (in_c 0 rfl) rfl
    · skip
      have i3x9 := r_lt1 0 31 c3x9 i3x1 ro_109_20 rfl
      have i3x9a := r_lt2 1 32 c3x9 i3x1 ro_109_20 rfl
      refine g_iconst 1 13 (gd rfl) rfl rfl (g_goto 17 (gd rfl) rfl ?_)
      refine g_ireturn (gd rfl) rfl (nb01 (in_w 0 1 (in_c 1 rfl) rfl)) (hp3 _ _ ?_)
      show GG _ _ _ _ _ _ _ _ [.int (Int32.ofInt 1), .ref (A 109)] _ _ _
      refine g_if_eq 9 21 (gd rfl) rfl rfl (fun c6 => ?_) (fun c6 => ?_)
      · skip
        exact zn_eq c6 (in_c 1 rfl) rfl
      · skip
        refine g_aload_n 10 (gd rfl) rfl rfl (g_iload_n 11 (gd rfl) rfl rfl ?_)
        refine g_callv (X := _) (As := [.int x2]) (r := [.ref (A 109)]) (b := A 109) (q := 109) 14 (gd rfl) rfl rfl rfl rfl rfl (ww_o rfl) (Nat.le_of_ble_eq_true rfl) (mc := 0) (ms := 0) (Nat.zero_le _) (Nat.zero_le _) (P := fun v u => _) ?_ (fun e u h => h) (fun v u h => h)
        intro po11 xx11 hp11 hx11
        refine g_enter2 (k := 272) (N := 300) (by omega) rfl (Nat.le_of_ble_eq_true rfl) (g_iload_n 1 (gd rfl) rfl rfl (g_if_lt 4 16 (gd rfl) rfl rfl (fun c11x1 => ?_) (fun c11x1 => ?_)))
        · skip
          have i11x1 := z_lt (-2147483648) (-1) c11x1 (i_rng x2) rfl
          refine g_iconst 0 17 (gd rfl) rfl rfl ?_
          refine g_ireturn (gd rfl) rfl (nb01 (in_w 0 1 (in_c 0 rfl) rfl)) (hp11 _ _ ?_)
          show GG _ _ _ _ _ _ _ _ [.int (Int32.ofInt 0), .ref (A 109)] _ _ _
          refine g_if_eq 17 21 (gd rfl) rfl rfl (fun c14 => ?_) (fun c14 => ?_)
          · skip
            refine g_iconst 0 22 (gd rfl) rfl rfl ?_
            refine g_callv (X := _) (As := [.int (Int32.ofInt 0)]) (r := []) (b := A 109) (q := 109) 25 (gd rfl) rfl rfl rfl rfl rfl (ww_o rfl) (Nat.le_of_ble_eq_true rfl) (mc := 0) (ms := 0) (Nat.zero_le _) (Nat.zero_le _) (P := fun v u => _) ?_ (fun e u h => h) (fun v u h => h)
            intro po22 xx22 hp22 hx22
            refine g_enter2 (k := 271) (N := 300) (by omega) rfl (Nat.le_of_ble_eq_true rfl) (g_aload_n 1 (gd rfl) rfl rfl (g_iload_n 2 (gd rfl) rfl rfl (g_iconst 1 3 (gd rfl) rfl rfl ?_)))
            refine g_callv (X := _) (As := [.int (Int32.ofInt 0), .int (Int32.ofInt 1)]) (r := []) (b := A 109) (q := 109) 6 (gd rfl) rfl rfl rfl rfl rfl (ww_o rfl) (Nat.le_of_ble_eq_true rfl) (mc := 0) (ms := 0) (Nat.zero_le _) (Nat.zero_le _) (P := fun v u => _) ?_ (fun e u h => h) (fun v u h => h)
            intro po22x3 xx22x3 hp22x3 hx22x3
            refine g_enter2 (k := 270) (N := 300) (by omega) rfl (Nat.le_of_ble_eq_true rfl) (g_aload_n 1 (gd rfl) rfl rfl (g_iload_n 2 (gd rfl) rfl rfl (g_if_ne 5 9 (gd rfl) rfl rfl (fun c22x3x2 => ?_) (fun c22x3x2 => ?_))))
            · skip
              exact zn_ne c22x3x2 (in_c 0 rfl) rfl
            · skip
              refine g_iconst 1 6 (gd rfl) rfl rfl (g_goto 18 (gd rfl) rfl (g_putI 21 (gd rfl) rfl rfl rfl rfl (have hI22x3x18 := inv_sF (q := 109) (j := 0) hI rfl (in_w 0 2 (in_c 1 rfl) rfl); g_aload_n 22 (gd rfl) rfl rfl (g_getIv (y := (Int32.ofInt 1)) 25 (gd rfl) rfl rfl rfl (sF_get) (g_if_le 28 32 (gd rfl) rfl rfl (fun c22x3x25 => ?_) (fun c22x3x25 => ?_))))))
              · skip
                exact zn_le c22x3x25 (in_c 1 rfl) rfl
              · skip
                refine g_iconst 1 29 (gd rfl) rfl rfl (g_goto 33 (gd rfl) rfl ?_)
                refine g_ireturn (gd rfl) rfl (nb01 (in_w 0 1 (in_c 1 rfl) rfl)) (hp22x3 _ _ ?_)
                show GG _ _ _ _ _ _ _ _ [.int (Int32.ofInt 1)] _ _ _
                refine g_ireturn (gd rfl) rfl (nb01 (in_w 0 1 (in_c 1 rfl) rfl)) (hp22 _ _ ?_)
                show GG _ _ _ _ _ _ _ _ [.int (Int32.ofInt 1)] _ _ _
                refine g_if_eq 28 30 (gd rfl) rfl rfl (fun c25 => ?_) (fun c25 => ?_)
                · skip
                  exact zn_eq c25 (in_c 1 rfl) rfl
                · skip
                  exact g_lconst 0 29 (gd rfl) rfl rfl (g_lreturn (gd rfl) rfl (hP _ _ ⟨(sF s 109 0 (Int32.ofInt 1)), hI22x3x18, (fr_sF rfl fr_rf), (Int64.ofInt 0), rfl, rfl⟩))
          · skip
            exact zn_ne c14 (in_c 0 rfl) rfl
        · skip
          have i11x1 := z_ge 0 2147483647 c11x1 (i_rng x2) rfl
          refine g_iload_n 5 (gd rfl) rfl rfl (g_aload_n 6 (gd rfl) rfl rfl (g_getIv (y := u_109_20) 9 (gd rfl) rfl rfl rfl (e_109_20) (g_cmp_ge 12 16 (gd rfl) rfl rfl (fun c11x9 => ?_) (fun c11x9 => ?_))))
          · skip
            have i11x9 := r_le2 1 2147483647 c11x9 i3x9a i11x1 rfl
            refine g_iconst 0 17 (gd rfl) rfl rfl ?_
            refine g_ireturn (gd rfl) rfl (nb01 (in_w 0 1 (in_c 0 rfl) rfl)) (hp11 _ _ ?_)
            show GG _ _ _ _ _ _ _ _ [.int (Int32.ofInt 0), .ref (A 109)] _ _ _
            refine g_if_eq 17 21 (gd rfl) rfl rfl (fun c14 => ?_) (fun c14 => ?_)
            · skip
              refine g_iconst 0 22 (gd rfl) rfl rfl ?_
              refine g_callv (X := _) (As := [.int (Int32.ofInt 0)]) (r := []) (b := A 109) (q := 109) 25 (gd rfl) rfl rfl rfl rfl rfl (ww_o rfl) (Nat.le_of_ble_eq_true rfl) (mc := 0) (ms := 0) (Nat.zero_le _) (Nat.zero_le _) (P := fun v u => _) ?_ (fun e u h => h) (fun v u h => h)
              intro po22 xx22 hp22 hx22
              refine g_enter2 (k := 271) (N := 300) (by omega) rfl (Nat.le_of_ble_eq_true rfl) (g_aload_n 1 (gd rfl) rfl rfl (g_iload_n 2 (gd rfl) rfl rfl (g_iconst 1 3 (gd rfl) rfl rfl ?_)))
              refine g_callv (X := _) (As := [.int (Int32.ofInt 0), .int (Int32.ofInt 1)]) (r := []) (b := A 109) (q := 109) 6 (gd rfl) rfl rfl rfl rfl rfl (ww_o rfl) (Nat.le_of_ble_eq_true rfl) (mc := 0) (ms := 0) (Nat.zero_le _) (Nat.zero_le _) (P := fun v u => _) ?_ (fun e u h => h) (fun v u h => h)
              intro po22x3 xx22x3 hp22x3 hx22x3
              refine g_enter2 (k := 270) (N := 300) (by omega) rfl (Nat.le_of_ble_eq_true rfl) (g_aload_n 1 (gd rfl) rfl rfl (g_iload_n 2 (gd rfl) rfl rfl (g_if_ne 5 9 (gd rfl) rfl rfl (fun c22x3x2 => ?_) (fun c22x3x2 => ?_))))
              · skip
                exact zn_ne c22x3x2 (in_c 0 rfl) rfl
              · skip
                refine g_iconst 1 6 (gd rfl) rfl rfl (g_goto 18 (gd rfl) rfl (g_putI 21 (gd rfl) rfl rfl rfl rfl (have hI22x3x18 := inv_sF (q := 109) (j := 0) hI rfl (in_w 0 2 (in_c 1 rfl) rfl); g_aload_n 22 (gd rfl) rfl rfl (g_getIv (y := (Int32.ofInt 1)) 25 (gd rfl) rfl rfl rfl (sF_get) (g_if_le 28 32 (gd rfl) rfl rfl (fun c22x3x25 => ?_) (fun c22x3x25 => ?_))))))
                · skip
                  exact zn_le c22x3x25 (in_c 1 rfl) rfl
                · skip
                  refine g_iconst 1 29 (gd rfl) rfl rfl (g_goto 33 (gd rfl) rfl ?_)
                  refine g_ireturn (gd rfl) rfl (nb01 (in_w 0 1 (in_c 1 rfl) rfl)) (hp22x3 _ _ ?_)
                  show GG _ _ _ _ _ _ _ _ [.int (Int32.ofInt 1)] _ _ _
                  refine g_ireturn (gd rfl) rfl (nb01 (in_w 0 1 (in_c 1 rfl) rfl)) (hp22 _ _ ?_)
                  show GG _ _ _ _ _ _ _ _ [.int (Int32.ofInt 1)] _ _ _
                  refine g_if_eq 28 30 (gd rfl) rfl rfl (fun c25 => ?_) (fun c25 => ?_)
                  · skip
                    exact zn_eq c25 (in_c 1 rfl) rfl
                  · skip
                    exact g_lconst 0 29 (gd rfl) rfl rfl (g_lreturn (gd rfl) rfl (hP _ _ ⟨(sF s 109 0 (Int32.ofInt 1)), hI22x3x18, (fr_sF rfl fr_rf), (Int64.ofInt 0), rfl, rfl⟩))
            · skip
              exact zn_ne c14 (in_c 0 rfl) rfl
          · skip
            have i11x9 := r_lt1 0 31 c11x9 i11x1 i3x9a rfl
            refine g_iconst 1 13 (gd rfl) rfl rfl (g_goto 17 (gd rfl) rfl ?_)
            refine g_ireturn (gd rfl) rfl (nb01 (in_w 0 1 (in_c 1 rfl) rfl)) (hp11 _ _ ?_)
            show GG _ _ _ _ _ _ _ _ [.int (Int32.ofInt 1), .ref (A 109)] _ _ _
            refine g_if_eq 17 21 (gd rfl) rfl rfl (fun c14 => ?_) (fun c14 => ?_)
            · skip
              exact zn_eq c14 (in_c 1 rfl) rfl
            · skip
              refine g_iconst 1 18 (gd rfl) rfl rfl (g_goto 22 (gd rfl) rfl ?_)
              refine g_callv (X := _) (As := [.int (Int32.ofInt 1)]) (r := []) (b := A 109) (q := 109) 25 (gd rfl) rfl rfl rfl rfl rfl (ww_o rfl) (Nat.le_of_ble_eq_true rfl) (mc := 0) (ms := 0) (Nat.zero_le _) (Nat.zero_le _) (P := fun v u => _) ?_ (fun e u h => h) (fun v u h => h)
              intro po22 xx22 hp22 hx22
              refine g_enter2 (k := 271) (N := 300) (by omega) rfl (Nat.le_of_ble_eq_true rfl) (g_aload_n 1 (gd rfl) rfl rfl (g_iload_n 2 (gd rfl) rfl rfl (g_iconst 1 3 (gd rfl) rfl rfl ?_)))
              refine g_callv (X := _) (As := [.int (Int32.ofInt 1), .int (Int32.ofInt 1)]) (r := []) (b := A 109) (q := 109) 6 (gd rfl) rfl rfl rfl rfl rfl (ww_o rfl) (Nat.le_of_ble_eq_true rfl) (mc := 0) (ms := 0) (Nat.zero_le _) (Nat.zero_le _) (P := fun v u => _) ?_ (fun e u h => h) (fun v u h => h)
              intro po22x3 xx22x3 hp22x3 hx22x3
              refine g_enter2 (k := 270) (N := 300) (by omega) rfl (Nat.le_of_ble_eq_true rfl) (g_aload_n 1 (gd rfl) rfl rfl (g_iload_n 2 (gd rfl) rfl rfl (g_if_ne 5 9 (gd rfl) rfl rfl (fun c22x3x2 => ?_) (fun c22x3x2 => ?_))))
              · skip
                refine g_iload_n 10 (gd rfl) rfl rfl (g_if_ne 13 17 (gd rfl) rfl rfl (fun c22x3x10 => ?_) (fun c22x3x10 => ?_))
                · skip
                  refine g_iconst 0 18 (gd rfl) rfl rfl (g_putI 21 (gd rfl) rfl rfl rfl rfl (have hI22x3x18 := inv_sF (q := 109) (j := 0) hI rfl (in_w 0 2 (in_c 0 rfl) rfl); g_aload_n 22 (gd rfl) rfl rfl (g_getIv (y := (Int32.ofInt 0)) 25 (gd rfl) rfl rfl rfl (sF_get) (g_if_le 28 32 (gd rfl) rfl rfl (fun c22x3x25 => ?_) (fun c22x3x25 => ?_)))))
                  · skip
                    refine g_iconst 0 33 (gd rfl) rfl rfl ?_
                    refine g_ireturn (gd rfl) rfl (nb01 (in_w 0 1 (in_c 0 rfl) rfl)) (hp22x3 _ _ ?_)
                    show GG _ _ _ _ _ _ _ _ [.int (Int32.ofInt 0)] _ _ _
                    refine g_ireturn (gd rfl) rfl (nb01 (in_w 0 1 (in_c 0 rfl) rfl)) (hp22 _ _ ?_)
                    show GG _ _ _ _ _ _ _ _ [.int (Int32.ofInt 0)] _ _ _
                    refine g_if_eq 28 30 (gd rfl) rfl rfl (fun c25 => ?_) (fun c25 => ?_)
                    · skip
                      refine g_aload_n 31 (gd rfl) rfl rfl (g_iload_n 32 (gd rfl) rfl rfl (g_iload_n 33 (gd rfl) rfl rfl ?_))
                      have p33 : (x1).toInt < nmx (sF s 109 0 (Int32.ofInt 0)) ∧ (x2).toInt < nmx (sF s 109 0 (Int32.ofInt 0)) := by exact ⟨by unfold nmx; rw [← (show u_109_20 = (sF s 109 0 (Int32.ofInt 0)).2.2.1 109 20 from sF_ne rfl (e_109_20))]; exact (have a0 := in_u i11x9; have a1 := in_u i3x9; have a2 := in_u i3x9a; have a3 := in_u ((in_c 0 rfl)); by omega), by unfold nmx; rw [← (show u_109_20 = (sF s 109 0 (Int32.ofInt 0)).2.2.1 109 20 from sF_ne rfl (e_109_20))]; exact (have a0 := in_u i11x9; have a1 := in_u i3x9; have a2 := in_u i3x9a; have a3 := in_u ((in_c 0 rfl)); by omega)⟩
                      refine g_callv (X := _) (As := [.int x1, .int x2]) (r := []) (b := A 109) (q := 109) 36 (gd rfl) rfl rfl rfl rfl rfl (ww_o rfl) (Nat.le_of_ble_eq_true rfl) (Nat.zero_le _) (Nat.zero_le _) (k_314 (by omega) hI22x3x18 (in_w 0 31 i3x9 rfl) (in_w 0 31 i11x9 rfl) p33) (fun e u h => h) (fun v u h => ?_)
                      obtain ⟨s33, hI33, hF33, z33, rfl, rfl, i33, p33a⟩ := h
                      show GG _ _ _ _ _ _ _ _ [.int z33] _ _ _
                      refine g_istore_n 37 (gd rfl) rfl (Nat.le_of_ble_eq_true rfl) (g_iload_n 38 (gd rfl) rfl rfl (g_if_ne 41 47 (gd rfl) rfl rfl (fun c38 => ?_) (fun c38 => ?_)))
                      · skip
                        refine g_aload_n 48 (gd rfl) rfl rfl (g_iload_n 49 (gd rfl) rfl rfl (g_iload_n 50 (gd rfl) rfl rfl ?_))
                        have p50 : BTS s33 (x2).toNatClampNeg (z33) := by exact (p33a (by have h := c38; omega)).1
                        refine g_callv (X := _) (As := [.int x2, .int z33]) (r := []) (b := A 109) (q := 109) 53 (gd rfl) rfl rfl rfl rfl rfl (ww_o rfl) (Nat.le_of_ble_eq_true rfl) (Nat.zero_le _) (Nat.zero_le _) (k_312 (by omega) hI33 (in_w 0 31 i11x9 rfl) p50) (fun e u h => h) (fun v u h => ?_)
                        obtain ⟨s50, hI50, hF50, z50, rfl, rfl, i50, p50a⟩ := h
                        show GG _ _ _ _ _ _ _ _ [.int z50] _ _ _
                        refine g_if_eq 56 65 (gd rfl) rfl rfl (fun c53 => ?_) (fun c53 => ?_)
                        · skip
                          have i53 := z_eq 0 0 c53 i50 rfl
                          exact g_ldc2_w 9000000000000001 68 (gd rfl) rfl rfl (g_lreturn (gd rfl) rfl (hP _ _ ⟨s50, hI50, (fr_tr rfl (fr_tr rfl (fr_sF rfl fr_rf) hF33) hF50), (Int64.ofInt 9000000000000001), rfl, rfl⟩))
                        · skip
                          have i53 := z_ne 1 1 c53 i50 rfl
                          exact g_aload_n 57 (gd rfl) rfl rfl (g_getA (q2 := 130) 60 (gd rfl) rfl rfl rfl rfl (g_iload_n 61 (gd rfl) rfl rfl (g_laload 62 (gd rfl) rfl (n := 32) rfl (in_ix i3x9 rfl) (fun z61 e61 => g_goto 68 (gd rfl) rfl (g_lreturn (gd rfl) rfl (hP _ _ ⟨s50, hI50, (fr_tr rfl (fr_tr rfl (fr_sF rfl fr_rf) hF33) hF50), z61, rfl, rfl⟩))))))
                      · skip
                        have i38 := z_eq 0 0 c38 i33 rfl
                        exact g_ldc2_w 9000000000000000 44 (gd rfl) rfl rfl (g_goto 68 (gd rfl) rfl (g_lreturn (gd rfl) rfl (hP _ _ ⟨s33, hI33, (fr_tr rfl (fr_sF rfl fr_rf) hF33), (Int64.ofInt 9000000000000000), rfl, rfl⟩)))
                    · skip
                      exact zn_ne c25 (in_c 0 rfl) rfl
                  · skip
                    exact zn_gt c22x3x25 (in_c 0 rfl) rfl
                · skip
                  exact zn_eq c22x3x10 (in_c 1 rfl) rfl
              · skip
                exact zn_eq c22x3x2 (in_c 1 rfl) rfl
