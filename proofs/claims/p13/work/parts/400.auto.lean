/-! methods, by vc.py -/
def fm_298 : FM := ([], [], [(109, 23), (109, 24)], [])
/-- GraphHouseModel.blame -/
theorem k_298 {Z : AmZ} {A : Nat → Nat} {s : GS} {ex : va_W} {d : Nat} {X : AmX} {x1 : Int32} {x2 : Int32} (hd : 1 ≤ d) (hI : Inv s) (h1 : In x1 1 5) : GC Z d 298 [.ref (A 109), .int x1, .int x2] (WW Z A s ++ ex) 0 0 (fun v u => ∃ t : GS, Inv t ∧ Fr fm_298 s t ∧ (1 ≤ (t.2.2.1 109 23).toInt) ∧ v = none ∧ u = WW Z A t ++ ex) X := by
  intro post xp hP hX
  refine g_enter2 (k := 298) (N := 900) (by omega) rfl (Nat.le_of_ble_eq_true rfl) ?_
  refine g_aload_n 1 (gd rfl) rfl rfl ?_
  refine g_getI 4 (gd rfl) rfl rfl rfl (fun z1 e1 => ?_)
  have i1 := inv_F hI 0 9 rfl e1
  refine g_if_ne 7 17 (gd rfl) rfl rfl (fun c4 => ?_) (fun c4 => ?_)
  · skip
    have i4 := z_ne 1 9 c4 i1 rfl
    have n17 : 1 ≤ (z1).toInt := by have a0 := h1; unfold In at a0; have a1 := i4; unfold In at a1; omega
    have n17a : 1 ≤ (s.2.2.1 109 23).toInt := by have b0 : z1 = s.2.2.1 109 23 := e1; rw [← b0]; exact n17
    exact g_return (gd rfl) rfl (hP _ _ ⟨s, hI, fr_rf, n17a, rfl, rfl⟩)
  · skip
    have i4 := z_eq 0 0 c4 i1 rfl
    refine g_aload_n 8 (gd rfl) rfl rfl ?_
    refine g_iload_n 9 (gd rfl) rfl rfl ?_
    refine g_putI 12 (gd rfl) rfl rfl rfl rfl ?_
    have hI9 := inv_sF (q := 109) (j := 23) hI rfl (in_w 0 9 h1 rfl)
    refine g_aload_n 13 (gd rfl) rfl rfl ?_
    refine g_iload_n 14 (gd rfl) rfl rfl ?_
    refine g_putI 17 (gd rfl) rfl rfl rfl rfl ?_
    have hI14 := inv_sF (q := 109) (j := 24) hI9 rfl (in_w (-2147483648) 2147483647 (i_rng x2) rfl)
    have n17 : 1 ≤ (x1).toInt := by have a0 := h1; unfold In at a0; omega
    have n17a : 1 ≤ ((sF (sF s 109 23 x1) 109 24 x2).2.2.1 109 23).toInt := by have b0 : x1 = (sF (sF s 109 23 x1) 109 24 x2).2.2.1 109 23 := sF_ne rfl (sF_get); rw [← b0]; exact n17
    exact g_return (gd rfl) rfl (hP _ _ ⟨(sF (sF s 109 23 x1) 109 24 x2), hI14, (fr_sF rfl (fr_sF rfl fr_rf)), n17a, rfl, rfl⟩)

def fm_300 : FM := ([], [], [(109, 23), (109, 24), (109, 27)], [(109, 31)])
/-- GraphHouseModel.readNumber -/
theorem k_300 {Z : AmZ} {A : Nat → Nat} {s : GS} {ex : va_W} {d : Nat} {X : AmX} {x1 : Int32} {u_109_27 : Int32} {u_109_22 : Int32} (hd : 3 ≤ d) (hI : Inv s) (h1 : In x1 6 7) (e_109_27 : u_109_27 = s.2.2.1 109 27) (e_109_22 : u_109_22 = s.2.2.1 109 22) (p_0 : (u_109_27).toInt < (u_109_22).toInt) (q_0 : 48 ≤ (s.1 125 (s.2.2.1 109 27).toNatClampNeg).toInt ∧ (s.1 125 (s.2.2.1 109 27).toNatClampNeg).toInt ≤ 57) : GC Z d 300 [.ref (A 109), .int x1] (WW Z A s ++ ex) 0 0 (fun v u => ∃ t : GS, Inv t ∧ Fr fm_300 s t ∧ ((t.2.2.1 109 27).toInt ≤ (t.2.2.1 109 22).toInt) ∧ ((s.2.2.1 109 27).toInt + 1 ≤ (t.2.2.1 109 27).toInt) ∧ v = none ∧ u = WW Z A t ++ ex) X := by
  intro post xp hP hX
  have ro_109_22 := inv_F hI 0 1000 rfl e_109_22
  obtain ⟨u_109_29, e_109_29⟩ : ∃ w, w = s.2.2.1 109 29 := ⟨_, rfl⟩
  have ro_109_29 := inv_F hI 0 1000 rfl e_109_29
  have ct10 : ∀ (k10 : Nat) (sc10 : GS) (y10_2 : Int32) (w10_109_27 : Int32), Inv sc10 → Fr fm_300 s sc10 → (In y10_2 0 1000) → (w10_109_27 = sc10.2.2.1 109 27) → ((w10_109_27).toInt ≤ (u_109_22).toInt) → ((u_109_27).toInt ≤ (w10_109_27).toInt) → (u_109_22).toInt - (w10_109_27).toInt < (k10 : Int) → GG Z (d - 1) 300 post (gx xp) (1 + k10 * 900) 10 (fun j => xlook j [(0, .ref (A 109)), (1, .int x1), (2, .int y10_2)]) [] (WW Z A sc10 ++ ex) 0 0 := by
    intro k10
    induction k10 with
    | zero => intro sc10 y10_2 w10_109_27 hIc10 hFc10 j10_2 v10_109_27 n10_0 n10_1 mm10; exfalso; have a0 := h1; unfold In at a0; have a1 := ro_109_29; unfold In at a1; have a2 := ro_109_22; unfold In at a2; have a3 := (inv_F hIc10 0 1000 rfl v10_109_27); unfold In at a3; have a4 := j10_2; unfold In at a4; omega
    | succ k10 ih10 =>
      intro sc10 y10_2 w10_109_27 hIc10 hFc10 j10_2 v10_109_27 n10_0 n10_1 mm10
      refine gg_w (M := 1 + k10 * 900 + 900) (by omega) ?_
      refine g_aload_n 11 (gd rfl) rfl rfl ?_
      refine g_getI 14 (gd rfl) rfl rfl rfl (fun z11 e11 => ?_)
      have q11 : w10_109_27 = z11 := (v10_109_27).trans e11.symm
      subst q11
      refine g_aload_n 15 (gd rfl) rfl rfl ?_
      refine g_getI 18 (gd rfl) rfl rfl rfl (fun z15 e15 => ?_)
      have q15 : u_109_22 = z15 := (fr_F e_109_22 hFc10 rfl).trans e15.symm
      subst q15
      refine g_cmp_ge 21 93 (gd rfl) rfl rfl (fun c18 => ?_) (fun c18 => ?_)
      · skip
        have hq93 : (u_109_27).toInt + 1 ≤ (w10_109_27).toInt := (by first | (have a0 := h1; unfold In at a0; have a1 := ro_109_29; unfold In at a1; have a2 := ro_109_22; unfold In at a2; have a3 := (inv_F hIc10 0 1000 rfl v10_109_27); unfold In at a3; have a4 := j10_2; unfold In at a4; omega) | (have hi := i30x3; unfold In at hi; have a0 := h1; unfold In at a0; have a1 := ro_109_29; unfold In at a1; have a2 := ro_109_22; unfold In at a2; have a3 := (inv_F hIc10 0 1000 rfl v10_109_27); unfold In at a3; have a4 := j10_2; unfold In at a4; omega) | (have hi := i30x9; unfold In at hi; have a0 := h1; unfold In at a0; have a1 := ro_109_29; unfold In at a1; have a2 := ro_109_22; unfold In at a2; have a3 := (inv_F hIc10 0 1000 rfl v10_109_27); unfold In at a3; have a4 := j10_2; unfold In at a4; omega))
        refine g_aload_n 94 (gd rfl) rfl rfl ?_
        refine g_getI 97 (gd rfl) rfl rfl rfl (fun z94 e94 => ?_)
        have q94 : w10_109_27 = z94 := (v10_109_27).trans e94.symm
        subst q94
        refine g_iload_n 98 (gd rfl) rfl rfl ?_
        refine g_isub 99 (gd rfl) rfl (fun z98 e98 => ?_)
        have i98 := in_sub (-1000) 1000 e98 (inv_F hIc10 0 1000 rfl v10_109_27) j10_2 rfl rfl
        refine g_iload_n 100 (gd rfl) rfl rfl ?_
        refine g_cmp_le 103 122 (gd rfl) rfl rfl (fun c100 => ?_) (fun c100 => ?_)
        · skip
          have i100 := r_le1 (-1000) 7 c100 i98 h1 rfl
          have n122 : (w10_109_27).toInt ≤ (u_109_22).toInt := by have a0 := h1; unfold In at a0; have a1 := ro_109_29; unfold In at a1; have a2 := ro_109_22; unfold In at a2; have a3 := (inv_F hIc10 0 1000 rfl v10_109_27); unfold In at a3; have a4 := j10_2; unfold In at a4; have a5 := i100; unfold In at a5; have a6 := t_sub e98 (inv_F hIc10 0 1000 rfl v10_109_27) j10_2 rfl; omega
          have n122a : (sc10.2.2.1 109 27).toInt ≤ (sc10.2.2.1 109 22).toInt := by have b0 : w10_109_27 = sc10.2.2.1 109 27 := v10_109_27; have b1 : u_109_22 = sc10.2.2.1 109 22 := fr_F e_109_22 hFc10 rfl; rw [← b0, ← b1]; exact n122
          have n122b : (u_109_27).toInt + 1 ≤ (w10_109_27).toInt := by have a0 := h1; unfold In at a0; have a1 := ro_109_29; unfold In at a1; have a2 := ro_109_22; unfold In at a2; have a3 := (inv_F hIc10 0 1000 rfl v10_109_27); unfold In at a3; have a4 := j10_2; unfold In at a4; have a5 := i100; unfold In at a5; have a6 := t_sub e98 (inv_F hIc10 0 1000 rfl v10_109_27) j10_2 rfl; omega
          have n122c : (s.2.2.1 109 27).toInt + 1 ≤ (sc10.2.2.1 109 27).toInt := by have b0 : w10_109_27 = sc10.2.2.1 109 27 := v10_109_27; rw [← b0, ← e_109_27]; exact n122b
          exact g_return (gd rfl) rfl (hP _ _ ⟨sc10, hIc10, hFc10, n122a, n122c, rfl, rfl⟩)
        · skip
          have i100 := r_lt2 7 1000 c100 h1 i98 rfl
          refine g_aload_n 104 (gd rfl) rfl rfl ?_
          refine g_iload_n 105 (gd rfl) rfl rfl ?_
          refine g_bipush 7 107 (gd rfl) rfl rfl ?_
          refine g_cmp_ne 110 114 (gd rfl) rfl rfl (fun c107 => ?_) (fun c107 => ?_)
          · skip
            have i107 := r_ne1 6 6 c107 h1 (in_c 7 rfl) rfl
            refine g_iconst 4 115 (gd rfl) rfl rfl ?_
            refine g_aload_n 116 (gd rfl) rfl rfl ?_
            refine g_getI 119 (gd rfl) rfl rfl rfl (fun z116 e116 => ?_)
            have q116 : u_109_29 = z116 := (fr_F e_109_29 hFc10 rfl).trans e116.symm
            subst q116
            refine g_callv (X := _) (As := [.int (Int32.ofInt 4), .int u_109_29]) (r := []) (b := A 109) (q := 109) 122 (gd rfl) rfl rfl rfl rfl rfl (ww_o rfl) (Nat.le_of_ble_eq_true rfl) (Nat.zero_le _) (Nat.zero_le _) (k_298 (by omega) hIc10 (in_w 1 5 (in_c 4 rfl) rfl)) (fun e u h => h) (fun v u h => ?_)
            obtain ⟨s119, hI119, hF119, n119, rfl, rfl⟩ := h
            obtain ⟨z119a, e119⟩ : ∃ w, w = s119.2.2.1 109 23 := ⟨_, rfl⟩
            have i119a := inv_F hI119 0 9 rfl e119
            rw [← (show z119a = s119.2.2.1 109 23 from e119)] at n119
            show GG _ _ _ _ _ _ _ _ [] _ _ _
            have n122 : (w10_109_27).toInt ≤ (u_109_22).toInt := by have a0 := i107; unfold In at a0; have a1 := ro_109_29; unfold In at a1; have a2 := ro_109_22; unfold In at a2; have a3 := (inv_F hIc10 0 1000 rfl v10_109_27); unfold In at a3; have a4 := j10_2; unfold In at a4; have a5 := i119a; unfold In at a5; have a6 := i100; unfold In at a6; have a7 := t_sub e98 (inv_F hIc10 0 1000 rfl v10_109_27) j10_2 rfl; omega
            have n122a : (s119.2.2.1 109 27).toInt ≤ (s119.2.2.1 109 22).toInt := by have b0 : w10_109_27 = s119.2.2.1 109 27 := fr_F (v10_109_27) hF119 rfl; have b1 : u_109_22 = s119.2.2.1 109 22 := fr_F (fr_F e_109_22 hFc10 rfl) hF119 rfl; rw [← b0, ← b1]; exact n122
            have n122b : (u_109_27).toInt + 1 ≤ (w10_109_27).toInt := by have a0 := i107; unfold In at a0; have a1 := ro_109_29; unfold In at a1; have a2 := ro_109_22; unfold In at a2; have a3 := (inv_F hIc10 0 1000 rfl v10_109_27); unfold In at a3; have a4 := j10_2; unfold In at a4; have a5 := i119a; unfold In at a5; have a6 := i100; unfold In at a6; have a7 := t_sub e98 (inv_F hIc10 0 1000 rfl v10_109_27) j10_2 rfl; omega
            have n122c : (s.2.2.1 109 27).toInt + 1 ≤ (s119.2.2.1 109 27).toInt := by have b0 : w10_109_27 = s119.2.2.1 109 27 := fr_F (v10_109_27) hF119 rfl; rw [← b0, ← e_109_27]; exact n122b
            exact g_return (gd rfl) rfl (hP _ _ ⟨s119, hI119, (fr_tr rfl hFc10 hF119), n122a, n122c, rfl, rfl⟩)
          · skip
            have i107 := r_eq1 7 7 c107 h1 (in_c 7 rfl) rfl
            refine g_iconst 3 111 (gd rfl) rfl rfl ?_
            refine g_goto 115 (gd rfl) rfl ?_
            refine g_aload_n 116 (gd rfl) rfl rfl ?_
            refine g_getI 119 (gd rfl) rfl rfl rfl (fun z116 e116 => ?_)
            have q116 : u_109_29 = z116 := (fr_F e_109_29 hFc10 rfl).trans e116.symm
            subst q116
            refine g_callv (X := _) (As := [.int (Int32.ofInt 3), .int u_109_29]) (r := []) (b := A 109) (q := 109) 122 (gd rfl) rfl rfl rfl rfl rfl (ww_o rfl) (Nat.le_of_ble_eq_true rfl) (Nat.zero_le _) (Nat.zero_le _) (k_298 (by omega) hIc10 (in_w 1 5 (in_c 3 rfl) rfl)) (fun e u h => h) (fun v u h => ?_)
            obtain ⟨s119, hI119, hF119, n119, rfl, rfl⟩ := h
            obtain ⟨z119a, e119⟩ : ∃ w, w = s119.2.2.1 109 23 := ⟨_, rfl⟩
            have i119a := inv_F hI119 0 9 rfl e119
            rw [← (show z119a = s119.2.2.1 109 23 from e119)] at n119
            show GG _ _ _ _ _ _ _ _ [] _ _ _
            have n122 : (w10_109_27).toInt ≤ (u_109_22).toInt := by have a0 := i107; unfold In at a0; have a1 := ro_109_29; unfold In at a1; have a2 := ro_109_22; unfold In at a2; have a3 := (inv_F hIc10 0 1000 rfl v10_109_27); unfold In at a3; have a4 := j10_2; unfold In at a4; have a5 := i119a; unfold In at a5; have a6 := i100; unfold In at a6; have a7 := t_sub e98 (inv_F hIc10 0 1000 rfl v10_109_27) j10_2 rfl; omega
            have n122a : (s119.2.2.1 109 27).toInt ≤ (s119.2.2.1 109 22).toInt := by have b0 : w10_109_27 = s119.2.2.1 109 27 := fr_F (v10_109_27) hF119 rfl; have b1 : u_109_22 = s119.2.2.1 109 22 := fr_F (fr_F e_109_22 hFc10 rfl) hF119 rfl; rw [← b0, ← b1]; exact n122
            have n122b : (u_109_27).toInt + 1 ≤ (w10_109_27).toInt := by have a0 := i107; unfold In at a0; have a1 := ro_109_29; unfold In at a1; have a2 := ro_109_22; unfold In at a2; have a3 := (inv_F hIc10 0 1000 rfl v10_109_27); unfold In at a3; have a4 := j10_2; unfold In at a4; have a5 := i119a; unfold In at a5; have a6 := i100; unfold In at a6; have a7 := t_sub e98 (inv_F hIc10 0 1000 rfl v10_109_27) j10_2 rfl; omega
            have n122c : (s.2.2.1 109 27).toInt + 1 ≤ (s119.2.2.1 109 27).toInt := by have b0 : w10_109_27 = s119.2.2.1 109 27 := fr_F (v10_109_27) hF119 rfl; rw [← b0, ← e_109_27]; exact n122b
            exact g_return (gd rfl) rfl (hP _ _ ⟨s119, hI119, (fr_tr rfl hFc10 hF119), n122a, n122c, rfl, rfl⟩)
      · skip
        have i18 := r_lt1 0 999 c18 (inv_F hIc10 0 1000 rfl v10_109_27) ro_109_22 rfl
        have i18a := r_lt2 1 1000 c18 (inv_F hIc10 0 1000 rfl v10_109_27) ro_109_22 rfl
        refine g_aload_n 22 (gd rfl) rfl rfl ?_
        refine g_getA (q2 := 125) 25 (gd rfl) rfl rfl rfl rfl ?_
        refine g_aload_n 26 (gd rfl) rfl rfl ?_
        refine g_getI 29 (gd rfl) rfl rfl rfl (fun z26 e26 => ?_)
        have q26 : w10_109_27 = z26 := (v10_109_27).trans e26.symm
        subst q26
        refine g_iaload 30 (gd rfl) rfl (n := 1000) rfl (in_ix i18 rfl) (fun z29 e29 => ?_)
        have i29 := inv_I hIc10 (n := 1000) (t := 0) 0 126 rfl (in_ix i18 rfl) rfl e29
        have hd : w10_109_27.toInt = u_109_27.toInt → 48 ≤ (z29).toInt ∧ (z29).toInt ≤ 57 := (fun h => by rw [e29, Int32.toInt_inj.mp h, hFc10.1 125 rfl, e_109_27]; exact q_0)
        refine g_calls (As := [.int z29]) (r := []) 33 (gd rfl) rfl rfl rfl rfl rfl (Nat.le_of_ble_eq_true rfl) (mc := 0) (ms := 0) (Nat.zero_le _) (Nat.zero_le _) (P := fun v u => _) ?_ (fun v u h => h)
        intro po30 xx30 hp30 hx30
        refine g_enter2 (k := 297) (N := 300) (by omega) rfl (Nat.le_of_ble_eq_true rfl) ?_
        refine g_iload_n 1 (gd rfl) rfl rfl ?_
        refine g_bipush 48 3 (gd rfl) rfl rfl ?_
        refine g_cmp_lt 6 16 (gd rfl) rfl rfl (fun c30x3 => ?_) (fun c30x3 => ?_)
        · skip
          have i30x3 := r_lt1 0 47 c30x3 i29 (in_c 48 rfl) rfl
          refine g_iconst 0 17 (gd rfl) rfl rfl ?_
          refine g_ireturn (gd rfl) rfl (nb01 (in_w 0 1 (in_c 0 rfl) rfl)) (hp30 _ _ ?_)
          show GG _ _ _ _ _ _ _ _ [.int (Int32.ofInt 0)] _ _ _
          refine g_if_eq 36 93 (gd rfl) rfl rfl (fun c33 => ?_) (fun c33 => ?_)
          · skip
            have hq93 : (u_109_27).toInt + 1 ≤ (w10_109_27).toInt := (by first | (have a0 := h1; unfold In at a0; have a1 := ro_109_29; unfold In at a1; have a2 := i18a; unfold In at a2; have a3 := i18; unfold In at a3; have a4 := j10_2; unfold In at a4; omega) | (have hi := i30x3; unfold In at hi; have a0 := h1; unfold In at a0; have a1 := ro_109_29; unfold In at a1; have a2 := i18a; unfold In at a2; have a3 := i18; unfold In at a3; have a4 := j10_2; unfold In at a4; omega) | (have hi := i30x9; unfold In at hi; have a0 := h1; unfold In at a0; have a1 := ro_109_29; unfold In at a1; have a2 := i18a; unfold In at a2; have a3 := i18; unfold In at a3; have a4 := j10_2; unfold In at a4; omega))
            refine g_aload_n 94 (gd rfl) rfl rfl ?_
            refine g_getI 97 (gd rfl) rfl rfl rfl (fun z94 e94 => ?_)
            have q94 : w10_109_27 = z94 := (v10_109_27).trans e94.symm
            subst q94
            refine g_iload_n 98 (gd rfl) rfl rfl ?_
            refine g_isub 99 (gd rfl) rfl (fun z98 e98 => ?_)
            have i98 := in_sub (-1000) 999 e98 i18 j10_2 rfl rfl
            refine g_iload_n 100 (gd rfl) rfl rfl ?_
            refine g_cmp_le 103 122 (gd rfl) rfl rfl (fun c100 => ?_) (fun c100 => ?_)
            · skip
              have i100 := r_le1 (-1000) 7 c100 i98 h1 rfl
              have n122 : (w10_109_27).toInt ≤ (u_109_22).toInt := by have a0 := h1; unfold In at a0; have a1 := ro_109_29; unfold In at a1; have a2 := i18a; unfold In at a2; have a3 := i18; unfold In at a3; have a4 := j10_2; unfold In at a4; have a5 := i100; unfold In at a5; have a6 := t_sub e98 i18 j10_2 rfl; omega
              have n122a : (sc10.2.2.1 109 27).toInt ≤ (sc10.2.2.1 109 22).toInt := by have b0 : w10_109_27 = sc10.2.2.1 109 27 := v10_109_27; have b1 : u_109_22 = sc10.2.2.1 109 22 := fr_F e_109_22 hFc10 rfl; rw [← b0, ← b1]; exact n122
              have n122b : (u_109_27).toInt + 1 ≤ (w10_109_27).toInt := by have a0 := h1; unfold In at a0; have a1 := ro_109_29; unfold In at a1; have a2 := i18a; unfold In at a2; have a3 := i18; unfold In at a3; have a4 := j10_2; unfold In at a4; have a5 := i100; unfold In at a5; have a6 := t_sub e98 i18 j10_2 rfl; omega
              have n122c : (s.2.2.1 109 27).toInt + 1 ≤ (sc10.2.2.1 109 27).toInt := by have b0 : w10_109_27 = sc10.2.2.1 109 27 := v10_109_27; rw [← b0, ← e_109_27]; exact n122b
              exact g_return (gd rfl) rfl (hP _ _ ⟨sc10, hIc10, hFc10, n122a, n122c, rfl, rfl⟩)
            · skip
              have i100 := r_lt2 7 999 c100 h1 i98 rfl
              refine g_aload_n 104 (gd rfl) rfl rfl ?_
              refine g_iload_n 105 (gd rfl) rfl rfl ?_
              refine g_bipush 7 107 (gd rfl) rfl rfl ?_
              refine g_cmp_ne 110 114 (gd rfl) rfl rfl (fun c107 => ?_) (fun c107 => ?_)
              · skip
                have i107 := r_ne1 6 6 c107 h1 (in_c 7 rfl) rfl
                refine g_iconst 4 115 (gd rfl) rfl rfl ?_
                refine g_aload_n 116 (gd rfl) rfl rfl ?_
                refine g_getI 119 (gd rfl) rfl rfl rfl (fun z116 e116 => ?_)
                have q116 : u_109_29 = z116 := (fr_F e_109_29 hFc10 rfl).trans e116.symm
                subst q116
                refine g_callv (X := _) (As := [.int (Int32.ofInt 4), .int u_109_29]) (r := []) (b := A 109) (q := 109) 122 (gd rfl) rfl rfl rfl rfl rfl (ww_o rfl) (Nat.le_of_ble_eq_true rfl) (Nat.zero_le _) (Nat.zero_le _) (k_298 (by omega) hIc10 (in_w 1 5 (in_c 4 rfl) rfl)) (fun e u h => h) (fun v u h => ?_)
                obtain ⟨s119, hI119, hF119, n119, rfl, rfl⟩ := h
                obtain ⟨z119a, e119⟩ : ∃ w, w = s119.2.2.1 109 23 := ⟨_, rfl⟩
                have i119a := inv_F hI119 0 9 rfl e119
                rw [← (show z119a = s119.2.2.1 109 23 from e119)] at n119
                show GG _ _ _ _ _ _ _ _ [] _ _ _
                have n122 : (w10_109_27).toInt ≤ (u_109_22).toInt := by have a0 := i107; unfold In at a0; have a1 := ro_109_29; unfold In at a1; have a2 := i18a; unfold In at a2; have a3 := i18; unfold In at a3; have a4 := j10_2; unfold In at a4; have a5 := i119a; unfold In at a5; have a6 := i100; unfold In at a6; have a7 := t_sub e98 i18 j10_2 rfl; omega
                have n122a : (s119.2.2.1 109 27).toInt ≤ (s119.2.2.1 109 22).toInt := by have b0 : w10_109_27 = s119.2.2.1 109 27 := fr_F (v10_109_27) hF119 rfl; have b1 : u_109_22 = s119.2.2.1 109 22 := fr_F (fr_F e_109_22 hFc10 rfl) hF119 rfl; rw [← b0, ← b1]; exact n122
                have n122b : (u_109_27).toInt + 1 ≤ (w10_109_27).toInt := by have a0 := i107; unfold In at a0; have a1 := ro_109_29; unfold In at a1; have a2 := i18a; unfold In at a2; have a3 := i18; unfold In at a3; have a4 := j10_2; unfold In at a4; have a5 := i119a; unfold In at a5; have a6 := i100; unfold In at a6; have a7 := t_sub e98 i18 j10_2 rfl; omega
                have n122c : (s.2.2.1 109 27).toInt + 1 ≤ (s119.2.2.1 109 27).toInt := by have b0 : w10_109_27 = s119.2.2.1 109 27 := fr_F (v10_109_27) hF119 rfl; rw [← b0, ← e_109_27]; exact n122b
                exact g_return (gd rfl) rfl (hP _ _ ⟨s119, hI119, (fr_tr rfl hFc10 hF119), n122a, n122c, rfl, rfl⟩)
              · skip
                have i107 := r_eq1 7 7 c107 h1 (in_c 7 rfl) rfl
                refine g_iconst 3 111 (gd rfl) rfl rfl ?_
                refine g_goto 115 (gd rfl) rfl ?_
                refine g_aload_n 116 (gd rfl) rfl rfl ?_
                refine g_getI 119 (gd rfl) rfl rfl rfl (fun z116 e116 => ?_)
                have q116 : u_109_29 = z116 := (fr_F e_109_29 hFc10 rfl).trans e116.symm
                subst q116
                refine g_callv (X := _) (As := [.int (Int32.ofInt 3), .int u_109_29]) (r := []) (b := A 109) (q := 109) 122 (gd rfl) rfl rfl rfl rfl rfl (ww_o rfl) (Nat.le_of_ble_eq_true rfl) (Nat.zero_le _) (Nat.zero_le _) (k_298 (by omega) hIc10 (in_w 1 5 (in_c 3 rfl) rfl)) (fun e u h => h) (fun v u h => ?_)
                obtain ⟨s119, hI119, hF119, n119, rfl, rfl⟩ := h
                obtain ⟨z119a, e119⟩ : ∃ w, w = s119.2.2.1 109 23 := ⟨_, rfl⟩
                have i119a := inv_F hI119 0 9 rfl e119
                rw [← (show z119a = s119.2.2.1 109 23 from e119)] at n119
                show GG _ _ _ _ _ _ _ _ [] _ _ _
                have n122 : (w10_109_27).toInt ≤ (u_109_22).toInt := by have a0 := i107; unfold In at a0; have a1 := ro_109_29; unfold In at a1; have a2 := i18a; unfold In at a2; have a3 := i18; unfold In at a3; have a4 := j10_2; unfold In at a4; have a5 := i119a; unfold In at a5; have a6 := i100; unfold In at a6; have a7 := t_sub e98 i18 j10_2 rfl; omega
                have n122a : (s119.2.2.1 109 27).toInt ≤ (s119.2.2.1 109 22).toInt := by have b0 : w10_109_27 = s119.2.2.1 109 27 := fr_F (v10_109_27) hF119 rfl; have b1 : u_109_22 = s119.2.2.1 109 22 := fr_F (fr_F e_109_22 hFc10 rfl) hF119 rfl; rw [← b0, ← b1]; exact n122
                have n122b : (u_109_27).toInt + 1 ≤ (w10_109_27).toInt := by have a0 := i107; unfold In at a0; have a1 := ro_109_29; unfold In at a1; have a2 := i18a; unfold In at a2; have a3 := i18; unfold In at a3; have a4 := j10_2; unfold In at a4; have a5 := i119a; unfold In at a5; have a6 := i100; unfold In at a6; have a7 := t_sub e98 i18 j10_2 rfl; omega
                have n122c : (s.2.2.1 109 27).toInt + 1 ≤ (s119.2.2.1 109 27).toInt := by have b0 : w10_109_27 = s119.2.2.1 109 27 := fr_F (v10_109_27) hF119 rfl; rw [← b0, ← e_109_27]; exact n122b
                exact g_return (gd rfl) rfl (hP _ _ ⟨s119, hI119, (fr_tr rfl hFc10 hF119), n122a, n122c, rfl, rfl⟩)
          · skip
            exact zn_ne c33 (in_c 0 rfl) rfl
        · skip
          have i30x3 := r_le2 48 126 c30x3 (in_c 48 rfl) i29 rfl
          refine g_iload_n 7 (gd rfl) rfl rfl ?_
          refine g_bipush 57 9 (gd rfl) rfl rfl ?_
          refine g_cmp_gt 12 16 (gd rfl) rfl rfl (fun c30x9 => ?_) (fun c30x9 => ?_)
          · skip
            have i30x9 := r_lt2 58 126 c30x9 (in_c 57 rfl) i30x3 rfl
            refine g_iconst 0 17 (gd rfl) rfl rfl ?_
            refine g_ireturn (gd rfl) rfl (nb01 (in_w 0 1 (in_c 0 rfl) rfl)) (hp30 _ _ ?_)
            show GG _ _ _ _ _ _ _ _ [.int (Int32.ofInt 0)] _ _ _
            refine g_if_eq 36 93 (gd rfl) rfl rfl (fun c33 => ?_) (fun c33 => ?_)
            · skip
              have hq93 : (u_109_27).toInt + 1 ≤ (w10_109_27).toInt := (by first | (have a0 := h1; unfold In at a0; have a1 := ro_109_29; unfold In at a1; have a2 := i18a; unfold In at a2; have a3 := i18; unfold In at a3; have a4 := j10_2; unfold In at a4; omega) | (have hi := i30x3; unfold In at hi; have a0 := h1; unfold In at a0; have a1 := ro_109_29; unfold In at a1; have a2 := i18a; unfold In at a2; have a3 := i18; unfold In at a3; have a4 := j10_2; unfold In at a4; omega) | (have hi := i30x9; unfold In at hi; have a0 := h1; unfold In at a0; have a1 := ro_109_29; unfold In at a1; have a2 := i18a; unfold In at a2; have a3 := i18; unfold In at a3; have a4 := j10_2; unfold In at a4; omega))
              refine g_aload_n 94 (gd rfl) rfl rfl ?_
              refine g_getI 97 (gd rfl) rfl rfl rfl (fun z94 e94 => ?_)
              have q94 : w10_109_27 = z94 := (v10_109_27).trans e94.symm
              subst q94
              refine g_iload_n 98 (gd rfl) rfl rfl ?_
              refine g_isub 99 (gd rfl) rfl (fun z98 e98 => ?_)
              have i98 := in_sub (-1000) 999 e98 i18 j10_2 rfl rfl
              refine g_iload_n 100 (gd rfl) rfl rfl ?_
              refine g_cmp_le 103 122 (gd rfl) rfl rfl (fun c100 => ?_) (fun c100 => ?_)
              · skip
                have i100 := r_le1 (-1000) 7 c100 i98 h1 rfl
                have n122 : (w10_109_27).toInt ≤ (u_109_22).toInt := by have a0 := h1; unfold In at a0; have a1 := ro_109_29; unfold In at a1; have a2 := i18a; unfold In at a2; have a3 := i18; unfold In at a3; have a4 := j10_2; unfold In at a4; have a5 := i100; unfold In at a5; have a6 := t_sub e98 i18 j10_2 rfl; omega
                have n122a : (sc10.2.2.1 109 27).toInt ≤ (sc10.2.2.1 109 22).toInt := by have b0 : w10_109_27 = sc10.2.2.1 109 27 := v10_109_27; have b1 : u_109_22 = sc10.2.2.1 109 22 := fr_F e_109_22 hFc10 rfl; rw [← b0, ← b1]; exact n122
                have n122b : (u_109_27).toInt + 1 ≤ (w10_109_27).toInt := by have a0 := h1; unfold In at a0; have a1 := ro_109_29; unfold In at a1; have a2 := i18a; unfold In at a2; have a3 := i18; unfold In at a3; have a4 := j10_2; unfold In at a4; have a5 := i100; unfold In at a5; have a6 := t_sub e98 i18 j10_2 rfl; omega
                have n122c : (s.2.2.1 109 27).toInt + 1 ≤ (sc10.2.2.1 109 27).toInt := by have b0 : w10_109_27 = sc10.2.2.1 109 27 := v10_109_27; rw [← b0, ← e_109_27]; exact n122b
                exact g_return (gd rfl) rfl (hP _ _ ⟨sc10, hIc10, hFc10, n122a, n122c, rfl, rfl⟩)
              · skip
                have i100 := r_lt2 7 999 c100 h1 i98 rfl
                refine g_aload_n 104 (gd rfl) rfl rfl ?_
                refine g_iload_n 105 (gd rfl) rfl rfl ?_
                refine g_bipush 7 107 (gd rfl) rfl rfl ?_
                refine g_cmp_ne 110 114 (gd rfl) rfl rfl (fun c107 => ?_) (fun c107 => ?_)
                · skip
                  have i107 := r_ne1 6 6 c107 h1 (in_c 7 rfl) rfl
                  refine g_iconst 4 115 (gd rfl) rfl rfl ?_
                  refine g_aload_n 116 (gd rfl) rfl rfl ?_
                  refine g_getI 119 (gd rfl) rfl rfl rfl (fun z116 e116 => ?_)
                  have q116 : u_109_29 = z116 := (fr_F e_109_29 hFc10 rfl).trans e116.symm
                  subst q116
                  refine g_callv (X := _) (As := [.int (Int32.ofInt 4), .int u_109_29]) (r := []) (b := A 109) (q := 109) 122 (gd rfl) rfl rfl rfl rfl rfl (ww_o rfl) (Nat.le_of_ble_eq_true rfl) (Nat.zero_le _) (Nat.zero_le _) (k_298 (by omega) hIc10 (in_w 1 5 (in_c 4 rfl) rfl)) (fun e u h => h) (fun v u h => ?_)
                  obtain ⟨s119, hI119, hF119, n119, rfl, rfl⟩ := h
                  obtain ⟨z119a, e119⟩ : ∃ w, w = s119.2.2.1 109 23 := ⟨_, rfl⟩
                  have i119a := inv_F hI119 0 9 rfl e119
                  rw [← (show z119a = s119.2.2.1 109 23 from e119)] at n119
                  show GG _ _ _ _ _ _ _ _ [] _ _ _
                  have n122 : (w10_109_27).toInt ≤ (u_109_22).toInt := by have a0 := i107; unfold In at a0; have a1 := ro_109_29; unfold In at a1; have a2 := i18a; unfold In at a2; have a3 := i18; unfold In at a3; have a4 := j10_2; unfold In at a4; have a5 := i119a; unfold In at a5; have a6 := i100; unfold In at a6; have a7 := t_sub e98 i18 j10_2 rfl; omega
                  have n122a : (s119.2.2.1 109 27).toInt ≤ (s119.2.2.1 109 22).toInt := by have b0 : w10_109_27 = s119.2.2.1 109 27 := fr_F (v10_109_27) hF119 rfl; have b1 : u_109_22 = s119.2.2.1 109 22 := fr_F (fr_F e_109_22 hFc10 rfl) hF119 rfl; rw [← b0, ← b1]; exact n122
                  have n122b : (u_109_27).toInt + 1 ≤ (w10_109_27).toInt := by have a0 := i107; unfold In at a0; have a1 := ro_109_29; unfold In at a1; have a2 := i18a; unfold In at a2; have a3 := i18; unfold In at a3; have a4 := j10_2; unfold In at a4; have a5 := i119a; unfold In at a5; have a6 := i100; unfold In at a6; have a7 := t_sub e98 i18 j10_2 rfl; omega
                  have n122c : (s.2.2.1 109 27).toInt + 1 ≤ (s119.2.2.1 109 27).toInt := by have b0 : w10_109_27 = s119.2.2.1 109 27 := fr_F (v10_109_27) hF119 rfl; rw [← b0, ← e_109_27]; exact n122b
                  exact g_return (gd rfl) rfl (hP _ _ ⟨s119, hI119, (fr_tr rfl hFc10 hF119), n122a, n122c, rfl, rfl⟩)
                · skip
                  have i107 := r_eq1 7 7 c107 h1 (in_c 7 rfl) rfl
                  refine g_iconst 3 111 (gd rfl) rfl rfl ?_
                  refine g_goto 115 (gd rfl) rfl ?_
                  refine g_aload_n 116 (gd rfl) rfl rfl ?_
                  refine g_getI 119 (gd rfl) rfl rfl rfl (fun z116 e116 => ?_)
                  have q116 : u_109_29 = z116 := (fr_F e_109_29 hFc10 rfl).trans e116.symm
                  subst q116
                  refine g_callv (X := _) (As := [.int (Int32.ofInt 3), .int u_109_29]) (r := []) (b := A 109) (q := 109) 122 (gd rfl) rfl rfl rfl rfl rfl (ww_o rfl) (Nat.le_of_ble_eq_true rfl) (Nat.zero_le _) (Nat.zero_le _) (k_298 (by omega) hIc10 (in_w 1 5 (in_c 3 rfl) rfl)) (fun e u h => h) (fun v u h => ?_)
                  obtain ⟨s119, hI119, hF119, n119, rfl, rfl⟩ := h
                  obtain ⟨z119a, e119⟩ : ∃ w, w = s119.2.2.1 109 23 := ⟨_, rfl⟩
                  have i119a := inv_F hI119 0 9 rfl e119
                  rw [← (show z119a = s119.2.2.1 109 23 from e119)] at n119
                  show GG _ _ _ _ _ _ _ _ [] _ _ _
                  have n122 : (w10_109_27).toInt ≤ (u_109_22).toInt := by have a0 := i107; unfold In at a0; have a1 := ro_109_29; unfold In at a1; have a2 := i18a; unfold In at a2; have a3 := i18; unfold In at a3; have a4 := j10_2; unfold In at a4; have a5 := i119a; unfold In at a5; have a6 := i100; unfold In at a6; have a7 := t_sub e98 i18 j10_2 rfl; omega
                  have n122a : (s119.2.2.1 109 27).toInt ≤ (s119.2.2.1 109 22).toInt := by have b0 : w10_109_27 = s119.2.2.1 109 27 := fr_F (v10_109_27) hF119 rfl; have b1 : u_109_22 = s119.2.2.1 109 22 := fr_F (fr_F e_109_22 hFc10 rfl) hF119 rfl; rw [← b0, ← b1]; exact n122
                  have n122b : (u_109_27).toInt + 1 ≤ (w10_109_27).toInt := by have a0 := i107; unfold In at a0; have a1 := ro_109_29; unfold In at a1; have a2 := i18a; unfold In at a2; have a3 := i18; unfold In at a3; have a4 := j10_2; unfold In at a4; have a5 := i119a; unfold In at a5; have a6 := i100; unfold In at a6; have a7 := t_sub e98 i18 j10_2 rfl; omega
                  have n122c : (s.2.2.1 109 27).toInt + 1 ≤ (s119.2.2.1 109 27).toInt := by have b0 : w10_109_27 = s119.2.2.1 109 27 := fr_F (v10_109_27) hF119 rfl; rw [← b0, ← e_109_27]; exact n122b
                  exact g_return (gd rfl) rfl (hP _ _ ⟨s119, hI119, (fr_tr rfl hFc10 hF119), n122a, n122c, rfl, rfl⟩)
            · skip
              exact zn_ne c33 (in_c 0 rfl) rfl
          · skip
            have i30x9 := r_le1 48 57 c30x9 i30x3 (in_c 57 rfl) rfl
            refine g_iconst 1 13 (gd rfl) rfl rfl ?_
            refine g_goto 17 (gd rfl) rfl ?_
            refine g_ireturn (gd rfl) rfl (nb01 (in_w 0 1 (in_c 1 rfl) rfl)) (hp30 _ _ ?_)
            show GG _ _ _ _ _ _ _ _ [.int (Int32.ofInt 1)] _ _ _
            refine g_if_eq 36 93 (gd rfl) rfl rfl (fun c33 => ?_) (fun c33 => ?_)
            · skip
              exact zn_eq c33 (in_c 1 rfl) rfl
            · skip
              refine g_aload_n 37 (gd rfl) rfl rfl ?_
              refine g_aload_n 38 (gd rfl) rfl rfl ?_
              refine g_getI 41 (gd rfl) rfl rfl rfl (fun z38 e38 => ?_)
              have q38 : w10_109_27 = z38 := (v10_109_27).trans e38.symm
              subst q38
              refine g_iload_n 42 (gd rfl) rfl rfl ?_
              refine g_isub 43 (gd rfl) rfl (fun z42 e42 => ?_)
              have i42 := in_sub (-1000) 999 e42 i18 j10_2 rfl rfl
              refine g_iload_n 44 (gd rfl) rfl rfl ?_
              refine g_cmp_ge 47 73 (gd rfl) rfl rfl (fun c44 => ?_) (fun c44 => ?_)
              · skip
                have i44 := r_le2 6 999 c44 h1 i42 rfl
                refine g_aload_n 74 (gd rfl) rfl rfl ?_
                refine g_getL 77 (gd rfl) rfl rfl rfl (fun z74 e74 => ?_)
                refine g_putL 80 (gd rfl) rfl rfl rfl rfl ?_
                have hI77 := inv_sG (q := 109) (j := 31) (x := z74) hIc10 rfl (l_rng z74)
                refine g_aload_n 81 (gd rfl) rfl rfl ?_
                refine g_dup 82 (gd rfl) rfl rfl ?_
                refine g_getI 85 (gd rfl) rfl rfl rfl (fun z82 e82 => ?_)
                have q82 : w10_109_27 = z82 := (sG_F (v10_109_27)).trans e82.symm
                subst q82
                refine g_iconst 1 86 (gd rfl) rfl rfl ?_
                refine g_iadd 87 (gd rfl) rfl (fun z86 e86 => ?_)
                have i86 := in_add 1 1000 e86 i18 (in_c 1 rfl) rfl rfl
                refine g_putI 90 (gd rfl) rfl rfl rfl rfl ?_
                have hI87 := inv_sF (q := 109) (j := 27) hI77 rfl (in_w 0 1000 i86 rfl)
                refine g_goto 10 (gd rfl) rfl ?_
                have v10 : z86 = (sF (sG sc10 109 31 z74) 109 27 z86).2.2.1 109 27 := sF_get
                have n10 : (z86).toInt ≤ (u_109_22).toInt := by have a0 := h1; unfold In at a0; have a1 := ro_109_29; unfold In at a1; have a2 := i18a; unfold In at a2; have a3 := i18; unfold In at a3; have a4 := j10_2; unfold In at a4; have a5 := i86; unfold In at a5; have a6 := t_add e86 i18 (in_c 1 rfl) rfl; have a7 := (in_c 1 rfl); unfold In at a7; have a8 := i44; unfold In at a8; have a9 := t_sub e42 i18 j10_2 rfl; omega
                have n10a : (u_109_27).toInt ≤ (z86).toInt := by have a0 := h1; unfold In at a0; have a1 := ro_109_29; unfold In at a1; have a2 := i18a; unfold In at a2; have a3 := i18; unfold In at a3; have a4 := j10_2; unfold In at a4; have a5 := i86; unfold In at a5; have a6 := t_add e86 i18 (in_c 1 rfl) rfl; have a7 := (in_c 1 rfl); unfold In at a7; have a8 := i44; unfold In at a8; have a9 := t_sub e42 i18 j10_2 rfl; omega
                have m10 : (u_109_22).toInt - (z86).toInt < ((k10 : Nat) : Int) := by have a0 := h1; unfold In at a0; have a1 := ro_109_29; unfold In at a1; have a2 := i18a; unfold In at a2; have a3 := i18; unfold In at a3; have a4 := j10_2; unfold In at a4; have a5 := i86; unfold In at a5; have a6 := t_add e86 i18 (in_c 1 rfl) rfl; have a7 := (in_c 1 rfl); unfold In at a7; have a8 := i44; unfold In at a8; have a9 := t_sub e42 i18 j10_2 rfl; omega
                exact gg_w (by omega) (gg_f (gf_cons rfl (gf_cons rfl (gf_cons rfl gf_nil))) (ih10  (sF (sG sc10 109 31 z74) 109 27 z86) y10_2 z86 hI87 (fr_sF rfl (fr_sG rfl hFc10)) (in_w 0 1000 j10_2 rfl) v10 n10 n10a m10))
              · skip
                have i44 := r_lt1 (-1000) 6 c44 i42 h1 rfl
                refine g_ldc2_w 10 50 (gd rfl) rfl rfl ?_
                refine g_aload_n 51 (gd rfl) rfl rfl ?_
                refine g_getL 54 (gd rfl) rfl rfl rfl (fun z51 e51 => ?_)
                refine g_lmul 55 (gd rfl) rfl (fun z54 e54 => ?_)
                refine g_aload_n 56 (gd rfl) rfl rfl ?_
                refine g_getA (q2 := 125) 59 (gd rfl) rfl rfl rfl rfl ?_
                refine g_aload_n 60 (gd rfl) rfl rfl ?_
                refine g_getI 63 (gd rfl) rfl rfl rfl (fun z60 e60 => ?_)
                have q60 : w10_109_27 = z60 := (v10_109_27).trans e60.symm
                subst q60
                refine g_iaload 64 (gd rfl) rfl (n := 1000) rfl (in_ix i18 rfl) (fun z63 e63 => ?_)
                have q63 : z29 = z63 := (e29).trans e63.symm
                subst q63
                refine g_i2l 65 (gd rfl) rfl (fun z64 e64 => ?_)
                have i64 := l_i e64 i30x9
                refine g_ladd 66 (gd rfl) rfl (fun z65 e65 => ?_)
                refine g_ldc2_w 48 69 (gd rfl) rfl rfl ?_
                refine g_lsub 70 (gd rfl) rfl (fun z69 e69 => ?_)
                refine g_goto 77 (gd rfl) rfl ?_
                refine g_putL 80 (gd rfl) rfl rfl rfl rfl ?_
                have hI77 := inv_sG (q := 109) (j := 31) (x := z69) hIc10 rfl (l_rng z69)
                refine g_aload_n 81 (gd rfl) rfl rfl ?_
                refine g_dup 82 (gd rfl) rfl rfl ?_
                refine g_getI 85 (gd rfl) rfl rfl rfl (fun z82 e82 => ?_)
                have q82 : w10_109_27 = z82 := (sG_F (v10_109_27)).trans e82.symm
                subst q82
                refine g_iconst 1 86 (gd rfl) rfl rfl ?_
                refine g_iadd 87 (gd rfl) rfl (fun z86 e86 => ?_)
                have i86 := in_add 1 1000 e86 i18 (in_c 1 rfl) rfl rfl
                refine g_putI 90 (gd rfl) rfl rfl rfl rfl ?_
                have hI87 := inv_sF (q := 109) (j := 27) hI77 rfl (in_w 0 1000 i86 rfl)
                refine g_goto 10 (gd rfl) rfl ?_
                have v10 : z86 = (sF (sG sc10 109 31 z69) 109 27 z86).2.2.1 109 27 := sF_get
                have n10 : (z86).toInt ≤ (u_109_22).toInt := by have a0 := h1; unfold In at a0; have a1 := ro_109_29; unfold In at a1; have a2 := i18a; unfold In at a2; have a3 := i18; unfold In at a3; have a4 := j10_2; unfold In at a4; have a5 := i86; unfold In at a5; have a6 := t_add e86 i18 (in_c 1 rfl) rfl; have a7 := (in_c 1 rfl); unfold In at a7; have a8 := tx_i2l e64; have a9 := i30x9; unfold In at a9; have a10 := i44; unfold In at a10; have a11 := t_sub e42 i18 j10_2 rfl; omega
                have n10a : (u_109_27).toInt ≤ (z86).toInt := by have a0 := h1; unfold In at a0; have a1 := ro_109_29; unfold In at a1; have a2 := i18a; unfold In at a2; have a3 := i18; unfold In at a3; have a4 := j10_2; unfold In at a4; have a5 := i86; unfold In at a5; have a6 := t_add e86 i18 (in_c 1 rfl) rfl; have a7 := (in_c 1 rfl); unfold In at a7; have a8 := tx_i2l e64; have a9 := i30x9; unfold In at a9; have a10 := i44; unfold In at a10; have a11 := t_sub e42 i18 j10_2 rfl; omega
                have m10 : (u_109_22).toInt - (z86).toInt < ((k10 : Nat) : Int) := by have a0 := h1; unfold In at a0; have a1 := ro_109_29; unfold In at a1; have a2 := i18a; unfold In at a2; have a3 := i18; unfold In at a3; have a4 := j10_2; unfold In at a4; have a5 := i86; unfold In at a5; have a6 := t_add e86 i18 (in_c 1 rfl) rfl; have a7 := (in_c 1 rfl); unfold In at a7; have a8 := tx_i2l e64; have a9 := i30x9; unfold In at a9; have a10 := i44; unfold In at a10; have a11 := t_sub e42 i18 j10_2 rfl; omega
                exact gg_w (by omega) (gg_f (gf_cons rfl (gf_cons rfl (gf_cons rfl gf_nil))) (ih10  (sF (sG sc10 109 31 z69) 109 27 z86) y10_2 z86 hI87 (fr_sF rfl (fr_sG rfl hFc10)) (in_w 0 1000 j10_2 rfl) v10 n10 n10a m10))
  refine g_enter2 (k := 300) (N := 901801) (by omega) rfl (Nat.le_of_ble_eq_true rfl) ?_
  refine g_aload_n 1 (gd rfl) rfl rfl ?_
  refine g_getI 4 (gd rfl) rfl rfl rfl (fun z1 e1 => ?_)
  have q1 : u_109_27 = z1 := (e_109_27).trans e1.symm
  subst q1
  refine g_istore_n 5 (gd rfl) rfl (Nat.le_of_ble_eq_true rfl) ?_
  refine g_aload_n 6 (gd rfl) rfl rfl ?_
  refine g_lconst 0 7 (gd rfl) rfl rfl ?_
  refine g_putL 10 (gd rfl) rfl rfl rfl rfl ?_
  have hI7 := inv_sG (q := 109) (j := 31) (x := (Int64.ofInt 0)) hI rfl (l_rng (Int64.ofInt 0))
  have v10 : u_109_27 = (sG s 109 31 (Int64.ofInt 0)).2.2.1 109 27 := sG_F (e_109_27)
  have n10 : (u_109_27).toInt ≤ (u_109_22).toInt := by have a0 := ro_109_29; unfold In at a0; have a1 := (inv_F hI 0 1000 rfl e_109_22); unfold In at a1; have a2 := (inv_F hI 0 1000 rfl e_109_27); unfold In at a2; have a3 := h1; unfold In at a3; omega
  have n10a : (u_109_27).toInt ≤ (u_109_27).toInt := by have a0 := ro_109_29; unfold In at a0; have a1 := (inv_F hI 0 1000 rfl e_109_22); unfold In at a1; have a2 := (inv_F hI 0 1000 rfl e_109_27); unfold In at a2; have a3 := h1; unfold In at a3; omega
  have m10 : (u_109_22).toInt - (u_109_27).toInt < ((1001 : Nat) : Int) := by have a0 := ro_109_29; unfold In at a0; have a1 := (inv_F hI 0 1000 rfl e_109_22); unfold In at a1; have a2 := (inv_F hI 0 1000 rfl e_109_27); unfold In at a2; have a3 := h1; unfold In at a3; omega
  exact gg_w (by omega) (gg_f (gf_cons rfl (gf_cons rfl (gf_cons rfl gf_nil))) (ct10 1001 (sG s 109 31 (Int64.ofInt 0)) u_109_27 u_109_27 hI7 (fr_sG rfl fr_rf) (in_w 0 1000 (inv_F hI 0 1000 rfl e_109_27) rfl) v10 n10 n10a m10))
