/-! methods, by vc.py -/
def fm_401 : FM := ([187, 188, 190], [], [(109, 23), (109, 24), (109, 109), (109, 111), (109, 112)], [])
/-- GraphHouseModel.factor -/
theorem k_401 {Z : AmZ} {A : Nat → Nat} {s : GS} {ex : va_W} {d : Nat} {X : AmX} {u_109_109 : Int32} {u_109_111 : Int32} {u_109_28 : Int32} (hd : 4 ≤ d) (hI : Inv s) (e_109_109 : u_109_109 = s.2.2.1 109 109) (e_109_111 : u_109_111 = s.2.2.1 109 111) (e_109_28 : u_109_28 = s.2.2.1 109 28) (p_0 : (u_109_109).toInt + (u_109_111).toInt ≤ 120) (p_1 : (u_109_28).toInt ≠ 0 → (u_109_109).toInt + (u_109_111).toInt ≤ 119) : GC Z d 401 [.ref (A 109)] (WW Z A s ++ ex) 0 0 (fun v u => ∃ t : GS, Inv t ∧ Fr fm_401 s t ∧ ((t.2.2.1 109 109).toInt + (t.2.2.1 109 111).toInt ≤ (s.2.2.1 109 109).toInt + (s.2.2.1 109 111).toInt + 1) ∧ ((s.2.2.1 109 28).toInt = 0 → (t.2.2.1 109 109).toInt + (t.2.2.1 109 111).toInt = (s.2.2.1 109 109).toInt + (s.2.2.1 109 111).toInt) ∧ ((s.2.2.1 109 28).toInt = 0 → 1 ≤ (t.2.2.1 109 23).toInt) ∧ ∃ z : Int32, v = some (.int z) ∧ u = WW Z A t ++ ex ∧ In z 0 1 ∧ ((z).toInt = 0 → PR s t 0 0) ∧ ((z).toInt ≠ 0 → PR s t 0 1)) X := by
  intro post xp hP hX
  obtain ⟨u_109_29, e_109_29⟩ : ∃ w, w = s.2.2.1 109 29 := ⟨_, rfl⟩
  have ro_109_29 := inv_F hI 0 1000 rfl e_109_29
  obtain ⟨u_109_30, e_109_30⟩ : ∃ w, w = s.2.2.1 109 30 := ⟨_, rfl⟩
  refine g_enter2 (k := 401) (N := 900) (by first | exact dq1 hd rfl | exact dq0 hd rfl | exact dq2 hd rfl | exact dq3 hd rfl | omega) rfl (Nat.le_of_ble_eq_true rfl) ?_
  refine g_aload_n 1 (gd rfl) rfl rfl ?_
  refine g_getI 4 (gd rfl) rfl rfl rfl (fun z1 e1 => ?_)
  have q1 : u_109_28 = z1 := (e_109_28).trans e1.symm
  subst q1
  refine g_iconst 2 5 (gd rfl) rfl rfl ?_
  refine g_cmp_ne 8 24 (gd rfl) rfl rfl (fun c5 => ?_) (fun c5 => ?_)
  · skip
    refine g_aload_n 25 (gd rfl) rfl rfl ?_
    refine g_getI 28 (gd rfl) rfl rfl rfl (fun z25 e25 => ?_)
    have q25 : u_109_28 = z25 := (e_109_28).trans e25.symm
    subst q25
    refine g_iconst 1 29 (gd rfl) rfl rfl ?_
    refine g_cmp_ne 32 65 (gd rfl) rfl rfl (fun c29 => ?_) (fun c29 => ?_)
    · skip
      refine g_aload_n 66 (gd rfl) rfl rfl ?_
      refine g_getI 69 (gd rfl) rfl rfl rfl (fun z66 e66 => ?_)
      have q66 : u_109_28 = z66 := (e_109_28).trans e66.symm
      subst q66
      refine g_iconst 3 70 (gd rfl) rfl rfl ?_
      refine g_cmp_ne 73 91 (gd rfl) rfl rfl (fun c70 => ?_) (fun c70 => ?_)
      · skip
        refine g_aload_n 92 (gd rfl) rfl rfl ?_
        refine g_iconst 2 93 (gd rfl) rfl rfl ?_
        refine g_aload_n 94 (gd rfl) rfl rfl ?_
        refine g_getI 97 (gd rfl) rfl rfl rfl (fun z94 e94 => ?_)
        have q94 : u_109_29 = z94 := (e_109_29).trans e94.symm
        subst q94
        refine g_callv (X := _) (As := [.int (Int32.ofInt 2), .int u_109_29]) (r := []) (b := A 109) (q := 109) 100 (gd rfl) rfl rfl rfl rfl rfl (ww_o rfl) (Nat.le_of_ble_eq_true rfl) (Nat.zero_le _) (Nat.zero_le _) (k_298 (by first | exact dq1 hd rfl | exact dq0 hd rfl | exact dq2 hd rfl | exact dq3 hd rfl | omega) hI (in_w 1 5 (in_c 2 rfl) rfl)) (fun e u h => h) (fun v u h => ?_)
        obtain ⟨s97, hI97, hF97, n97, rfl, rfl⟩ := h
        obtain ⟨z97a, e97⟩ : ∃ w, w = s97.2.2.1 109 23 := ⟨_, rfl⟩
        have i97a := inv_F hI97 0 9 rfl e97
        rw [← (show z97a = s97.2.2.1 109 23 from e97)] at n97
        show GG _ _ _ _ _ _ _ _ [] _ _ _
        refine g_goto 143 (gd rfl) rfl ?_
        refine g_iconst 0 144 (gd rfl) rfl rfl ?_
        have n144 : ((Int32.ofInt 0)).toInt = 0 → PR s s97 0 0 := by intro hR; first | (exfalso; revert hR; decide) | exact pr_hold (hF140.1 187 rfl) (hF140.1 188 rfl) (hF140.2.2.1 109 109 rfl) (hF140.2.2.1 109 23 rfl) p140 (by rw [← e140, ← e_109_111]; exact n140a) (inv_F hI 0 200 rfl rfl).1 (Or.inl ⟨Or.inl rfl, rfl⟩) | exact pr_hold (hF140.1 187 rfl) (hF140.1 188 rfl) (hF140.2.2.1 109 109 rfl) (hF140.2.2.1 109 23 rfl) p140 (by rw [← e140, ← e_109_111]; exact n140a) (inv_F hI 0 200 rfl rfl).1 (Or.inl ⟨Or.inr rfl, rfl⟩) | exact pr_flt (hF97.1 187 rfl) (hF97.1 188 rfl) (hF97.2.2.1 109 109 rfl) (by rw [← e97]; omega) | exact pr_flt (hF118.1 187 rfl) (hF118.1 188 rfl) (hF118.2.2.1 109 109 rfl) (by rw [← e118]; omega)
        have n144a : ((Int32.ofInt 0)).toInt ≠ 0 → PR s s97 0 1 := by intro hR; first | (exact absurd rfl hR) | exact pr_tr (pr_val p15 p15a rfl (inv_F hI 0 400 rfl rfl).1 (by rw [← e15, ← e_109_109]; exact n15a) (hF15.2.2.1 109 23 rfl) (hF15.1 190 rfl) (hF15.2.2.1 109 111 rfl) (fun _ => Or.inl rfl)) p19 | exact pr_tr (pr_val p56 p56a rfl (inv_F hI 0 400 rfl rfl).1 (by rw [← e56, ← e_109_109]; exact n56a) (hF56.2.2.1 109 23 rfl) (hF56.1 190 rfl) (hF56.2.2.1 109 111 rfl) (fun _ => Or.inr ⟨rfl, by decide, by decide⟩)) p60 | exact pr_tr (pr_tr (b := 0) (pr_flt (hF50.1 187 rfl) (hF50.1 188 rfl) (hF50.2.2.1 109 109 rfl) (by rw [← e50]; omega)) (pr_val p56 p56a rfl (inv_F hI50 0 400 rfl rfl).1 (by rw [← e56, ← (show u_109_109 = s50.2.2.1 109 109 from fr_F e_109_109 hF50 rfl)]; exact n56a) (hF56.2.2.1 109 23 rfl) (hF56.1 190 rfl) (hF56.2.2.1 109 111 rfl) (fun h => absurd h (by rw [← e50]; omega)))) p60
        have n144b : (u_109_109).toInt + (u_109_111).toInt ≤ (u_109_109).toInt + (u_109_111).toInt + 1 := by have a0 := in_u ro_109_29; have a1 := in_u ((inv_F hI 0 200 rfl e_109_111)); have a2 := in_u ((inv_F hI 0 400 rfl e_109_109)); have a3 := in_u i97a; omega
        have n144c : (s97.2.2.1 109 109).toInt + (s97.2.2.1 109 111).toInt ≤ (s.2.2.1 109 109).toInt + (s.2.2.1 109 111).toInt + 1 := by have b0 : u_109_109 = s97.2.2.1 109 109 := fr_F (e_109_109) hF97 rfl; have b1 : u_109_111 = s97.2.2.1 109 111 := fr_F (e_109_111) hF97 rfl; first | (rw [← b0, ← b1, ← e_109_109, ← e_109_111]; exact n144b) | (rw [← b0, ← b1]; exact n144b)
        have n144d : (u_109_28).toInt = 0 → (u_109_109).toInt + (u_109_111).toInt = (u_109_109).toInt + (u_109_111).toInt := by have a0 := in_u ro_109_29; have a1 := in_u ((inv_F hI 0 200 rfl e_109_111)); have a2 := in_u ((inv_F hI 0 400 rfl e_109_109)); have a3 := in_u i97a; omega
        have n144e : (s.2.2.1 109 28).toInt = 0 → (s97.2.2.1 109 109).toInt + (s97.2.2.1 109 111).toInt = (s.2.2.1 109 109).toInt + (s.2.2.1 109 111).toInt := by have b0 : u_109_109 = s97.2.2.1 109 109 := fr_F (e_109_109) hF97 rfl; have b1 : u_109_111 = s97.2.2.1 109 111 := fr_F (e_109_111) hF97 rfl; first | (rw [← b0, ← b1, ← e_109_28, ← e_109_109, ← e_109_111]; exact n144d) | (rw [← b0, ← b1]; exact n144d)
        have n144f : (u_109_28).toInt = 0 → 1 ≤ (z97a).toInt := by have a0 := in_u ro_109_29; have a1 := in_u ((inv_F hI 0 200 rfl e_109_111)); have a2 := in_u ((inv_F hI 0 400 rfl e_109_109)); have a3 := in_u i97a; omega
        have n144g : (s.2.2.1 109 28).toInt = 0 → 1 ≤ (s97.2.2.1 109 23).toInt := by have b0 : z97a = s97.2.2.1 109 23 := e97; rw [← b0, ← e_109_28]; exact n144f
        exact g_ireturn (gd rfl) rfl (nb01 (in_w 0 1 (in_c 0 rfl) rfl)) (hP _ _ ⟨s97, hI97, (fr_tr rfl fr_rf hF97), n144c, n144e, n144g, (Int32.ofInt 0), rfl, rfl, in_w 0 1 (in_c 0 rfl) rfl, n144, n144a⟩)
      · skip
        have i70 := r_eq1 3 3 c70 (inv_F hI (-2147483648) 2147483647 rfl e_109_28) (in_c 3 rfl) rfl
        refine g_aload_n 74 (gd rfl) rfl rfl ?_
        refine g_getI 77 (gd rfl) rfl rfl rfl (fun z74 e74 => ?_)
        have q74 : u_109_30 = z74 := (e_109_30).trans e74.symm
        subst q74
        refine g_bipush 45 79 (gd rfl) rfl rfl ?_
        refine g_cmp_eq 82 103 (gd rfl) rfl rfl (fun c79 => ?_) (fun c79 => ?_)
        · skip
          have i79 := r_eq1 45 45 c79 (i_rng u_109_30) (in_c 45 rfl) rfl
          refine g_aload_n 104 (gd rfl) rfl rfl ?_
          refine g_getI 107 (gd rfl) rfl rfl rfl (fun z104 e104 => ?_)
          refine g_bipush 10 109 (gd rfl) rfl rfl ?_
          refine g_cmp_lt 112 124 (gd rfl) rfl rfl (fun c109 => ?_) (fun c109 => ?_)
          · skip
            have i109 := r_lt1 (-2147483648) 9 c109 (i_rng z104) (in_c 10 rfl) rfl
            refine g_aload_n 125 (gd rfl) rfl rfl ?_
            refine g_aload_n 126 (gd rfl) rfl rfl ?_
            refine g_getI 129 (gd rfl) rfl rfl rfl (fun z126 e126 => ?_)
            have q126 : u_109_30 = z126 := (e_109_30).trans e126.symm
            subst q126
            refine g_bipush 45 131 (gd rfl) rfl rfl ?_
            refine g_cmp_ne 134 138 (gd rfl) rfl rfl (fun c131 => ?_) (fun c131 => ?_)
            · skip
              exact n_ne c131 i79 (in_c 45 rfl) rfl
            · skip
              refine g_iconst 2 135 (gd rfl) rfl rfl ?_
              refine g_goto 140 (gd rfl) rfl ?_
              have n140 : (u_109_111).toInt ≤ 199 := by have a0 := in_u i79; have a1 := in_u ro_109_29; have a2 := in_u i70; have a3 := in_u ((inv_F hI 0 200 rfl e_109_111)); have a4 := in_u ((inv_F hI 0 400 rfl e_109_109)); have a5 := in_u i109; omega
              refine g_callv (X := _) (As := [.int (Int32.ofInt 2)]) (r := []) (b := A 109) (q := 109) 143 (gd rfl) rfl rfl rfl rfl rfl (ww_o rfl) (Nat.le_of_ble_eq_true rfl) (Nat.zero_le _) (Nat.zero_le _) (k_396 (by first | exact dq1 hd rfl | exact dq0 hd rfl | exact dq2 hd rfl | exact dq3 hd rfl | omega) hI e_109_111 n140) (fun e u h => h) (fun v u h => ?_)
              obtain ⟨s140, hI140, hF140, n140a, rfl, rfl, p140⟩ := h
              obtain ⟨z140a, e140⟩ : ∃ w, w = s140.2.2.1 109 111 := ⟨_, rfl⟩
              have i140a := inv_F hI140 0 200 rfl e140
              rw [← (show u_109_111 = s.2.2.1 109 111 from e_109_111)] at n140a
              rw [← (show z140a = s140.2.2.1 109 111 from e140)] at n140a
              show GG _ _ _ _ _ _ _ _ [] _ _ _
              refine g_iconst 0 144 (gd rfl) rfl rfl ?_
              have n144 : ((Int32.ofInt 0)).toInt = 0 → PR s s140 0 0 := by intro hR; first | (exfalso; revert hR; decide) | exact pr_hold (hF140.1 187 rfl) (hF140.1 188 rfl) (hF140.2.2.1 109 109 rfl) (hF140.2.2.1 109 23 rfl) p140 (by rw [← e140, ← e_109_111]; exact n140a) (inv_F hI 0 200 rfl rfl).1 (Or.inl ⟨Or.inl rfl, rfl⟩) | exact pr_hold (hF140.1 187 rfl) (hF140.1 188 rfl) (hF140.2.2.1 109 109 rfl) (hF140.2.2.1 109 23 rfl) p140 (by rw [← e140, ← e_109_111]; exact n140a) (inv_F hI 0 200 rfl rfl).1 (Or.inl ⟨Or.inr rfl, rfl⟩) | exact pr_flt (hF97.1 187 rfl) (hF97.1 188 rfl) (hF97.2.2.1 109 109 rfl) (by rw [← e97]; omega) | exact pr_flt (hF118.1 187 rfl) (hF118.1 188 rfl) (hF118.2.2.1 109 109 rfl) (by rw [← e118]; omega)
              have n144a : ((Int32.ofInt 0)).toInt ≠ 0 → PR s s140 0 1 := by intro hR; first | (exact absurd rfl hR) | exact pr_tr (pr_val p15 p15a rfl (inv_F hI 0 400 rfl rfl).1 (by rw [← e15, ← e_109_109]; exact n15a) (hF15.2.2.1 109 23 rfl) (hF15.1 190 rfl) (hF15.2.2.1 109 111 rfl) (fun _ => Or.inl rfl)) p19 | exact pr_tr (pr_val p56 p56a rfl (inv_F hI 0 400 rfl rfl).1 (by rw [← e56, ← e_109_109]; exact n56a) (hF56.2.2.1 109 23 rfl) (hF56.1 190 rfl) (hF56.2.2.1 109 111 rfl) (fun _ => Or.inr ⟨rfl, by decide, by decide⟩)) p60 | exact pr_tr (pr_tr (b := 0) (pr_flt (hF50.1 187 rfl) (hF50.1 188 rfl) (hF50.2.2.1 109 109 rfl) (by rw [← e50]; omega)) (pr_val p56 p56a rfl (inv_F hI50 0 400 rfl rfl).1 (by rw [← e56, ← (show u_109_109 = s50.2.2.1 109 109 from fr_F e_109_109 hF50 rfl)]; exact n56a) (hF56.2.2.1 109 23 rfl) (hF56.1 190 rfl) (hF56.2.2.1 109 111 rfl) (fun h => absurd h (by rw [← e50]; omega)))) p60
              have n144b : (u_109_109).toInt + (z140a).toInt ≤ (u_109_109).toInt + (u_109_111).toInt + 1 := by have a0 := in_u i79; have a1 := in_u ro_109_29; have a2 := in_u i70; have a3 := in_u ((inv_F hI 0 200 rfl e_109_111)); have a4 := in_u ((inv_F hI 0 400 rfl e_109_109)); have a5 := in_u i140a; omega
              have n144c : (s140.2.2.1 109 109).toInt + (s140.2.2.1 109 111).toInt ≤ (s.2.2.1 109 109).toInt + (s.2.2.1 109 111).toInt + 1 := by have b0 : u_109_109 = s140.2.2.1 109 109 := fr_F (e_109_109) hF140 rfl; have b1 : z140a = s140.2.2.1 109 111 := e140; first | (rw [← b0, ← b1, ← e_109_109, ← e_109_111]; exact n144b) | (rw [← b0, ← b1]; exact n144b)
              have n144d : (u_109_28).toInt = 0 → (u_109_109).toInt + (z140a).toInt = (u_109_109).toInt + (u_109_111).toInt := by have a0 := in_u i79; have a1 := in_u ro_109_29; have a2 := in_u i70; have a3 := in_u ((inv_F hI 0 200 rfl e_109_111)); have a4 := in_u ((inv_F hI 0 400 rfl e_109_109)); have a5 := in_u i140a; omega
              have n144e : (s.2.2.1 109 28).toInt = 0 → (s140.2.2.1 109 109).toInt + (s140.2.2.1 109 111).toInt = (s.2.2.1 109 109).toInt + (s.2.2.1 109 111).toInt := by have b0 : u_109_109 = s140.2.2.1 109 109 := fr_F (e_109_109) hF140 rfl; have b1 : z140a = s140.2.2.1 109 111 := e140; first | (rw [← b0, ← b1, ← e_109_28, ← e_109_109, ← e_109_111]; exact n144d) | (rw [← b0, ← b1]; exact n144d)
              have n144f : (u_109_28).toInt = 0 → 1 ≤ ((s140.2.2.1 109 23)).toInt := by have a0 := in_u i79; have a1 := in_u ro_109_29; have a2 := in_u i70; have a3 := in_u ((inv_F hI 0 200 rfl e_109_111)); have a4 := in_u ((inv_F hI 0 400 rfl e_109_109)); have a5 := in_u i140a; have a6 := in_u ((show In (s140.2.2.1 109 23) 0 9 from inv_F hI140 0 9 rfl rfl)); omega
              have n144g : (s.2.2.1 109 28).toInt = 0 → 1 ≤ (s140.2.2.1 109 23).toInt := by rw [← e_109_28]; exact n144f
              exact g_ireturn (gd rfl) rfl (nb01 (in_w 0 1 (in_c 0 rfl) rfl)) (hP _ _ ⟨s140, hI140, (fr_tr rfl fr_rf hF140), n144c, n144e, n144g, (Int32.ofInt 0), rfl, rfl, in_w 0 1 (in_c 0 rfl) rfl, n144, n144a⟩)
          · skip
            have i109 := r_le2 10 2147483647 c109 (in_c 10 rfl) (i_rng z104) rfl
            refine g_aload_n 113 (gd rfl) rfl rfl ?_
            refine g_iconst 3 114 (gd rfl) rfl rfl ?_
            refine g_aload_n 115 (gd rfl) rfl rfl ?_
            refine g_getI 118 (gd rfl) rfl rfl rfl (fun z115 e115 => ?_)
            have q115 : u_109_29 = z115 := (e_109_29).trans e115.symm
            subst q115
            refine g_callv (X := _) (As := [.int (Int32.ofInt 3), .int u_109_29]) (r := []) (b := A 109) (q := 109) 121 (gd rfl) rfl rfl rfl rfl rfl (ww_o rfl) (Nat.le_of_ble_eq_true rfl) (Nat.zero_le _) (Nat.zero_le _) (k_298 (by first | exact dq1 hd rfl | exact dq0 hd rfl | exact dq2 hd rfl | exact dq3 hd rfl | omega) hI (in_w 1 5 (in_c 3 rfl) rfl)) (fun e u h => h) (fun v u h => ?_)
            obtain ⟨s118, hI118, hF118, n118, rfl, rfl⟩ := h
            obtain ⟨z118a, e118⟩ : ∃ w, w = s118.2.2.1 109 23 := ⟨_, rfl⟩
            have i118a := inv_F hI118 0 9 rfl e118
            rw [← (show z118a = s118.2.2.1 109 23 from e118)] at n118
            show GG _ _ _ _ _ _ _ _ [] _ _ _
            refine g_goto 143 (gd rfl) rfl ?_
            refine g_iconst 0 144 (gd rfl) rfl rfl ?_
            have n144 : ((Int32.ofInt 0)).toInt = 0 → PR s s118 0 0 := by intro hR; first | (exfalso; revert hR; decide) | exact pr_hold (hF140.1 187 rfl) (hF140.1 188 rfl) (hF140.2.2.1 109 109 rfl) (hF140.2.2.1 109 23 rfl) p140 (by rw [← e140, ← e_109_111]; exact n140a) (inv_F hI 0 200 rfl rfl).1 (Or.inl ⟨Or.inl rfl, rfl⟩) | exact pr_hold (hF140.1 187 rfl) (hF140.1 188 rfl) (hF140.2.2.1 109 109 rfl) (hF140.2.2.1 109 23 rfl) p140 (by rw [← e140, ← e_109_111]; exact n140a) (inv_F hI 0 200 rfl rfl).1 (Or.inl ⟨Or.inr rfl, rfl⟩) | exact pr_flt (hF97.1 187 rfl) (hF97.1 188 rfl) (hF97.2.2.1 109 109 rfl) (by rw [← e97]; omega) | exact pr_flt (hF118.1 187 rfl) (hF118.1 188 rfl) (hF118.2.2.1 109 109 rfl) (by rw [← e118]; omega)
            have n144a : ((Int32.ofInt 0)).toInt ≠ 0 → PR s s118 0 1 := by intro hR; first | (exact absurd rfl hR) | exact pr_tr (pr_val p15 p15a rfl (inv_F hI 0 400 rfl rfl).1 (by rw [← e15, ← e_109_109]; exact n15a) (hF15.2.2.1 109 23 rfl) (hF15.1 190 rfl) (hF15.2.2.1 109 111 rfl) (fun _ => Or.inl rfl)) p19 | exact pr_tr (pr_val p56 p56a rfl (inv_F hI 0 400 rfl rfl).1 (by rw [← e56, ← e_109_109]; exact n56a) (hF56.2.2.1 109 23 rfl) (hF56.1 190 rfl) (hF56.2.2.1 109 111 rfl) (fun _ => Or.inr ⟨rfl, by decide, by decide⟩)) p60 | exact pr_tr (pr_tr (b := 0) (pr_flt (hF50.1 187 rfl) (hF50.1 188 rfl) (hF50.2.2.1 109 109 rfl) (by rw [← e50]; omega)) (pr_val p56 p56a rfl (inv_F hI50 0 400 rfl rfl).1 (by rw [← e56, ← (show u_109_109 = s50.2.2.1 109 109 from fr_F e_109_109 hF50 rfl)]; exact n56a) (hF56.2.2.1 109 23 rfl) (hF56.1 190 rfl) (hF56.2.2.1 109 111 rfl) (fun h => absurd h (by rw [← e50]; omega)))) p60
            have n144b : (u_109_109).toInt + (u_109_111).toInt ≤ (u_109_109).toInt + (u_109_111).toInt + 1 := by have a0 := in_u i79; have a1 := in_u ro_109_29; have a2 := in_u i70; have a3 := in_u ((inv_F hI 0 200 rfl e_109_111)); have a4 := in_u ((inv_F hI 0 400 rfl e_109_109)); have a5 := in_u i118a; have a6 := in_u i109; omega
            have n144c : (s118.2.2.1 109 109).toInt + (s118.2.2.1 109 111).toInt ≤ (s.2.2.1 109 109).toInt + (s.2.2.1 109 111).toInt + 1 := by have b0 : u_109_109 = s118.2.2.1 109 109 := fr_F (e_109_109) hF118 rfl; have b1 : u_109_111 = s118.2.2.1 109 111 := fr_F (e_109_111) hF118 rfl; first | (rw [← b0, ← b1, ← e_109_109, ← e_109_111]; exact n144b) | (rw [← b0, ← b1]; exact n144b)
            have n144d : (u_109_28).toInt = 0 → (u_109_109).toInt + (u_109_111).toInt = (u_109_109).toInt + (u_109_111).toInt := by have a0 := in_u i79; have a1 := in_u ro_109_29; have a2 := in_u i70; have a3 := in_u ((inv_F hI 0 200 rfl e_109_111)); have a4 := in_u ((inv_F hI 0 400 rfl e_109_109)); have a5 := in_u i118a; have a6 := in_u i109; omega
            have n144e : (s.2.2.1 109 28).toInt = 0 → (s118.2.2.1 109 109).toInt + (s118.2.2.1 109 111).toInt = (s.2.2.1 109 109).toInt + (s.2.2.1 109 111).toInt := by have b0 : u_109_109 = s118.2.2.1 109 109 := fr_F (e_109_109) hF118 rfl; have b1 : u_109_111 = s118.2.2.1 109 111 := fr_F (e_109_111) hF118 rfl; first | (rw [← b0, ← b1, ← e_109_28, ← e_109_109, ← e_109_111]; exact n144d) | (rw [← b0, ← b1]; exact n144d)
            have n144f : (u_109_28).toInt = 0 → 1 ≤ (z118a).toInt := by have a0 := in_u i79; have a1 := in_u ro_109_29; have a2 := in_u i70; have a3 := in_u ((inv_F hI 0 200 rfl e_109_111)); have a4 := in_u ((inv_F hI 0 400 rfl e_109_109)); have a5 := in_u i118a; have a6 := in_u i109; omega
            have n144g : (s.2.2.1 109 28).toInt = 0 → 1 ≤ (s118.2.2.1 109 23).toInt := by have b0 : z118a = s118.2.2.1 109 23 := e118; rw [← b0, ← e_109_28]; exact n144f
            exact g_ireturn (gd rfl) rfl (nb01 (in_w 0 1 (in_c 0 rfl) rfl)) (hP _ _ ⟨s118, hI118, (fr_tr rfl fr_rf hF118), n144c, n144e, n144g, (Int32.ofInt 0), rfl, rfl, in_w 0 1 (in_c 0 rfl) rfl, n144, n144a⟩)
        · skip
          refine g_aload_n 83 (gd rfl) rfl rfl ?_
          refine g_getI 86 (gd rfl) rfl rfl rfl (fun z83 e83 => ?_)
          have q83 : u_109_30 = z83 := (e_109_30).trans e83.symm
          subst q83
          refine g_bipush 40 88 (gd rfl) rfl rfl ?_
          refine g_cmp_eq 91 103 (gd rfl) rfl rfl (fun c88 => ?_) (fun c88 => ?_)
          · skip
            have i88 := r_eq1 40 40 c88 (i_rng u_109_30) (in_c 40 rfl) rfl
            refine g_aload_n 104 (gd rfl) rfl rfl ?_
            refine g_getI 107 (gd rfl) rfl rfl rfl (fun z104 e104 => ?_)
            refine g_bipush 10 109 (gd rfl) rfl rfl ?_
            refine g_cmp_lt 112 124 (gd rfl) rfl rfl (fun c109 => ?_) (fun c109 => ?_)
            · skip
              have i109 := r_lt1 (-2147483648) 9 c109 (i_rng z104) (in_c 10 rfl) rfl
              refine g_aload_n 125 (gd rfl) rfl rfl ?_
              refine g_aload_n 126 (gd rfl) rfl rfl ?_
              refine g_getI 129 (gd rfl) rfl rfl rfl (fun z126 e126 => ?_)
              have q126 : u_109_30 = z126 := (e_109_30).trans e126.symm
              subst q126
              refine g_bipush 45 131 (gd rfl) rfl rfl ?_
              refine g_cmp_ne 134 138 (gd rfl) rfl rfl (fun c131 => ?_) (fun c131 => ?_)
              · skip
                refine g_bipush 40 140 (gd rfl) rfl rfl ?_
                have n140 : (u_109_111).toInt ≤ 199 := by have a0 := in_u i88; have a1 := in_u ro_109_29; have a2 := in_u i70; have a3 := in_u ((inv_F hI 0 200 rfl e_109_111)); have a4 := in_u ((inv_F hI 0 400 rfl e_109_109)); have a5 := in_u i109; omega
                refine g_callv (X := _) (As := [.int (Int32.ofInt 40)]) (r := []) (b := A 109) (q := 109) 143 (gd rfl) rfl rfl rfl rfl rfl (ww_o rfl) (Nat.le_of_ble_eq_true rfl) (Nat.zero_le _) (Nat.zero_le _) (k_396 (by first | exact dq1 hd rfl | exact dq0 hd rfl | exact dq2 hd rfl | exact dq3 hd rfl | omega) hI e_109_111 n140) (fun e u h => h) (fun v u h => ?_)
                obtain ⟨s140, hI140, hF140, n140a, rfl, rfl, p140⟩ := h
                obtain ⟨z140a, e140⟩ : ∃ w, w = s140.2.2.1 109 111 := ⟨_, rfl⟩
                have i140a := inv_F hI140 0 200 rfl e140
                rw [← (show u_109_111 = s.2.2.1 109 111 from e_109_111)] at n140a
                rw [← (show z140a = s140.2.2.1 109 111 from e140)] at n140a
                show GG _ _ _ _ _ _ _ _ [] _ _ _
                refine g_iconst 0 144 (gd rfl) rfl rfl ?_
                have n144 : ((Int32.ofInt 0)).toInt = 0 → PR s s140 0 0 := by intro hR; first | (exfalso; revert hR; decide) | exact pr_hold (hF140.1 187 rfl) (hF140.1 188 rfl) (hF140.2.2.1 109 109 rfl) (hF140.2.2.1 109 23 rfl) p140 (by rw [← e140, ← e_109_111]; exact n140a) (inv_F hI 0 200 rfl rfl).1 (Or.inl ⟨Or.inl rfl, rfl⟩) | exact pr_hold (hF140.1 187 rfl) (hF140.1 188 rfl) (hF140.2.2.1 109 109 rfl) (hF140.2.2.1 109 23 rfl) p140 (by rw [← e140, ← e_109_111]; exact n140a) (inv_F hI 0 200 rfl rfl).1 (Or.inl ⟨Or.inr rfl, rfl⟩) | exact pr_flt (hF97.1 187 rfl) (hF97.1 188 rfl) (hF97.2.2.1 109 109 rfl) (by rw [← e97]; omega) | exact pr_flt (hF118.1 187 rfl) (hF118.1 188 rfl) (hF118.2.2.1 109 109 rfl) (by rw [← e118]; omega)
                have n144a : ((Int32.ofInt 0)).toInt ≠ 0 → PR s s140 0 1 := by intro hR; first | (exact absurd rfl hR) | exact pr_tr (pr_val p15 p15a rfl (inv_F hI 0 400 rfl rfl).1 (by rw [← e15, ← e_109_109]; exact n15a) (hF15.2.2.1 109 23 rfl) (hF15.1 190 rfl) (hF15.2.2.1 109 111 rfl) (fun _ => Or.inl rfl)) p19 | exact pr_tr (pr_val p56 p56a rfl (inv_F hI 0 400 rfl rfl).1 (by rw [← e56, ← e_109_109]; exact n56a) (hF56.2.2.1 109 23 rfl) (hF56.1 190 rfl) (hF56.2.2.1 109 111 rfl) (fun _ => Or.inr ⟨rfl, by decide, by decide⟩)) p60 | exact pr_tr (pr_tr (b := 0) (pr_flt (hF50.1 187 rfl) (hF50.1 188 rfl) (hF50.2.2.1 109 109 rfl) (by rw [← e50]; omega)) (pr_val p56 p56a rfl (inv_F hI50 0 400 rfl rfl).1 (by rw [← e56, ← (show u_109_109 = s50.2.2.1 109 109 from fr_F e_109_109 hF50 rfl)]; exact n56a) (hF56.2.2.1 109 23 rfl) (hF56.1 190 rfl) (hF56.2.2.1 109 111 rfl) (fun h => absurd h (by rw [← e50]; omega)))) p60
                have n144b : (u_109_109).toInt + (z140a).toInt ≤ (u_109_109).toInt + (u_109_111).toInt + 1 := by have a0 := in_u i88; have a1 := in_u ro_109_29; have a2 := in_u i70; have a3 := in_u ((inv_F hI 0 200 rfl e_109_111)); have a4 := in_u ((inv_F hI 0 400 rfl e_109_109)); have a5 := in_u i140a; omega
                have n144c : (s140.2.2.1 109 109).toInt + (s140.2.2.1 109 111).toInt ≤ (s.2.2.1 109 109).toInt + (s.2.2.1 109 111).toInt + 1 := by have b0 : u_109_109 = s140.2.2.1 109 109 := fr_F (e_109_109) hF140 rfl; have b1 : z140a = s140.2.2.1 109 111 := e140; first | (rw [← b0, ← b1, ← e_109_109, ← e_109_111]; exact n144b) | (rw [← b0, ← b1]; exact n144b)
                have n144d : (u_109_28).toInt = 0 → (u_109_109).toInt + (z140a).toInt = (u_109_109).toInt + (u_109_111).toInt := by have a0 := in_u i88; have a1 := in_u ro_109_29; have a2 := in_u i70; have a3 := in_u ((inv_F hI 0 200 rfl e_109_111)); have a4 := in_u ((inv_F hI 0 400 rfl e_109_109)); have a5 := in_u i140a; omega
                have n144e : (s.2.2.1 109 28).toInt = 0 → (s140.2.2.1 109 109).toInt + (s140.2.2.1 109 111).toInt = (s.2.2.1 109 109).toInt + (s.2.2.1 109 111).toInt := by have b0 : u_109_109 = s140.2.2.1 109 109 := fr_F (e_109_109) hF140 rfl; have b1 : z140a = s140.2.2.1 109 111 := e140; first | (rw [← b0, ← b1, ← e_109_28, ← e_109_109, ← e_109_111]; exact n144d) | (rw [← b0, ← b1]; exact n144d)
                have n144f : (u_109_28).toInt = 0 → 1 ≤ ((s140.2.2.1 109 23)).toInt := by have a0 := in_u i88; have a1 := in_u ro_109_29; have a2 := in_u i70; have a3 := in_u ((inv_F hI 0 200 rfl e_109_111)); have a4 := in_u ((inv_F hI 0 400 rfl e_109_109)); have a5 := in_u i140a; have a6 := in_u ((show In (s140.2.2.1 109 23) 0 9 from inv_F hI140 0 9 rfl rfl)); omega
                have n144g : (s.2.2.1 109 28).toInt = 0 → 1 ≤ (s140.2.2.1 109 23).toInt := by rw [← e_109_28]; exact n144f
                exact g_ireturn (gd rfl) rfl (nb01 (in_w 0 1 (in_c 0 rfl) rfl)) (hP _ _ ⟨s140, hI140, (fr_tr rfl fr_rf hF140), n144c, n144e, n144g, (Int32.ofInt 0), rfl, rfl, in_w 0 1 (in_c 0 rfl) rfl, n144, n144a⟩)
              · skip
                exact absurd c131 c79
            · skip
              have i109 := r_le2 10 2147483647 c109 (in_c 10 rfl) (i_rng z104) rfl
              refine g_aload_n 113 (gd rfl) rfl rfl ?_
              refine g_iconst 3 114 (gd rfl) rfl rfl ?_
              refine g_aload_n 115 (gd rfl) rfl rfl ?_
              refine g_getI 118 (gd rfl) rfl rfl rfl (fun z115 e115 => ?_)
              have q115 : u_109_29 = z115 := (e_109_29).trans e115.symm
              subst q115
              refine g_callv (X := _) (As := [.int (Int32.ofInt 3), .int u_109_29]) (r := []) (b := A 109) (q := 109) 121 (gd rfl) rfl rfl rfl rfl rfl (ww_o rfl) (Nat.le_of_ble_eq_true rfl) (Nat.zero_le _) (Nat.zero_le _) (k_298 (by first | exact dq1 hd rfl | exact dq0 hd rfl | exact dq2 hd rfl | exact dq3 hd rfl | omega) hI (in_w 1 5 (in_c 3 rfl) rfl)) (fun e u h => h) (fun v u h => ?_)
              obtain ⟨s118, hI118, hF118, n118, rfl, rfl⟩ := h
              obtain ⟨z118a, e118⟩ : ∃ w, w = s118.2.2.1 109 23 := ⟨_, rfl⟩
              have i118a := inv_F hI118 0 9 rfl e118
              rw [← (show z118a = s118.2.2.1 109 23 from e118)] at n118
              show GG _ _ _ _ _ _ _ _ [] _ _ _
              refine g_goto 143 (gd rfl) rfl ?_
              refine g_iconst 0 144 (gd rfl) rfl rfl ?_
              have n144 : ((Int32.ofInt 0)).toInt = 0 → PR s s118 0 0 := by intro hR; first | (exfalso; revert hR; decide) | exact pr_hold (hF140.1 187 rfl) (hF140.1 188 rfl) (hF140.2.2.1 109 109 rfl) (hF140.2.2.1 109 23 rfl) p140 (by rw [← e140, ← e_109_111]; exact n140a) (inv_F hI 0 200 rfl rfl).1 (Or.inl ⟨Or.inl rfl, rfl⟩) | exact pr_hold (hF140.1 187 rfl) (hF140.1 188 rfl) (hF140.2.2.1 109 109 rfl) (hF140.2.2.1 109 23 rfl) p140 (by rw [← e140, ← e_109_111]; exact n140a) (inv_F hI 0 200 rfl rfl).1 (Or.inl ⟨Or.inr rfl, rfl⟩) | exact pr_flt (hF97.1 187 rfl) (hF97.1 188 rfl) (hF97.2.2.1 109 109 rfl) (by rw [← e97]; omega) | exact pr_flt (hF118.1 187 rfl) (hF118.1 188 rfl) (hF118.2.2.1 109 109 rfl) (by rw [← e118]; omega)
              have n144a : ((Int32.ofInt 0)).toInt ≠ 0 → PR s s118 0 1 := by intro hR; first | (exact absurd rfl hR) | exact pr_tr (pr_val p15 p15a rfl (inv_F hI 0 400 rfl rfl).1 (by rw [← e15, ← e_109_109]; exact n15a) (hF15.2.2.1 109 23 rfl) (hF15.1 190 rfl) (hF15.2.2.1 109 111 rfl) (fun _ => Or.inl rfl)) p19 | exact pr_tr (pr_val p56 p56a rfl (inv_F hI 0 400 rfl rfl).1 (by rw [← e56, ← e_109_109]; exact n56a) (hF56.2.2.1 109 23 rfl) (hF56.1 190 rfl) (hF56.2.2.1 109 111 rfl) (fun _ => Or.inr ⟨rfl, by decide, by decide⟩)) p60 | exact pr_tr (pr_tr (b := 0) (pr_flt (hF50.1 187 rfl) (hF50.1 188 rfl) (hF50.2.2.1 109 109 rfl) (by rw [← e50]; omega)) (pr_val p56 p56a rfl (inv_F hI50 0 400 rfl rfl).1 (by rw [← e56, ← (show u_109_109 = s50.2.2.1 109 109 from fr_F e_109_109 hF50 rfl)]; exact n56a) (hF56.2.2.1 109 23 rfl) (hF56.1 190 rfl) (hF56.2.2.1 109 111 rfl) (fun h => absurd h (by rw [← e50]; omega)))) p60
              have n144b : (u_109_109).toInt + (u_109_111).toInt ≤ (u_109_109).toInt + (u_109_111).toInt + 1 := by have a0 := in_u i88; have a1 := in_u ro_109_29; have a2 := in_u i70; have a3 := in_u ((inv_F hI 0 200 rfl e_109_111)); have a4 := in_u ((inv_F hI 0 400 rfl e_109_109)); have a5 := in_u i118a; have a6 := in_u i109; omega
              have n144c : (s118.2.2.1 109 109).toInt + (s118.2.2.1 109 111).toInt ≤ (s.2.2.1 109 109).toInt + (s.2.2.1 109 111).toInt + 1 := by have b0 : u_109_109 = s118.2.2.1 109 109 := fr_F (e_109_109) hF118 rfl; have b1 : u_109_111 = s118.2.2.1 109 111 := fr_F (e_109_111) hF118 rfl; first | (rw [← b0, ← b1, ← e_109_109, ← e_109_111]; exact n144b) | (rw [← b0, ← b1]; exact n144b)
              have n144d : (u_109_28).toInt = 0 → (u_109_109).toInt + (u_109_111).toInt = (u_109_109).toInt + (u_109_111).toInt := by have a0 := in_u i88; have a1 := in_u ro_109_29; have a2 := in_u i70; have a3 := in_u ((inv_F hI 0 200 rfl e_109_111)); have a4 := in_u ((inv_F hI 0 400 rfl e_109_109)); have a5 := in_u i118a; have a6 := in_u i109; omega
              have n144e : (s.2.2.1 109 28).toInt = 0 → (s118.2.2.1 109 109).toInt + (s118.2.2.1 109 111).toInt = (s.2.2.1 109 109).toInt + (s.2.2.1 109 111).toInt := by have b0 : u_109_109 = s118.2.2.1 109 109 := fr_F (e_109_109) hF118 rfl; have b1 : u_109_111 = s118.2.2.1 109 111 := fr_F (e_109_111) hF118 rfl; first | (rw [← b0, ← b1, ← e_109_28, ← e_109_109, ← e_109_111]; exact n144d) | (rw [← b0, ← b1]; exact n144d)
              have n144f : (u_109_28).toInt = 0 → 1 ≤ (z118a).toInt := by have a0 := in_u i88; have a1 := in_u ro_109_29; have a2 := in_u i70; have a3 := in_u ((inv_F hI 0 200 rfl e_109_111)); have a4 := in_u ((inv_F hI 0 400 rfl e_109_109)); have a5 := in_u i118a; have a6 := in_u i109; omega
              have n144g : (s.2.2.1 109 28).toInt = 0 → 1 ≤ (s118.2.2.1 109 23).toInt := by have b0 : z118a = s118.2.2.1 109 23 := e118; rw [← b0, ← e_109_28]; exact n144f
              exact g_ireturn (gd rfl) rfl (nb01 (in_w 0 1 (in_c 0 rfl) rfl)) (hP _ _ ⟨s118, hI118, (fr_tr rfl fr_rf hF118), n144c, n144e, n144g, (Int32.ofInt 0), rfl, rfl, in_w 0 1 (in_c 0 rfl) rfl, n144, n144a⟩)
          · skip
            refine g_aload_n 92 (gd rfl) rfl rfl ?_
            refine g_iconst 2 93 (gd rfl) rfl rfl ?_
            refine g_aload_n 94 (gd rfl) rfl rfl ?_
            refine g_getI 97 (gd rfl) rfl rfl rfl (fun z94 e94 => ?_)
            have q94 : u_109_29 = z94 := (e_109_29).trans e94.symm
            subst q94
            refine g_callv (X := _) (As := [.int (Int32.ofInt 2), .int u_109_29]) (r := []) (b := A 109) (q := 109) 100 (gd rfl) rfl rfl rfl rfl rfl (ww_o rfl) (Nat.le_of_ble_eq_true rfl) (Nat.zero_le _) (Nat.zero_le _) (k_298 (by first | exact dq1 hd rfl | exact dq0 hd rfl | exact dq2 hd rfl | exact dq3 hd rfl | omega) hI (in_w 1 5 (in_c 2 rfl) rfl)) (fun e u h => h) (fun v u h => ?_)
            obtain ⟨s97, hI97, hF97, n97, rfl, rfl⟩ := h
            obtain ⟨z97a, e97⟩ : ∃ w, w = s97.2.2.1 109 23 := ⟨_, rfl⟩
            have i97a := inv_F hI97 0 9 rfl e97
            rw [← (show z97a = s97.2.2.1 109 23 from e97)] at n97
            show GG _ _ _ _ _ _ _ _ [] _ _ _
            refine g_goto 143 (gd rfl) rfl ?_
            refine g_iconst 0 144 (gd rfl) rfl rfl ?_
            have n144 : ((Int32.ofInt 0)).toInt = 0 → PR s s97 0 0 := by intro hR; first | (exfalso; revert hR; decide) | exact pr_hold (hF140.1 187 rfl) (hF140.1 188 rfl) (hF140.2.2.1 109 109 rfl) (hF140.2.2.1 109 23 rfl) p140 (by rw [← e140, ← e_109_111]; exact n140a) (inv_F hI 0 200 rfl rfl).1 (Or.inl ⟨Or.inl rfl, rfl⟩) | exact pr_hold (hF140.1 187 rfl) (hF140.1 188 rfl) (hF140.2.2.1 109 109 rfl) (hF140.2.2.1 109 23 rfl) p140 (by rw [← e140, ← e_109_111]; exact n140a) (inv_F hI 0 200 rfl rfl).1 (Or.inl ⟨Or.inr rfl, rfl⟩) | exact pr_flt (hF97.1 187 rfl) (hF97.1 188 rfl) (hF97.2.2.1 109 109 rfl) (by rw [← e97]; omega) | exact pr_flt (hF118.1 187 rfl) (hF118.1 188 rfl) (hF118.2.2.1 109 109 rfl) (by rw [← e118]; omega)
            have n144a : ((Int32.ofInt 0)).toInt ≠ 0 → PR s s97 0 1 := by intro hR; first | (exact absurd rfl hR) | exact pr_tr (pr_val p15 p15a rfl (inv_F hI 0 400 rfl rfl).1 (by rw [← e15, ← e_109_109]; exact n15a) (hF15.2.2.1 109 23 rfl) (hF15.1 190 rfl) (hF15.2.2.1 109 111 rfl) (fun _ => Or.inl rfl)) p19 | exact pr_tr (pr_val p56 p56a rfl (inv_F hI 0 400 rfl rfl).1 (by rw [← e56, ← e_109_109]; exact n56a) (hF56.2.2.1 109 23 rfl) (hF56.1 190 rfl) (hF56.2.2.1 109 111 rfl) (fun _ => Or.inr ⟨rfl, by decide, by decide⟩)) p60 | exact pr_tr (pr_tr (b := 0) (pr_flt (hF50.1 187 rfl) (hF50.1 188 rfl) (hF50.2.2.1 109 109 rfl) (by rw [← e50]; omega)) (pr_val p56 p56a rfl (inv_F hI50 0 400 rfl rfl).1 (by rw [← e56, ← (show u_109_109 = s50.2.2.1 109 109 from fr_F e_109_109 hF50 rfl)]; exact n56a) (hF56.2.2.1 109 23 rfl) (hF56.1 190 rfl) (hF56.2.2.1 109 111 rfl) (fun h => absurd h (by rw [← e50]; omega)))) p60
            have n144b : (u_109_109).toInt + (u_109_111).toInt ≤ (u_109_109).toInt + (u_109_111).toInt + 1 := by have a0 := in_u ro_109_29; have a1 := in_u i70; have a2 := in_u ((inv_F hI 0 200 rfl e_109_111)); have a3 := in_u ((inv_F hI 0 400 rfl e_109_109)); have a4 := in_u i97a; omega
            have n144c : (s97.2.2.1 109 109).toInt + (s97.2.2.1 109 111).toInt ≤ (s.2.2.1 109 109).toInt + (s.2.2.1 109 111).toInt + 1 := by have b0 : u_109_109 = s97.2.2.1 109 109 := fr_F (e_109_109) hF97 rfl; have b1 : u_109_111 = s97.2.2.1 109 111 := fr_F (e_109_111) hF97 rfl; first | (rw [← b0, ← b1, ← e_109_109, ← e_109_111]; exact n144b) | (rw [← b0, ← b1]; exact n144b)
            have n144d : (u_109_28).toInt = 0 → (u_109_109).toInt + (u_109_111).toInt = (u_109_109).toInt + (u_109_111).toInt := by have a0 := in_u ro_109_29; have a1 := in_u i70; have a2 := in_u ((inv_F hI 0 200 rfl e_109_111)); have a3 := in_u ((inv_F hI 0 400 rfl e_109_109)); have a4 := in_u i97a; omega
            have n144e : (s.2.2.1 109 28).toInt = 0 → (s97.2.2.1 109 109).toInt + (s97.2.2.1 109 111).toInt = (s.2.2.1 109 109).toInt + (s.2.2.1 109 111).toInt := by have b0 : u_109_109 = s97.2.2.1 109 109 := fr_F (e_109_109) hF97 rfl; have b1 : u_109_111 = s97.2.2.1 109 111 := fr_F (e_109_111) hF97 rfl; first | (rw [← b0, ← b1, ← e_109_28, ← e_109_109, ← e_109_111]; exact n144d) | (rw [← b0, ← b1]; exact n144d)
            have n144f : (u_109_28).toInt = 0 → 1 ≤ (z97a).toInt := by have a0 := in_u ro_109_29; have a1 := in_u i70; have a2 := in_u ((inv_F hI 0 200 rfl e_109_111)); have a3 := in_u ((inv_F hI 0 400 rfl e_109_109)); have a4 := in_u i97a; omega
            have n144g : (s.2.2.1 109 28).toInt = 0 → 1 ≤ (s97.2.2.1 109 23).toInt := by have b0 : z97a = s97.2.2.1 109 23 := e97; rw [← b0, ← e_109_28]; exact n144f
            exact g_ireturn (gd rfl) rfl (nb01 (in_w 0 1 (in_c 0 rfl) rfl)) (hP _ _ ⟨s97, hI97, (fr_tr rfl fr_rf hF97), n144c, n144e, n144g, (Int32.ofInt 0), rfl, rfl, in_w 0 1 (in_c 0 rfl) rfl, n144, n144a⟩)
    · skip
      have i29 := r_eq1 1 1 c29 (inv_F hI (-2147483648) 2147483647 rfl e_109_28) (in_c 1 rfl) rfl
      refine g_aload_n 33 (gd rfl) rfl rfl ?_
      refine g_getI 36 (gd rfl) rfl rfl rfl (fun z33 e33 => ?_)
      have q33 : u_109_30 = z33 := (e_109_30).trans e33.symm
      subst q33
      refine g_calls (As := [.int u_109_30]) (r := []) 39 (gd rfl) rfl rfl rfl rfl rfl (Nat.le_of_ble_eq_true rfl) (mc := 0) (ms := 0) (Nat.zero_le _) (Nat.zero_le _) (P := fun v u => _) ?_ (fun v u h => h)
      intro po36 xx36 hp36 hx36
      refine g_enter2 (k := 394) (N := 300) (by first | exact dq1 hd rfl | exact dq0 hd rfl | exact dq2 hd rfl | exact dq3 hd rfl | omega) rfl (Nat.le_of_ble_eq_true rfl) ?_
      refine g_iload_n 1 (gd rfl) rfl rfl ?_
      refine g_tsw [106, 121, 121, 118, 121, 108, 121, 121, 104, 115, 102, 121, 121, 121, 110, 112, 121, 121, 121, 121, 100] 121 (gd rfl) rfl rfl rfl ⟨fun c36x1 => ?_, fun c36x1 => ?_, fun c36x1 => ?_, fun c36x1 => ?_, fun c36x1 => ?_, fun c36x1 => ?_, fun c36x1 => ?_, fun c36x1 => ?_, fun c36x1 => ?_, fun c36x1 => ?_, fun c36x1 => ?_, fun c36x1 => ?_, fun c36x1 => ?_, fun c36x1 => ?_, fun c36x1 => ?_, fun c36x1 => ?_, fun c36x1 => ?_, fun c36x1 => ?_, fun c36x1 => ?_, fun c36x1 => ?_, fun c36x1 => ?_, trivial⟩ (fun c36x1 => ?_)
      · skip
        have i36x1 := sw_eq c36x1
        refine g_iconst 3 107 (gd rfl) rfl rfl ?_
        refine g_ireturn (gd rfl) rfl rfl (hp36 _ _ ?_)
        show GG _ _ _ _ _ _ _ _ [.int (Int32.ofInt 3)] _ _ _
        refine g_istore_n 40 (gd rfl) rfl (Nat.le_of_ble_eq_true rfl) ?_
        refine g_iload_n 41 (gd rfl) rfl rfl ?_
        refine g_if_ge 44 53 (gd rfl) rfl rfl (fun c41 => ?_) (fun c41 => ?_)
        · skip
          refine g_aload_n 54 (gd rfl) rfl rfl ?_
          refine g_iconst 1 55 (gd rfl) rfl rfl ?_
          refine g_iload_n 56 (gd rfl) rfl rfl ?_
          have n56 : (u_109_109).toInt ≤ 399 := by have a0 := in_u i36x1; have a1 := in_u ro_109_29; have a2 := in_u i29; have a3 := in_u ((inv_F hI 0 200 rfl e_109_111)); have a4 := in_u ((inv_F hI 0 400 rfl e_109_109)); have a5 := in_u ((in_c 3 rfl)); omega
          refine g_callv (X := _) (As := [.int (Int32.ofInt 1), .int (Int32.ofInt 3)]) (r := []) (b := A 109) (q := 109) 59 (gd rfl) rfl rfl rfl rfl rfl (ww_o rfl) (Nat.le_of_ble_eq_true rfl) (Nat.zero_le _) (Nat.zero_le _) (k_393 (by first | exact dq1 hd rfl | exact dq0 hd rfl | exact dq2 hd rfl | exact dq3 hd rfl | omega) hI e_109_109 n56) (fun e u h => h) (fun v u h => ?_)
          obtain ⟨s56, hI56, hF56, n56a, rfl, rfl, p56, p56a⟩ := h
          obtain ⟨z56a, e56⟩ : ∃ w, w = s56.2.2.1 109 109 := ⟨_, rfl⟩
          have i56a := inv_F hI56 0 400 rfl e56
          rw [← (show u_109_109 = s.2.2.1 109 109 from e_109_109)] at n56a
          rw [← (show z56a = s56.2.2.1 109 109 from e56)] at n56a
          show GG _ _ _ _ _ _ _ _ [] _ _ _
          refine g_aload_n 60 (gd rfl) rfl rfl ?_
          have v60 : u_109_111 = s56.2.2.1 109 111 := fr_F (e_109_111) hF56 rfl
          have n60 : (z56a).toInt + (u_109_111).toInt ≤ 120 := by have a0 := in_u i36x1; have a1 := in_u ro_109_29; have a2 := in_u i29; have a3 := in_u ((inv_F hI 0 200 rfl e_109_111)); have a4 := in_u ((inv_F hI 0 400 rfl e_109_109)); have a5 := in_u ((in_c 3 rfl)); have a6 := in_u i56a; omega
          refine g_callv (X := _) (As := []) (r := []) (b := A 109) (q := 109) 63 (gd rfl) rfl rfl rfl rfl rfl (ww_o rfl) (Nat.le_of_ble_eq_true rfl) (Nat.zero_le _) (Nat.zero_le _) (k_400 (by first | exact dq1 hd rfl | exact dq0 hd rfl | exact dq2 hd rfl | exact dq3 hd rfl | omega) hI56 e56 v60 n60) (fun e u h => h) (fun v u h => ?_)
          obtain ⟨s60, hI60, hF60, n60a, rfl, rfl, p60⟩ := h
          obtain ⟨z60a, e60⟩ : ∃ w, w = s60.2.2.1 109 109 := ⟨_, rfl⟩
          have i60a := inv_F hI60 0 400 rfl e60
          obtain ⟨z60b, e60a⟩ : ∃ w, w = s60.2.2.1 109 111 := ⟨_, rfl⟩
          have i60b := inv_F hI60 0 200 rfl e60a
          rw [← (show z56a = s56.2.2.1 109 109 from e56)] at n60a
          rw [← (show u_109_111 = s56.2.2.1 109 111 from fr_F (e_109_111) hF56 rfl)] at n60a
          rw [← (show z60a = s60.2.2.1 109 109 from e60)] at n60a
          rw [← (show z60b = s60.2.2.1 109 111 from e60a)] at n60a
          show GG _ _ _ _ _ _ _ _ [] _ _ _
          refine g_iconst 1 64 (gd rfl) rfl rfl ?_
          have n64 : ((Int32.ofInt 1)).toInt = 0 → PR s s60 0 0 := by intro hR; first | (exfalso; revert hR; decide) | exact pr_hold (hF140.1 187 rfl) (hF140.1 188 rfl) (hF140.2.2.1 109 109 rfl) (hF140.2.2.1 109 23 rfl) p140 (by rw [← e140, ← e_109_111]; exact n140a) (inv_F hI 0 200 rfl rfl).1 (Or.inl ⟨Or.inl rfl, rfl⟩) | exact pr_hold (hF140.1 187 rfl) (hF140.1 188 rfl) (hF140.2.2.1 109 109 rfl) (hF140.2.2.1 109 23 rfl) p140 (by rw [← e140, ← e_109_111]; exact n140a) (inv_F hI 0 200 rfl rfl).1 (Or.inl ⟨Or.inr rfl, rfl⟩) | exact pr_flt (hF97.1 187 rfl) (hF97.1 188 rfl) (hF97.2.2.1 109 109 rfl) (by rw [← e97]; omega) | exact pr_flt (hF118.1 187 rfl) (hF118.1 188 rfl) (hF118.2.2.1 109 109 rfl) (by rw [← e118]; omega)
          have n64a : ((Int32.ofInt 1)).toInt ≠ 0 → PR s s60 0 1 := by intro hR; first | (exact absurd rfl hR) | exact pr_tr (pr_val p15 p15a rfl (inv_F hI 0 400 rfl rfl).1 (by rw [← e15, ← e_109_109]; exact n15a) (hF15.2.2.1 109 23 rfl) (hF15.1 190 rfl) (hF15.2.2.1 109 111 rfl) (fun _ => Or.inl rfl)) p19 | exact pr_tr (pr_val p56 p56a rfl (inv_F hI 0 400 rfl rfl).1 (by rw [← e56, ← e_109_109]; exact n56a) (hF56.2.2.1 109 23 rfl) (hF56.1 190 rfl) (hF56.2.2.1 109 111 rfl) (fun _ => Or.inr ⟨rfl, by decide, by decide⟩)) p60 | exact pr_tr (pr_tr (b := 0) (pr_flt (hF50.1 187 rfl) (hF50.1 188 rfl) (hF50.2.2.1 109 109 rfl) (by rw [← e50]; omega)) (pr_val p56 p56a rfl (inv_F hI50 0 400 rfl rfl).1 (by rw [← e56, ← (show u_109_109 = s50.2.2.1 109 109 from fr_F e_109_109 hF50 rfl)]; exact n56a) (hF56.2.2.1 109 23 rfl) (hF56.1 190 rfl) (hF56.2.2.1 109 111 rfl) (fun h => absurd h (by rw [← e50]; omega)))) p60
          have n64b : (z60a).toInt + (z60b).toInt ≤ (u_109_109).toInt + (u_109_111).toInt + 1 := by have a0 := in_u i36x1; have a1 := in_u ro_109_29; have a2 := in_u i29; have a3 := in_u ((inv_F hI 0 200 rfl e_109_111)); have a4 := in_u ((inv_F hI 0 400 rfl e_109_109)); have a5 := in_u ((in_c 3 rfl)); have a6 := in_u i60b; have a7 := in_u i60a; omega
          have n64c : (s60.2.2.1 109 109).toInt + (s60.2.2.1 109 111).toInt ≤ (s.2.2.1 109 109).toInt + (s.2.2.1 109 111).toInt + 1 := by have b0 : z60a = s60.2.2.1 109 109 := e60; have b1 : z60b = s60.2.2.1 109 111 := e60a; first | (rw [← b0, ← b1, ← e_109_109, ← e_109_111]; exact n64b) | (rw [← b0, ← b1]; exact n64b)
          have n64d : (u_109_28).toInt = 0 → (z60a).toInt + (z60b).toInt = (u_109_109).toInt + (u_109_111).toInt := by have a0 := in_u i36x1; have a1 := in_u ro_109_29; have a2 := in_u i29; have a3 := in_u ((inv_F hI 0 200 rfl e_109_111)); have a4 := in_u ((inv_F hI 0 400 rfl e_109_109)); have a5 := in_u ((in_c 3 rfl)); have a6 := in_u i60b; have a7 := in_u i60a; omega
          have n64e : (s.2.2.1 109 28).toInt = 0 → (s60.2.2.1 109 109).toInt + (s60.2.2.1 109 111).toInt = (s.2.2.1 109 109).toInt + (s.2.2.1 109 111).toInt := by have b0 : z60a = s60.2.2.1 109 109 := e60; have b1 : z60b = s60.2.2.1 109 111 := e60a; first | (rw [← b0, ← b1, ← e_109_28, ← e_109_109, ← e_109_111]; exact n64d) | (rw [← b0, ← b1]; exact n64d)
          have n64f : (u_109_28).toInt = 0 → 1 ≤ ((s60.2.2.1 109 23)).toInt := by have a0 := in_u i36x1; have a1 := in_u ro_109_29; have a2 := in_u i29; have a3 := in_u ((inv_F hI 0 200 rfl e_109_111)); have a4 := in_u ((inv_F hI 0 400 rfl e_109_109)); have a5 := in_u ((in_c 3 rfl)); have a6 := in_u i60b; have a7 := in_u i60a; have a8 := in_u ((show In (s60.2.2.1 109 23) 0 9 from inv_F hI60 0 9 rfl rfl)); omega
          have n64g : (s.2.2.1 109 28).toInt = 0 → 1 ≤ (s60.2.2.1 109 23).toInt := by rw [← e_109_28]; exact n64f
          exact g_ireturn (gd rfl) rfl (nb01 (in_w 0 1 (in_c 1 rfl) rfl)) (hP _ _ ⟨s60, hI60, (fr_tr rfl (fr_tr rfl fr_rf hF56) hF60), n64c, n64e, n64g, (Int32.ofInt 1), rfl, rfl, in_w 0 1 (in_c 1 rfl) rfl, n64, n64a⟩)
        · skip
          exact zn_lt c41 (in_c 3 rfl) rfl
      · skip
        have i36x1 := sw_eq c36x1
        refine g_iconst (-1) 122 (gd rfl) rfl rfl ?_
        refine g_ireturn (gd rfl) rfl rfl (hp36 _ _ ?_)
        show GG _ _ _ _ _ _ _ _ [.int (Int32.ofInt (-1))] _ _ _
        refine g_istore_n 40 (gd rfl) rfl (Nat.le_of_ble_eq_true rfl) ?_
        refine g_iload_n 41 (gd rfl) rfl rfl ?_
        refine g_if_ge 44 53 (gd rfl) rfl rfl (fun c41 => ?_) (fun c41 => ?_)
        · skip
          exact zn_ge c41 (in_c (-1) rfl) rfl
        · skip
          refine g_aload_n 45 (gd rfl) rfl rfl ?_
          refine g_iconst 5 46 (gd rfl) rfl rfl ?_
          refine g_aload_n 47 (gd rfl) rfl rfl ?_
          refine g_getI 50 (gd rfl) rfl rfl rfl (fun z47 e47 => ?_)
          have q47 : u_109_29 = z47 := (e_109_29).trans e47.symm
          subst q47
          refine g_callv (X := _) (As := [.int (Int32.ofInt 5), .int u_109_29]) (r := []) (b := A 109) (q := 109) 53 (gd rfl) rfl rfl rfl rfl rfl (ww_o rfl) (Nat.le_of_ble_eq_true rfl) (Nat.zero_le _) (Nat.zero_le _) (k_298 (by first | exact dq1 hd rfl | exact dq0 hd rfl | exact dq2 hd rfl | exact dq3 hd rfl | omega) hI (in_w 1 5 (in_c 5 rfl) rfl)) (fun e u h => h) (fun v u h => ?_)
          obtain ⟨s50, hI50, hF50, n50, rfl, rfl⟩ := h
          obtain ⟨z50a, e50⟩ : ∃ w, w = s50.2.2.1 109 23 := ⟨_, rfl⟩
          have i50a := inv_F hI50 0 9 rfl e50
          rw [← (show z50a = s50.2.2.1 109 23 from e50)] at n50
          show GG _ _ _ _ _ _ _ _ [] _ _ _
          refine g_aload_n 54 (gd rfl) rfl rfl ?_
          refine g_iconst 1 55 (gd rfl) rfl rfl ?_
          refine g_iload_n 56 (gd rfl) rfl rfl ?_
          have v56 : u_109_109 = s50.2.2.1 109 109 := fr_F (e_109_109) hF50 rfl
          have n56 : (u_109_109).toInt ≤ 399 := by have a0 := in_u i36x1; have a1 := in_u ro_109_29; have a2 := in_u i29; have a3 := in_u ((inv_F hI 0 200 rfl e_109_111)); have a4 := in_u ((inv_F hI 0 400 rfl e_109_109)); have a5 := in_u ((in_c (-1) rfl)); have a6 := in_u i50a; omega
          refine g_callv (X := _) (As := [.int (Int32.ofInt 1), .int (Int32.ofInt (-1))]) (r := []) (b := A 109) (q := 109) 59 (gd rfl) rfl rfl rfl rfl rfl (ww_o rfl) (Nat.le_of_ble_eq_true rfl) (Nat.zero_le _) (Nat.zero_le _) (k_393 (by first | exact dq1 hd rfl | exact dq0 hd rfl | exact dq2 hd rfl | exact dq3 hd rfl | omega) hI50 v56 n56) (fun e u h => h) (fun v u h => ?_)
          obtain ⟨s56, hI56, hF56, n56a, rfl, rfl, p56, p56a⟩ := h
          obtain ⟨z56a, e56⟩ : ∃ w, w = s56.2.2.1 109 109 := ⟨_, rfl⟩
          have i56a := inv_F hI56 0 400 rfl e56
          rw [← (show u_109_109 = s50.2.2.1 109 109 from fr_F (e_109_109) hF50 rfl)] at n56a
          rw [← (show z56a = s56.2.2.1 109 109 from e56)] at n56a
          show GG _ _ _ _ _ _ _ _ [] _ _ _
          refine g_aload_n 60 (gd rfl) rfl rfl ?_
          have v60 : u_109_111 = s56.2.2.1 109 111 := fr_F (fr_F (e_109_111) hF50 rfl) hF56 rfl
          have n60 : (z56a).toInt + (u_109_111).toInt ≤ 120 := by have a0 := in_u i36x1; have a1 := in_u ro_109_29; have a2 := in_u i29; have a3 := in_u ((inv_F hI 0 200 rfl e_109_111)); have a4 := in_u ((inv_F hI 0 400 rfl e_109_109)); have a5 := in_u ((in_c (-1) rfl)); have a6 := in_u i56a; have a7 := in_u i50a; omega
          refine g_callv (X := _) (As := []) (r := []) (b := A 109) (q := 109) 63 (gd rfl) rfl rfl rfl rfl rfl (ww_o rfl) (Nat.le_of_ble_eq_true rfl) (Nat.zero_le _) (Nat.zero_le _) (k_400 (by first | exact dq1 hd rfl | exact dq0 hd rfl | exact dq2 hd rfl | exact dq3 hd rfl | omega) hI56 e56 v60 n60) (fun e u h => h) (fun v u h => ?_)
          obtain ⟨s60, hI60, hF60, n60a, rfl, rfl, p60⟩ := h
          obtain ⟨z60a, e60⟩ : ∃ w, w = s60.2.2.1 109 109 := ⟨_, rfl⟩
          have i60a := inv_F hI60 0 400 rfl e60
          obtain ⟨z60b, e60a⟩ : ∃ w, w = s60.2.2.1 109 111 := ⟨_, rfl⟩
          have i60b := inv_F hI60 0 200 rfl e60a
          rw [← (show z56a = s56.2.2.1 109 109 from e56)] at n60a
          rw [← (show u_109_111 = s56.2.2.1 109 111 from fr_F (fr_F (e_109_111) hF50 rfl) hF56 rfl)] at n60a
          rw [← (show z60a = s60.2.2.1 109 109 from e60)] at n60a
          rw [← (show z60b = s60.2.2.1 109 111 from e60a)] at n60a
          show GG _ _ _ _ _ _ _ _ [] _ _ _
          refine g_iconst 1 64 (gd rfl) rfl rfl ?_
          have n64 : ((Int32.ofInt 1)).toInt = 0 → PR s s60 0 0 := by intro hR; first | (exfalso; revert hR; decide) | exact pr_hold (hF140.1 187 rfl) (hF140.1 188 rfl) (hF140.2.2.1 109 109 rfl) (hF140.2.2.1 109 23 rfl) p140 (by rw [← e140, ← e_109_111]; exact n140a) (inv_F hI 0 200 rfl rfl).1 (Or.inl ⟨Or.inl rfl, rfl⟩) | exact pr_hold (hF140.1 187 rfl) (hF140.1 188 rfl) (hF140.2.2.1 109 109 rfl) (hF140.2.2.1 109 23 rfl) p140 (by rw [← e140, ← e_109_111]; exact n140a) (inv_F hI 0 200 rfl rfl).1 (Or.inl ⟨Or.inr rfl, rfl⟩) | exact pr_flt (hF97.1 187 rfl) (hF97.1 188 rfl) (hF97.2.2.1 109 109 rfl) (by rw [← e97]; omega) | exact pr_flt (hF118.1 187 rfl) (hF118.1 188 rfl) (hF118.2.2.1 109 109 rfl) (by rw [← e118]; omega)
          have n64a : ((Int32.ofInt 1)).toInt ≠ 0 → PR s s60 0 1 := by intro hR; first | (exact absurd rfl hR) | exact pr_tr (pr_val p15 p15a rfl (inv_F hI 0 400 rfl rfl).1 (by rw [← e15, ← e_109_109]; exact n15a) (hF15.2.2.1 109 23 rfl) (hF15.1 190 rfl) (hF15.2.2.1 109 111 rfl) (fun _ => Or.inl rfl)) p19 | exact pr_tr (pr_val p56 p56a rfl (inv_F hI 0 400 rfl rfl).1 (by rw [← e56, ← e_109_109]; exact n56a) (hF56.2.2.1 109 23 rfl) (hF56.1 190 rfl) (hF56.2.2.1 109 111 rfl) (fun _ => Or.inr ⟨rfl, by decide, by decide⟩)) p60 | exact pr_tr (pr_tr (b := 0) (pr_flt (hF50.1 187 rfl) (hF50.1 188 rfl) (hF50.2.2.1 109 109 rfl) (by rw [← e50]; omega)) (pr_val p56 p56a rfl (inv_F hI50 0 400 rfl rfl).1 (by rw [← e56, ← (show u_109_109 = s50.2.2.1 109 109 from fr_F e_109_109 hF50 rfl)]; exact n56a) (hF56.2.2.1 109 23 rfl) (hF56.1 190 rfl) (hF56.2.2.1 109 111 rfl) (fun h => absurd h (by rw [← e50]; omega)))) p60
          have n64b : (z60a).toInt + (z60b).toInt ≤ (u_109_109).toInt + (u_109_111).toInt + 1 := by have a0 := in_u i36x1; have a1 := in_u ro_109_29; have a2 := in_u i29; have a3 := in_u ((inv_F hI 0 200 rfl e_109_111)); have a4 := in_u ((inv_F hI 0 400 rfl e_109_109)); have a5 := in_u ((in_c (-1) rfl)); have a6 := in_u i60b; have a7 := in_u i60a; have a8 := in_u i50a; omega
          have n64c : (s60.2.2.1 109 109).toInt + (s60.2.2.1 109 111).toInt ≤ (s.2.2.1 109 109).toInt + (s.2.2.1 109 111).toInt + 1 := by have b0 : z60a = s60.2.2.1 109 109 := e60; have b1 : z60b = s60.2.2.1 109 111 := e60a; first | (rw [← b0, ← b1, ← e_109_109, ← e_109_111]; exact n64b) | (rw [← b0, ← b1]; exact n64b)
          have n64d : (u_109_28).toInt = 0 → (z60a).toInt + (z60b).toInt = (u_109_109).toInt + (u_109_111).toInt := by have a0 := in_u i36x1; have a1 := in_u ro_109_29; have a2 := in_u i29; have a3 := in_u ((inv_F hI 0 200 rfl e_109_111)); have a4 := in_u ((inv_F hI 0 400 rfl e_109_109)); have a5 := in_u ((in_c (-1) rfl)); have a6 := in_u i60b; have a7 := in_u i60a; have a8 := in_u i50a; omega
          have n64e : (s.2.2.1 109 28).toInt = 0 → (s60.2.2.1 109 109).toInt + (s60.2.2.1 109 111).toInt = (s.2.2.1 109 109).toInt + (s.2.2.1 109 111).toInt := by have b0 : z60a = s60.2.2.1 109 109 := e60; have b1 : z60b = s60.2.2.1 109 111 := e60a; first | (rw [← b0, ← b1, ← e_109_28, ← e_109_109, ← e_109_111]; exact n64d) | (rw [← b0, ← b1]; exact n64d)
          have n64f : (u_109_28).toInt = 0 → 1 ≤ (z50a).toInt := by have a0 := in_u i36x1; have a1 := in_u ro_109_29; have a2 := in_u i29; have a3 := in_u ((inv_F hI 0 200 rfl e_109_111)); have a4 := in_u ((inv_F hI 0 400 rfl e_109_109)); have a5 := in_u ((in_c (-1) rfl)); have a6 := in_u i60b; have a7 := in_u i60a; have a8 := in_u i50a; omega
          have n64g : (s.2.2.1 109 28).toInt = 0 → 1 ≤ (s60.2.2.1 109 23).toInt := by have b0 : z50a = s60.2.2.1 109 23 := fr_F (fr_F (e50) hF56 rfl) hF60 rfl; rw [← b0, ← e_109_28]; exact n64f
          exact g_ireturn (gd rfl) rfl (nb01 (in_w 0 1 (in_c 1 rfl) rfl)) (hP _ _ ⟨s60, hI60, (fr_tr rfl (fr_tr rfl (fr_tr rfl fr_rf hF50) hF56) hF60), n64c, n64e, n64g, (Int32.ofInt 1), rfl, rfl, in_w 0 1 (in_c 1 rfl) rfl, n64, n64a⟩)
      · skip
        have i36x1 := sw_eq c36x1
        refine g_iconst (-1) 122 (gd rfl) rfl rfl ?_
        refine g_ireturn (gd rfl) rfl rfl (hp36 _ _ ?_)
        show GG _ _ _ _ _ _ _ _ [.int (Int32.ofInt (-1))] _ _ _
        refine g_istore_n 40 (gd rfl) rfl (Nat.le_of_ble_eq_true rfl) ?_
        refine g_iload_n 41 (gd rfl) rfl rfl ?_
        refine g_if_ge 44 53 (gd rfl) rfl rfl (fun c41 => ?_) (fun c41 => ?_)
        · skip
          exact zn_ge c41 (in_c (-1) rfl) rfl
        · skip
          refine g_aload_n 45 (gd rfl) rfl rfl ?_
          refine g_iconst 5 46 (gd rfl) rfl rfl ?_
          refine g_aload_n 47 (gd rfl) rfl rfl ?_
          refine g_getI 50 (gd rfl) rfl rfl rfl (fun z47 e47 => ?_)
          have q47 : u_109_29 = z47 := (e_109_29).trans e47.symm
          subst q47
          refine g_callv (X := _) (As := [.int (Int32.ofInt 5), .int u_109_29]) (r := []) (b := A 109) (q := 109) 53 (gd rfl) rfl rfl rfl rfl rfl (ww_o rfl) (Nat.le_of_ble_eq_true rfl) (Nat.zero_le _) (Nat.zero_le _) (k_298 (by first | exact dq1 hd rfl | exact dq0 hd rfl | exact dq2 hd rfl | exact dq3 hd rfl | omega) hI (in_w 1 5 (in_c 5 rfl) rfl)) (fun e u h => h) (fun v u h => ?_)
          obtain ⟨s50, hI50, hF50, n50, rfl, rfl⟩ := h
          obtain ⟨z50a, e50⟩ : ∃ w, w = s50.2.2.1 109 23 := ⟨_, rfl⟩
          have i50a := inv_F hI50 0 9 rfl e50
          rw [← (show z50a = s50.2.2.1 109 23 from e50)] at n50
          show GG _ _ _ _ _ _ _ _ [] _ _ _
          refine g_aload_n 54 (gd rfl) rfl rfl ?_
          refine g_iconst 1 55 (gd rfl) rfl rfl ?_
          refine g_iload_n 56 (gd rfl) rfl rfl ?_
          have v56 : u_109_109 = s50.2.2.1 109 109 := fr_F (e_109_109) hF50 rfl
          have n56 : (u_109_109).toInt ≤ 399 := by have a0 := in_u i36x1; have a1 := in_u ro_109_29; have a2 := in_u i29; have a3 := in_u ((inv_F hI 0 200 rfl e_109_111)); have a4 := in_u ((inv_F hI 0 400 rfl e_109_109)); have a5 := in_u ((in_c (-1) rfl)); have a6 := in_u i50a; omega
          refine g_callv (X := _) (As := [.int (Int32.ofInt 1), .int (Int32.ofInt (-1))]) (r := []) (b := A 109) (q := 109) 59 (gd rfl) rfl rfl rfl rfl rfl (ww_o rfl) (Nat.le_of_ble_eq_true rfl) (Nat.zero_le _) (Nat.zero_le _) (k_393 (by first | exact dq1 hd rfl | exact dq0 hd rfl | exact dq2 hd rfl | exact dq3 hd rfl | omega) hI50 v56 n56) (fun e u h => h) (fun v u h => ?_)
          obtain ⟨s56, hI56, hF56, n56a, rfl, rfl, p56, p56a⟩ := h
          obtain ⟨z56a, e56⟩ : ∃ w, w = s56.2.2.1 109 109 := ⟨_, rfl⟩
          have i56a := inv_F hI56 0 400 rfl e56
          rw [← (show u_109_109 = s50.2.2.1 109 109 from fr_F (e_109_109) hF50 rfl)] at n56a
          rw [← (show z56a = s56.2.2.1 109 109 from e56)] at n56a
          show GG _ _ _ _ _ _ _ _ [] _ _ _
          refine g_aload_n 60 (gd rfl) rfl rfl ?_
          have v60 : u_109_111 = s56.2.2.1 109 111 := fr_F (fr_F (e_109_111) hF50 rfl) hF56 rfl
          have n60 : (z56a).toInt + (u_109_111).toInt ≤ 120 := by have a0 := in_u i36x1; have a1 := in_u ro_109_29; have a2 := in_u i29; have a3 := in_u ((inv_F hI 0 200 rfl e_109_111)); have a4 := in_u ((inv_F hI 0 400 rfl e_109_109)); have a5 := in_u ((in_c (-1) rfl)); have a6 := in_u i56a; have a7 := in_u i50a; omega
          refine g_callv (X := _) (As := []) (r := []) (b := A 109) (q := 109) 63 (gd rfl) rfl rfl rfl rfl rfl (ww_o rfl) (Nat.le_of_ble_eq_true rfl) (Nat.zero_le _) (Nat.zero_le _) (k_400 (by first | exact dq1 hd rfl | exact dq0 hd rfl | exact dq2 hd rfl | exact dq3 hd rfl | omega) hI56 e56 v60 n60) (fun e u h => h) (fun v u h => ?_)
          obtain ⟨s60, hI60, hF60, n60a, rfl, rfl, p60⟩ := h
          obtain ⟨z60a, e60⟩ : ∃ w, w = s60.2.2.1 109 109 := ⟨_, rfl⟩
          have i60a := inv_F hI60 0 400 rfl e60
          obtain ⟨z60b, e60a⟩ : ∃ w, w = s60.2.2.1 109 111 := ⟨_, rfl⟩
          have i60b := inv_F hI60 0 200 rfl e60a
          rw [← (show z56a = s56.2.2.1 109 109 from e56)] at n60a
          rw [← (show u_109_111 = s56.2.2.1 109 111 from fr_F (fr_F (e_109_111) hF50 rfl) hF56 rfl)] at n60a
          rw [← (show z60a = s60.2.2.1 109 109 from e60)] at n60a
          rw [← (show z60b = s60.2.2.1 109 111 from e60a)] at n60a
          show GG _ _ _ _ _ _ _ _ [] _ _ _
          refine g_iconst 1 64 (gd rfl) rfl rfl ?_
          have n64 : ((Int32.ofInt 1)).toInt = 0 → PR s s60 0 0 := by intro hR; first | (exfalso; revert hR; decide) | exact pr_hold (hF140.1 187 rfl) (hF140.1 188 rfl) (hF140.2.2.1 109 109 rfl) (hF140.2.2.1 109 23 rfl) p140 (by rw [← e140, ← e_109_111]; exact n140a) (inv_F hI 0 200 rfl rfl).1 (Or.inl ⟨Or.inl rfl, rfl⟩) | exact pr_hold (hF140.1 187 rfl) (hF140.1 188 rfl) (hF140.2.2.1 109 109 rfl) (hF140.2.2.1 109 23 rfl) p140 (by rw [← e140, ← e_109_111]; exact n140a) (inv_F hI 0 200 rfl rfl).1 (Or.inl ⟨Or.inr rfl, rfl⟩) | exact pr_flt (hF97.1 187 rfl) (hF97.1 188 rfl) (hF97.2.2.1 109 109 rfl) (by rw [← e97]; omega) | exact pr_flt (hF118.1 187 rfl) (hF118.1 188 rfl) (hF118.2.2.1 109 109 rfl) (by rw [← e118]; omega)
          have n64a : ((Int32.ofInt 1)).toInt ≠ 0 → PR s s60 0 1 := by intro hR; first | (exact absurd rfl hR) | exact pr_tr (pr_val p15 p15a rfl (inv_F hI 0 400 rfl rfl).1 (by rw [← e15, ← e_109_109]; exact n15a) (hF15.2.2.1 109 23 rfl) (hF15.1 190 rfl) (hF15.2.2.1 109 111 rfl) (fun _ => Or.inl rfl)) p19 | exact pr_tr (pr_val p56 p56a rfl (inv_F hI 0 400 rfl rfl).1 (by rw [← e56, ← e_109_109]; exact n56a) (hF56.2.2.1 109 23 rfl) (hF56.1 190 rfl) (hF56.2.2.1 109 111 rfl) (fun _ => Or.inr ⟨rfl, by decide, by decide⟩)) p60 | exact pr_tr (pr_tr (b := 0) (pr_flt (hF50.1 187 rfl) (hF50.1 188 rfl) (hF50.2.2.1 109 109 rfl) (by rw [← e50]; omega)) (pr_val p56 p56a rfl (inv_F hI50 0 400 rfl rfl).1 (by rw [← e56, ← (show u_109_109 = s50.2.2.1 109 109 from fr_F e_109_109 hF50 rfl)]; exact n56a) (hF56.2.2.1 109 23 rfl) (hF56.1 190 rfl) (hF56.2.2.1 109 111 rfl) (fun h => absurd h (by rw [← e50]; omega)))) p60
          have n64b : (z60a).toInt + (z60b).toInt ≤ (u_109_109).toInt + (u_109_111).toInt + 1 := by have a0 := in_u i36x1; have a1 := in_u ro_109_29; have a2 := in_u i29; have a3 := in_u ((inv_F hI 0 200 rfl e_109_111)); have a4 := in_u ((inv_F hI 0 400 rfl e_109_109)); have a5 := in_u ((in_c (-1) rfl)); have a6 := in_u i60b; have a7 := in_u i60a; have a8 := in_u i50a; omega
          have n64c : (s60.2.2.1 109 109).toInt + (s60.2.2.1 109 111).toInt ≤ (s.2.2.1 109 109).toInt + (s.2.2.1 109 111).toInt + 1 := by have b0 : z60a = s60.2.2.1 109 109 := e60; have b1 : z60b = s60.2.2.1 109 111 := e60a; first | (rw [← b0, ← b1, ← e_109_109, ← e_109_111]; exact n64b) | (rw [← b0, ← b1]; exact n64b)
          have n64d : (u_109_28).toInt = 0 → (z60a).toInt + (z60b).toInt = (u_109_109).toInt + (u_109_111).toInt := by have a0 := in_u i36x1; have a1 := in_u ro_109_29; have a2 := in_u i29; have a3 := in_u ((inv_F hI 0 200 rfl e_109_111)); have a4 := in_u ((inv_F hI 0 400 rfl e_109_109)); have a5 := in_u ((in_c (-1) rfl)); have a6 := in_u i60b; have a7 := in_u i60a; have a8 := in_u i50a; omega
          have n64e : (s.2.2.1 109 28).toInt = 0 → (s60.2.2.1 109 109).toInt + (s60.2.2.1 109 111).toInt = (s.2.2.1 109 109).toInt + (s.2.2.1 109 111).toInt := by have b0 : z60a = s60.2.2.1 109 109 := e60; have b1 : z60b = s60.2.2.1 109 111 := e60a; first | (rw [← b0, ← b1, ← e_109_28, ← e_109_109, ← e_109_111]; exact n64d) | (rw [← b0, ← b1]; exact n64d)
          have n64f : (u_109_28).toInt = 0 → 1 ≤ (z50a).toInt := by have a0 := in_u i36x1; have a1 := in_u ro_109_29; have a2 := in_u i29; have a3 := in_u ((inv_F hI 0 200 rfl e_109_111)); have a4 := in_u ((inv_F hI 0 400 rfl e_109_109)); have a5 := in_u ((in_c (-1) rfl)); have a6 := in_u i60b; have a7 := in_u i60a; have a8 := in_u i50a; omega
          have n64g : (s.2.2.1 109 28).toInt = 0 → 1 ≤ (s60.2.2.1 109 23).toInt := by have b0 : z50a = s60.2.2.1 109 23 := fr_F (fr_F (e50) hF56 rfl) hF60 rfl; rw [← b0, ← e_109_28]; exact n64f
          exact g_ireturn (gd rfl) rfl (nb01 (in_w 0 1 (in_c 1 rfl) rfl)) (hP _ _ ⟨s60, hI60, (fr_tr rfl (fr_tr rfl (fr_tr rfl fr_rf hF50) hF56) hF60), n64c, n64e, n64g, (Int32.ofInt 1), rfl, rfl, in_w 0 1 (in_c 1 rfl) rfl, n64, n64a⟩)
      · skip
        have i36x1 := sw_eq c36x1
        refine g_bipush 8 120 (gd rfl) rfl rfl ?_
        refine g_ireturn (gd rfl) rfl rfl (hp36 _ _ ?_)
        show GG _ _ _ _ _ _ _ _ [.int (Int32.ofInt 8)] _ _ _
        refine g_istore_n 40 (gd rfl) rfl (Nat.le_of_ble_eq_true rfl) ?_
        refine g_iload_n 41 (gd rfl) rfl rfl ?_
        refine g_if_ge 44 53 (gd rfl) rfl rfl (fun c41 => ?_) (fun c41 => ?_)
        · skip
          refine g_aload_n 54 (gd rfl) rfl rfl ?_
          refine g_iconst 1 55 (gd rfl) rfl rfl ?_
          refine g_iload_n 56 (gd rfl) rfl rfl ?_
          have n56 : (u_109_109).toInt ≤ 399 := by have a0 := in_u i36x1; have a1 := in_u ro_109_29; have a2 := in_u i29; have a3 := in_u ((inv_F hI 0 200 rfl e_109_111)); have a4 := in_u ((inv_F hI 0 400 rfl e_109_109)); have a5 := in_u ((in_c 8 rfl)); omega
          refine g_callv (X := _) (As := [.int (Int32.ofInt 1), .int (Int32.ofInt 8)]) (r := []) (b := A 109) (q := 109) 59 (gd rfl) rfl rfl rfl rfl rfl (ww_o rfl) (Nat.le_of_ble_eq_true rfl) (Nat.zero_le _) (Nat.zero_le _) (k_393 (by first | exact dq1 hd rfl | exact dq0 hd rfl | exact dq2 hd rfl | exact dq3 hd rfl | omega) hI e_109_109 n56) (fun e u h => h) (fun v u h => ?_)
          obtain ⟨s56, hI56, hF56, n56a, rfl, rfl, p56, p56a⟩ := h
          obtain ⟨z56a, e56⟩ : ∃ w, w = s56.2.2.1 109 109 := ⟨_, rfl⟩
          have i56a := inv_F hI56 0 400 rfl e56
          rw [← (show u_109_109 = s.2.2.1 109 109 from e_109_109)] at n56a
          rw [← (show z56a = s56.2.2.1 109 109 from e56)] at n56a
          show GG _ _ _ _ _ _ _ _ [] _ _ _
          refine g_aload_n 60 (gd rfl) rfl rfl ?_
          have v60 : u_109_111 = s56.2.2.1 109 111 := fr_F (e_109_111) hF56 rfl
          have n60 : (z56a).toInt + (u_109_111).toInt ≤ 120 := by have a0 := in_u i36x1; have a1 := in_u ro_109_29; have a2 := in_u i29; have a3 := in_u ((inv_F hI 0 200 rfl e_109_111)); have a4 := in_u ((inv_F hI 0 400 rfl e_109_109)); have a5 := in_u ((in_c 8 rfl)); have a6 := in_u i56a; omega
          refine g_callv (X := _) (As := []) (r := []) (b := A 109) (q := 109) 63 (gd rfl) rfl rfl rfl rfl rfl (ww_o rfl) (Nat.le_of_ble_eq_true rfl) (Nat.zero_le _) (Nat.zero_le _) (k_400 (by first | exact dq1 hd rfl | exact dq0 hd rfl | exact dq2 hd rfl | exact dq3 hd rfl | omega) hI56 e56 v60 n60) (fun e u h => h) (fun v u h => ?_)
          obtain ⟨s60, hI60, hF60, n60a, rfl, rfl, p60⟩ := h
          obtain ⟨z60a, e60⟩ : ∃ w, w = s60.2.2.1 109 109 := ⟨_, rfl⟩
          have i60a := inv_F hI60 0 400 rfl e60
          obtain ⟨z60b, e60a⟩ : ∃ w, w = s60.2.2.1 109 111 := ⟨_, rfl⟩
          have i60b := inv_F hI60 0 200 rfl e60a
          rw [← (show z56a = s56.2.2.1 109 109 from e56)] at n60a
          rw [← (show u_109_111 = s56.2.2.1 109 111 from fr_F (e_109_111) hF56 rfl)] at n60a
          rw [← (show z60a = s60.2.2.1 109 109 from e60)] at n60a
          rw [← (show z60b = s60.2.2.1 109 111 from e60a)] at n60a
          show GG _ _ _ _ _ _ _ _ [] _ _ _
          refine g_iconst 1 64 (gd rfl) rfl rfl ?_
          have n64 : ((Int32.ofInt 1)).toInt = 0 → PR s s60 0 0 := by intro hR; first | (exfalso; revert hR; decide) | exact pr_hold (hF140.1 187 rfl) (hF140.1 188 rfl) (hF140.2.2.1 109 109 rfl) (hF140.2.2.1 109 23 rfl) p140 (by rw [← e140, ← e_109_111]; exact n140a) (inv_F hI 0 200 rfl rfl).1 (Or.inl ⟨Or.inl rfl, rfl⟩) | exact pr_hold (hF140.1 187 rfl) (hF140.1 188 rfl) (hF140.2.2.1 109 109 rfl) (hF140.2.2.1 109 23 rfl) p140 (by rw [← e140, ← e_109_111]; exact n140a) (inv_F hI 0 200 rfl rfl).1 (Or.inl ⟨Or.inr rfl, rfl⟩) | exact pr_flt (hF97.1 187 rfl) (hF97.1 188 rfl) (hF97.2.2.1 109 109 rfl) (by rw [← e97]; omega) | exact pr_flt (hF118.1 187 rfl) (hF118.1 188 rfl) (hF118.2.2.1 109 109 rfl) (by rw [← e118]; omega)
          have n64a : ((Int32.ofInt 1)).toInt ≠ 0 → PR s s60 0 1 := by intro hR; first | (exact absurd rfl hR) | exact pr_tr (pr_val p15 p15a rfl (inv_F hI 0 400 rfl rfl).1 (by rw [← e15, ← e_109_109]; exact n15a) (hF15.2.2.1 109 23 rfl) (hF15.1 190 rfl) (hF15.2.2.1 109 111 rfl) (fun _ => Or.inl rfl)) p19 | exact pr_tr (pr_val p56 p56a rfl (inv_F hI 0 400 rfl rfl).1 (by rw [← e56, ← e_109_109]; exact n56a) (hF56.2.2.1 109 23 rfl) (hF56.1 190 rfl) (hF56.2.2.1 109 111 rfl) (fun _ => Or.inr ⟨rfl, by decide, by decide⟩)) p60 | exact pr_tr (pr_tr (b := 0) (pr_flt (hF50.1 187 rfl) (hF50.1 188 rfl) (hF50.2.2.1 109 109 rfl) (by rw [← e50]; omega)) (pr_val p56 p56a rfl (inv_F hI50 0 400 rfl rfl).1 (by rw [← e56, ← (show u_109_109 = s50.2.2.1 109 109 from fr_F e_109_109 hF50 rfl)]; exact n56a) (hF56.2.2.1 109 23 rfl) (hF56.1 190 rfl) (hF56.2.2.1 109 111 rfl) (fun h => absurd h (by rw [← e50]; omega)))) p60
          have n64b : (z60a).toInt + (z60b).toInt ≤ (u_109_109).toInt + (u_109_111).toInt + 1 := by have a0 := in_u i36x1; have a1 := in_u ro_109_29; have a2 := in_u i29; have a3 := in_u ((inv_F hI 0 200 rfl e_109_111)); have a4 := in_u ((inv_F hI 0 400 rfl e_109_109)); have a5 := in_u ((in_c 8 rfl)); have a6 := in_u i60b; have a7 := in_u i60a; omega
          have n64c : (s60.2.2.1 109 109).toInt + (s60.2.2.1 109 111).toInt ≤ (s.2.2.1 109 109).toInt + (s.2.2.1 109 111).toInt + 1 := by have b0 : z60a = s60.2.2.1 109 109 := e60; have b1 : z60b = s60.2.2.1 109 111 := e60a; first | (rw [← b0, ← b1, ← e_109_109, ← e_109_111]; exact n64b) | (rw [← b0, ← b1]; exact n64b)
          have n64d : (u_109_28).toInt = 0 → (z60a).toInt + (z60b).toInt = (u_109_109).toInt + (u_109_111).toInt := by have a0 := in_u i36x1; have a1 := in_u ro_109_29; have a2 := in_u i29; have a3 := in_u ((inv_F hI 0 200 rfl e_109_111)); have a4 := in_u ((inv_F hI 0 400 rfl e_109_109)); have a5 := in_u ((in_c 8 rfl)); have a6 := in_u i60b; have a7 := in_u i60a; omega
          have n64e : (s.2.2.1 109 28).toInt = 0 → (s60.2.2.1 109 109).toInt + (s60.2.2.1 109 111).toInt = (s.2.2.1 109 109).toInt + (s.2.2.1 109 111).toInt := by have b0 : z60a = s60.2.2.1 109 109 := e60; have b1 : z60b = s60.2.2.1 109 111 := e60a; first | (rw [← b0, ← b1, ← e_109_28, ← e_109_109, ← e_109_111]; exact n64d) | (rw [← b0, ← b1]; exact n64d)
          have n64f : (u_109_28).toInt = 0 → 1 ≤ ((s60.2.2.1 109 23)).toInt := by have a0 := in_u i36x1; have a1 := in_u ro_109_29; have a2 := in_u i29; have a3 := in_u ((inv_F hI 0 200 rfl e_109_111)); have a4 := in_u ((inv_F hI 0 400 rfl e_109_109)); have a5 := in_u ((in_c 8 rfl)); have a6 := in_u i60b; have a7 := in_u i60a; have a8 := in_u ((show In (s60.2.2.1 109 23) 0 9 from inv_F hI60 0 9 rfl rfl)); omega
          have n64g : (s.2.2.1 109 28).toInt = 0 → 1 ≤ (s60.2.2.1 109 23).toInt := by rw [← e_109_28]; exact n64f
          exact g_ireturn (gd rfl) rfl (nb01 (in_w 0 1 (in_c 1 rfl) rfl)) (hP _ _ ⟨s60, hI60, (fr_tr rfl (fr_tr rfl fr_rf hF56) hF60), n64c, n64e, n64g, (Int32.ofInt 1), rfl, rfl, in_w 0 1 (in_c 1 rfl) rfl, n64, n64a⟩)
        · skip
          exact zn_lt c41 (in_c 8 rfl) rfl
      · skip
        have i36x1 := sw_eq c36x1
        refine g_iconst (-1) 122 (gd rfl) rfl rfl ?_
        refine g_ireturn (gd rfl) rfl rfl (hp36 _ _ ?_)
        show GG _ _ _ _ _ _ _ _ [.int (Int32.ofInt (-1))] _ _ _
        refine g_istore_n 40 (gd rfl) rfl (Nat.le_of_ble_eq_true rfl) ?_
        refine g_iload_n 41 (gd rfl) rfl rfl ?_
        refine g_if_ge 44 53 (gd rfl) rfl rfl (fun c41 => ?_) (fun c41 => ?_)
        · skip
          exact zn_ge c41 (in_c (-1) rfl) rfl
        · skip
          refine g_aload_n 45 (gd rfl) rfl rfl ?_
          refine g_iconst 5 46 (gd rfl) rfl rfl ?_
          refine g_aload_n 47 (gd rfl) rfl rfl ?_
          refine g_getI 50 (gd rfl) rfl rfl rfl (fun z47 e47 => ?_)
          have q47 : u_109_29 = z47 := (e_109_29).trans e47.symm
          subst q47
          refine g_callv (X := _) (As := [.int (Int32.ofInt 5), .int u_109_29]) (r := []) (b := A 109) (q := 109) 53 (gd rfl) rfl rfl rfl rfl rfl (ww_o rfl) (Nat.le_of_ble_eq_true rfl) (Nat.zero_le _) (Nat.zero_le _) (k_298 (by first | exact dq1 hd rfl | exact dq0 hd rfl | exact dq2 hd rfl | exact dq3 hd rfl | omega) hI (in_w 1 5 (in_c 5 rfl) rfl)) (fun e u h => h) (fun v u h => ?_)
          obtain ⟨s50, hI50, hF50, n50, rfl, rfl⟩ := h
          obtain ⟨z50a, e50⟩ : ∃ w, w = s50.2.2.1 109 23 := ⟨_, rfl⟩
          have i50a := inv_F hI50 0 9 rfl e50
          rw [← (show z50a = s50.2.2.1 109 23 from e50)] at n50
          show GG _ _ _ _ _ _ _ _ [] _ _ _
          refine g_aload_n 54 (gd rfl) rfl rfl ?_
          refine g_iconst 1 55 (gd rfl) rfl rfl ?_
          refine g_iload_n 56 (gd rfl) rfl rfl ?_
          have v56 : u_109_109 = s50.2.2.1 109 109 := fr_F (e_109_109) hF50 rfl
          have n56 : (u_109_109).toInt ≤ 399 := by have a0 := in_u i36x1; have a1 := in_u ro_109_29; have a2 := in_u i29; have a3 := in_u ((inv_F hI 0 200 rfl e_109_111)); have a4 := in_u ((inv_F hI 0 400 rfl e_109_109)); have a5 := in_u ((in_c (-1) rfl)); have a6 := in_u i50a; omega
          refine g_callv (X := _) (As := [.int (Int32.ofInt 1), .int (Int32.ofInt (-1))]) (r := []) (b := A 109) (q := 109) 59 (gd rfl) rfl rfl rfl rfl rfl (ww_o rfl) (Nat.le_of_ble_eq_true rfl) (Nat.zero_le _) (Nat.zero_le _) (k_393 (by first | exact dq1 hd rfl | exact dq0 hd rfl | exact dq2 hd rfl | exact dq3 hd rfl | omega) hI50 v56 n56) (fun e u h => h) (fun v u h => ?_)
          obtain ⟨s56, hI56, hF56, n56a, rfl, rfl, p56, p56a⟩ := h
          obtain ⟨z56a, e56⟩ : ∃ w, w = s56.2.2.1 109 109 := ⟨_, rfl⟩
          have i56a := inv_F hI56 0 400 rfl e56
          rw [← (show u_109_109 = s50.2.2.1 109 109 from fr_F (e_109_109) hF50 rfl)] at n56a
          rw [← (show z56a = s56.2.2.1 109 109 from e56)] at n56a
          show GG _ _ _ _ _ _ _ _ [] _ _ _
          refine g_aload_n 60 (gd rfl) rfl rfl ?_
          have v60 : u_109_111 = s56.2.2.1 109 111 := fr_F (fr_F (e_109_111) hF50 rfl) hF56 rfl
          have n60 : (z56a).toInt + (u_109_111).toInt ≤ 120 := by have a0 := in_u i36x1; have a1 := in_u ro_109_29; have a2 := in_u i29; have a3 := in_u ((inv_F hI 0 200 rfl e_109_111)); have a4 := in_u ((inv_F hI 0 400 rfl e_109_109)); have a5 := in_u ((in_c (-1) rfl)); have a6 := in_u i56a; have a7 := in_u i50a; omega
          refine g_callv (X := _) (As := []) (r := []) (b := A 109) (q := 109) 63 (gd rfl) rfl rfl rfl rfl rfl (ww_o rfl) (Nat.le_of_ble_eq_true rfl) (Nat.zero_le _) (Nat.zero_le _) (k_400 (by first | exact dq1 hd rfl | exact dq0 hd rfl | exact dq2 hd rfl | exact dq3 hd rfl | omega) hI56 e56 v60 n60) (fun e u h => h) (fun v u h => ?_)
          obtain ⟨s60, hI60, hF60, n60a, rfl, rfl, p60⟩ := h
          obtain ⟨z60a, e60⟩ : ∃ w, w = s60.2.2.1 109 109 := ⟨_, rfl⟩
          have i60a := inv_F hI60 0 400 rfl e60
          obtain ⟨z60b, e60a⟩ : ∃ w, w = s60.2.2.1 109 111 := ⟨_, rfl⟩
          have i60b := inv_F hI60 0 200 rfl e60a
          rw [← (show z56a = s56.2.2.1 109 109 from e56)] at n60a
          rw [← (show u_109_111 = s56.2.2.1 109 111 from fr_F (fr_F (e_109_111) hF50 rfl) hF56 rfl)] at n60a
          rw [← (show z60a = s60.2.2.1 109 109 from e60)] at n60a
          rw [← (show z60b = s60.2.2.1 109 111 from e60a)] at n60a
          show GG _ _ _ _ _ _ _ _ [] _ _ _
          refine g_iconst 1 64 (gd rfl) rfl rfl ?_
          have n64 : ((Int32.ofInt 1)).toInt = 0 → PR s s60 0 0 := by intro hR; first | (exfalso; revert hR; decide) | exact pr_hold (hF140.1 187 rfl) (hF140.1 188 rfl) (hF140.2.2.1 109 109 rfl) (hF140.2.2.1 109 23 rfl) p140 (by rw [← e140, ← e_109_111]; exact n140a) (inv_F hI 0 200 rfl rfl).1 (Or.inl ⟨Or.inl rfl, rfl⟩) | exact pr_hold (hF140.1 187 rfl) (hF140.1 188 rfl) (hF140.2.2.1 109 109 rfl) (hF140.2.2.1 109 23 rfl) p140 (by rw [← e140, ← e_109_111]; exact n140a) (inv_F hI 0 200 rfl rfl).1 (Or.inl ⟨Or.inr rfl, rfl⟩) | exact pr_flt (hF97.1 187 rfl) (hF97.1 188 rfl) (hF97.2.2.1 109 109 rfl) (by rw [← e97]; omega) | exact pr_flt (hF118.1 187 rfl) (hF118.1 188 rfl) (hF118.2.2.1 109 109 rfl) (by rw [← e118]; omega)
          have n64a : ((Int32.ofInt 1)).toInt ≠ 0 → PR s s60 0 1 := by intro hR; first | (exact absurd rfl hR) | exact pr_tr (pr_val p15 p15a rfl (inv_F hI 0 400 rfl rfl).1 (by rw [← e15, ← e_109_109]; exact n15a) (hF15.2.2.1 109 23 rfl) (hF15.1 190 rfl) (hF15.2.2.1 109 111 rfl) (fun _ => Or.inl rfl)) p19 | exact pr_tr (pr_val p56 p56a rfl (inv_F hI 0 400 rfl rfl).1 (by rw [← e56, ← e_109_109]; exact n56a) (hF56.2.2.1 109 23 rfl) (hF56.1 190 rfl) (hF56.2.2.1 109 111 rfl) (fun _ => Or.inr ⟨rfl, by decide, by decide⟩)) p60 | exact pr_tr (pr_tr (b := 0) (pr_flt (hF50.1 187 rfl) (hF50.1 188 rfl) (hF50.2.2.1 109 109 rfl) (by rw [← e50]; omega)) (pr_val p56 p56a rfl (inv_F hI50 0 400 rfl rfl).1 (by rw [← e56, ← (show u_109_109 = s50.2.2.1 109 109 from fr_F e_109_109 hF50 rfl)]; exact n56a) (hF56.2.2.1 109 23 rfl) (hF56.1 190 rfl) (hF56.2.2.1 109 111 rfl) (fun h => absurd h (by rw [← e50]; omega)))) p60
          have n64b : (z60a).toInt + (z60b).toInt ≤ (u_109_109).toInt + (u_109_111).toInt + 1 := by have a0 := in_u i36x1; have a1 := in_u ro_109_29; have a2 := in_u i29; have a3 := in_u ((inv_F hI 0 200 rfl e_109_111)); have a4 := in_u ((inv_F hI 0 400 rfl e_109_109)); have a5 := in_u ((in_c (-1) rfl)); have a6 := in_u i60b; have a7 := in_u i60a; have a8 := in_u i50a; omega
          have n64c : (s60.2.2.1 109 109).toInt + (s60.2.2.1 109 111).toInt ≤ (s.2.2.1 109 109).toInt + (s.2.2.1 109 111).toInt + 1 := by have b0 : z60a = s60.2.2.1 109 109 := e60; have b1 : z60b = s60.2.2.1 109 111 := e60a; first | (rw [← b0, ← b1, ← e_109_109, ← e_109_111]; exact n64b) | (rw [← b0, ← b1]; exact n64b)
          have n64d : (u_109_28).toInt = 0 → (z60a).toInt + (z60b).toInt = (u_109_109).toInt + (u_109_111).toInt := by have a0 := in_u i36x1; have a1 := in_u ro_109_29; have a2 := in_u i29; have a3 := in_u ((inv_F hI 0 200 rfl e_109_111)); have a4 := in_u ((inv_F hI 0 400 rfl e_109_109)); have a5 := in_u ((in_c (-1) rfl)); have a6 := in_u i60b; have a7 := in_u i60a; have a8 := in_u i50a; omega
          have n64e : (s.2.2.1 109 28).toInt = 0 → (s60.2.2.1 109 109).toInt + (s60.2.2.1 109 111).toInt = (s.2.2.1 109 109).toInt + (s.2.2.1 109 111).toInt := by have b0 : z60a = s60.2.2.1 109 109 := e60; have b1 : z60b = s60.2.2.1 109 111 := e60a; first | (rw [← b0, ← b1, ← e_109_28, ← e_109_109, ← e_109_111]; exact n64d) | (rw [← b0, ← b1]; exact n64d)
          have n64f : (u_109_28).toInt = 0 → 1 ≤ (z50a).toInt := by have a0 := in_u i36x1; have a1 := in_u ro_109_29; have a2 := in_u i29; have a3 := in_u ((inv_F hI 0 200 rfl e_109_111)); have a4 := in_u ((inv_F hI 0 400 rfl e_109_109)); have a5 := in_u ((in_c (-1) rfl)); have a6 := in_u i60b; have a7 := in_u i60a; have a8 := in_u i50a; omega
          have n64g : (s.2.2.1 109 28).toInt = 0 → 1 ≤ (s60.2.2.1 109 23).toInt := by have b0 : z50a = s60.2.2.1 109 23 := fr_F (fr_F (e50) hF56 rfl) hF60 rfl; rw [← b0, ← e_109_28]; exact n64f
          exact g_ireturn (gd rfl) rfl (nb01 (in_w 0 1 (in_c 1 rfl) rfl)) (hP _ _ ⟨s60, hI60, (fr_tr rfl (fr_tr rfl (fr_tr rfl fr_rf hF50) hF56) hF60), n64c, n64e, n64g, (Int32.ofInt 1), rfl, rfl, in_w 0 1 (in_c 1 rfl) rfl, n64, n64a⟩)
      · skip
        have i36x1 := sw_eq c36x1
        refine g_iconst 4 109 (gd rfl) rfl rfl ?_
        refine g_ireturn (gd rfl) rfl rfl (hp36 _ _ ?_)
        show GG _ _ _ _ _ _ _ _ [.int (Int32.ofInt 4)] _ _ _
        refine g_istore_n 40 (gd rfl) rfl (Nat.le_of_ble_eq_true rfl) ?_
        refine g_iload_n 41 (gd rfl) rfl rfl ?_
        refine g_if_ge 44 53 (gd rfl) rfl rfl (fun c41 => ?_) (fun c41 => ?_)
        · skip
          refine g_aload_n 54 (gd rfl) rfl rfl ?_
          refine g_iconst 1 55 (gd rfl) rfl rfl ?_
          refine g_iload_n 56 (gd rfl) rfl rfl ?_
          have n56 : (u_109_109).toInt ≤ 399 := by have a0 := in_u i36x1; have a1 := in_u ro_109_29; have a2 := in_u i29; have a3 := in_u ((inv_F hI 0 200 rfl e_109_111)); have a4 := in_u ((inv_F hI 0 400 rfl e_109_109)); have a5 := in_u ((in_c 4 rfl)); omega
          refine g_callv (X := _) (As := [.int (Int32.ofInt 1), .int (Int32.ofInt 4)]) (r := []) (b := A 109) (q := 109) 59 (gd rfl) rfl rfl rfl rfl rfl (ww_o rfl) (Nat.le_of_ble_eq_true rfl) (Nat.zero_le _) (Nat.zero_le _) (k_393 (by first | exact dq1 hd rfl | exact dq0 hd rfl | exact dq2 hd rfl | exact dq3 hd rfl | omega) hI e_109_109 n56) (fun e u h => h) (fun v u h => ?_)
          obtain ⟨s56, hI56, hF56, n56a, rfl, rfl, p56, p56a⟩ := h
          obtain ⟨z56a, e56⟩ : ∃ w, w = s56.2.2.1 109 109 := ⟨_, rfl⟩
          have i56a := inv_F hI56 0 400 rfl e56
          rw [← (show u_109_109 = s.2.2.1 109 109 from e_109_109)] at n56a
          rw [← (show z56a = s56.2.2.1 109 109 from e56)] at n56a
          show GG _ _ _ _ _ _ _ _ [] _ _ _
          refine g_aload_n 60 (gd rfl) rfl rfl ?_
          have v60 : u_109_111 = s56.2.2.1 109 111 := fr_F (e_109_111) hF56 rfl
          have n60 : (z56a).toInt + (u_109_111).toInt ≤ 120 := by have a0 := in_u i36x1; have a1 := in_u ro_109_29; have a2 := in_u i29; have a3 := in_u ((inv_F hI 0 200 rfl e_109_111)); have a4 := in_u ((inv_F hI 0 400 rfl e_109_109)); have a5 := in_u ((in_c 4 rfl)); have a6 := in_u i56a; omega
          refine g_callv (X := _) (As := []) (r := []) (b := A 109) (q := 109) 63 (gd rfl) rfl rfl rfl rfl rfl (ww_o rfl) (Nat.le_of_ble_eq_true rfl) (Nat.zero_le _) (Nat.zero_le _) (k_400 (by first | exact dq1 hd rfl | exact dq0 hd rfl | exact dq2 hd rfl | exact dq3 hd rfl | omega) hI56 e56 v60 n60) (fun e u h => h) (fun v u h => ?_)
          obtain ⟨s60, hI60, hF60, n60a, rfl, rfl, p60⟩ := h
          obtain ⟨z60a, e60⟩ : ∃ w, w = s60.2.2.1 109 109 := ⟨_, rfl⟩
          have i60a := inv_F hI60 0 400 rfl e60
          obtain ⟨z60b, e60a⟩ : ∃ w, w = s60.2.2.1 109 111 := ⟨_, rfl⟩
          have i60b := inv_F hI60 0 200 rfl e60a
          rw [← (show z56a = s56.2.2.1 109 109 from e56)] at n60a
          rw [← (show u_109_111 = s56.2.2.1 109 111 from fr_F (e_109_111) hF56 rfl)] at n60a
          rw [← (show z60a = s60.2.2.1 109 109 from e60)] at n60a
          rw [← (show z60b = s60.2.2.1 109 111 from e60a)] at n60a
          show GG _ _ _ _ _ _ _ _ [] _ _ _
          refine g_iconst 1 64 (gd rfl) rfl rfl ?_
          have n64 : ((Int32.ofInt 1)).toInt = 0 → PR s s60 0 0 := by intro hR; first | (exfalso; revert hR; decide) | exact pr_hold (hF140.1 187 rfl) (hF140.1 188 rfl) (hF140.2.2.1 109 109 rfl) (hF140.2.2.1 109 23 rfl) p140 (by rw [← e140, ← e_109_111]; exact n140a) (inv_F hI 0 200 rfl rfl).1 (Or.inl ⟨Or.inl rfl, rfl⟩) | exact pr_hold (hF140.1 187 rfl) (hF140.1 188 rfl) (hF140.2.2.1 109 109 rfl) (hF140.2.2.1 109 23 rfl) p140 (by rw [← e140, ← e_109_111]; exact n140a) (inv_F hI 0 200 rfl rfl).1 (Or.inl ⟨Or.inr rfl, rfl⟩) | exact pr_flt (hF97.1 187 rfl) (hF97.1 188 rfl) (hF97.2.2.1 109 109 rfl) (by rw [← e97]; omega) | exact pr_flt (hF118.1 187 rfl) (hF118.1 188 rfl) (hF118.2.2.1 109 109 rfl) (by rw [← e118]; omega)
          have n64a : ((Int32.ofInt 1)).toInt ≠ 0 → PR s s60 0 1 := by intro hR; first | (exact absurd rfl hR) | exact pr_tr (pr_val p15 p15a rfl (inv_F hI 0 400 rfl rfl).1 (by rw [← e15, ← e_109_109]; exact n15a) (hF15.2.2.1 109 23 rfl) (hF15.1 190 rfl) (hF15.2.2.1 109 111 rfl) (fun _ => Or.inl rfl)) p19 | exact pr_tr (pr_val p56 p56a rfl (inv_F hI 0 400 rfl rfl).1 (by rw [← e56, ← e_109_109]; exact n56a) (hF56.2.2.1 109 23 rfl) (hF56.1 190 rfl) (hF56.2.2.1 109 111 rfl) (fun _ => Or.inr ⟨rfl, by decide, by decide⟩)) p60 | exact pr_tr (pr_tr (b := 0) (pr_flt (hF50.1 187 rfl) (hF50.1 188 rfl) (hF50.2.2.1 109 109 rfl) (by rw [← e50]; omega)) (pr_val p56 p56a rfl (inv_F hI50 0 400 rfl rfl).1 (by rw [← e56, ← (show u_109_109 = s50.2.2.1 109 109 from fr_F e_109_109 hF50 rfl)]; exact n56a) (hF56.2.2.1 109 23 rfl) (hF56.1 190 rfl) (hF56.2.2.1 109 111 rfl) (fun h => absurd h (by rw [← e50]; omega)))) p60
          have n64b : (z60a).toInt + (z60b).toInt ≤ (u_109_109).toInt + (u_109_111).toInt + 1 := by have a0 := in_u i36x1; have a1 := in_u ro_109_29; have a2 := in_u i29; have a3 := in_u ((inv_F hI 0 200 rfl e_109_111)); have a4 := in_u ((inv_F hI 0 400 rfl e_109_109)); have a5 := in_u ((in_c 4 rfl)); have a6 := in_u i60b; have a7 := in_u i60a; omega
          have n64c : (s60.2.2.1 109 109).toInt + (s60.2.2.1 109 111).toInt ≤ (s.2.2.1 109 109).toInt + (s.2.2.1 109 111).toInt + 1 := by have b0 : z60a = s60.2.2.1 109 109 := e60; have b1 : z60b = s60.2.2.1 109 111 := e60a; first | (rw [← b0, ← b1, ← e_109_109, ← e_109_111]; exact n64b) | (rw [← b0, ← b1]; exact n64b)
          have n64d : (u_109_28).toInt = 0 → (z60a).toInt + (z60b).toInt = (u_109_109).toInt + (u_109_111).toInt := by have a0 := in_u i36x1; have a1 := in_u ro_109_29; have a2 := in_u i29; have a3 := in_u ((inv_F hI 0 200 rfl e_109_111)); have a4 := in_u ((inv_F hI 0 400 rfl e_109_109)); have a5 := in_u ((in_c 4 rfl)); have a6 := in_u i60b; have a7 := in_u i60a; omega
          have n64e : (s.2.2.1 109 28).toInt = 0 → (s60.2.2.1 109 109).toInt + (s60.2.2.1 109 111).toInt = (s.2.2.1 109 109).toInt + (s.2.2.1 109 111).toInt := by have b0 : z60a = s60.2.2.1 109 109 := e60; have b1 : z60b = s60.2.2.1 109 111 := e60a; first | (rw [← b0, ← b1, ← e_109_28, ← e_109_109, ← e_109_111]; exact n64d) | (rw [← b0, ← b1]; exact n64d)
          have n64f : (u_109_28).toInt = 0 → 1 ≤ ((s60.2.2.1 109 23)).toInt := by have a0 := in_u i36x1; have a1 := in_u ro_109_29; have a2 := in_u i29; have a3 := in_u ((inv_F hI 0 200 rfl e_109_111)); have a4 := in_u ((inv_F hI 0 400 rfl e_109_109)); have a5 := in_u ((in_c 4 rfl)); have a6 := in_u i60b; have a7 := in_u i60a; have a8 := in_u ((show In (s60.2.2.1 109 23) 0 9 from inv_F hI60 0 9 rfl rfl)); omega
          have n64g : (s.2.2.1 109 28).toInt = 0 → 1 ≤ (s60.2.2.1 109 23).toInt := by rw [← e_109_28]; exact n64f
          exact g_ireturn (gd rfl) rfl (nb01 (in_w 0 1 (in_c 1 rfl) rfl)) (hP _ _ ⟨s60, hI60, (fr_tr rfl (fr_tr rfl fr_rf hF56) hF60), n64c, n64e, n64g, (Int32.ofInt 1), rfl, rfl, in_w 0 1 (in_c 1 rfl) rfl, n64, n64a⟩)
        · skip
          exact zn_lt c41 (in_c 4 rfl) rfl
      · skip
        have i36x1 := sw_eq c36x1
        refine g_iconst (-1) 122 (gd rfl) rfl rfl ?_
        refine g_ireturn (gd rfl) rfl rfl (hp36 _ _ ?_)
        show GG _ _ _ _ _ _ _ _ [.int (Int32.ofInt (-1))] _ _ _
        refine g_istore_n 40 (gd rfl) rfl (Nat.le_of_ble_eq_true rfl) ?_
        refine g_iload_n 41 (gd rfl) rfl rfl ?_
        refine g_if_ge 44 53 (gd rfl) rfl rfl (fun c41 => ?_) (fun c41 => ?_)
        · skip
          exact zn_ge c41 (in_c (-1) rfl) rfl
        · skip
          refine g_aload_n 45 (gd rfl) rfl rfl ?_
          refine g_iconst 5 46 (gd rfl) rfl rfl ?_
          refine g_aload_n 47 (gd rfl) rfl rfl ?_
          refine g_getI 50 (gd rfl) rfl rfl rfl (fun z47 e47 => ?_)
          have q47 : u_109_29 = z47 := (e_109_29).trans e47.symm
          subst q47
          refine g_callv (X := _) (As := [.int (Int32.ofInt 5), .int u_109_29]) (r := []) (b := A 109) (q := 109) 53 (gd rfl) rfl rfl rfl rfl rfl (ww_o rfl) (Nat.le_of_ble_eq_true rfl) (Nat.zero_le _) (Nat.zero_le _) (k_298 (by first | exact dq1 hd rfl | exact dq0 hd rfl | exact dq2 hd rfl | exact dq3 hd rfl | omega) hI (in_w 1 5 (in_c 5 rfl) rfl)) (fun e u h => h) (fun v u h => ?_)
          obtain ⟨s50, hI50, hF50, n50, rfl, rfl⟩ := h
          obtain ⟨z50a, e50⟩ : ∃ w, w = s50.2.2.1 109 23 := ⟨_, rfl⟩
          have i50a := inv_F hI50 0 9 rfl e50
          rw [← (show z50a = s50.2.2.1 109 23 from e50)] at n50
          show GG _ _ _ _ _ _ _ _ [] _ _ _
          refine g_aload_n 54 (gd rfl) rfl rfl ?_
          refine g_iconst 1 55 (gd rfl) rfl rfl ?_
          refine g_iload_n 56 (gd rfl) rfl rfl ?_
          have v56 : u_109_109 = s50.2.2.1 109 109 := fr_F (e_109_109) hF50 rfl
          have n56 : (u_109_109).toInt ≤ 399 := by have a0 := in_u i36x1; have a1 := in_u ro_109_29; have a2 := in_u i29; have a3 := in_u ((inv_F hI 0 200 rfl e_109_111)); have a4 := in_u ((inv_F hI 0 400 rfl e_109_109)); have a5 := in_u ((in_c (-1) rfl)); have a6 := in_u i50a; omega
          refine g_callv (X := _) (As := [.int (Int32.ofInt 1), .int (Int32.ofInt (-1))]) (r := []) (b := A 109) (q := 109) 59 (gd rfl) rfl rfl rfl rfl rfl (ww_o rfl) (Nat.le_of_ble_eq_true rfl) (Nat.zero_le _) (Nat.zero_le _) (k_393 (by first | exact dq1 hd rfl | exact dq0 hd rfl | exact dq2 hd rfl | exact dq3 hd rfl | omega) hI50 v56 n56) (fun e u h => h) (fun v u h => ?_)
          obtain ⟨s56, hI56, hF56, n56a, rfl, rfl, p56, p56a⟩ := h
          obtain ⟨z56a, e56⟩ : ∃ w, w = s56.2.2.1 109 109 := ⟨_, rfl⟩
          have i56a := inv_F hI56 0 400 rfl e56
          rw [← (show u_109_109 = s50.2.2.1 109 109 from fr_F (e_109_109) hF50 rfl)] at n56a
          rw [← (show z56a = s56.2.2.1 109 109 from e56)] at n56a
          show GG _ _ _ _ _ _ _ _ [] _ _ _
          refine g_aload_n 60 (gd rfl) rfl rfl ?_
          have v60 : u_109_111 = s56.2.2.1 109 111 := fr_F (fr_F (e_109_111) hF50 rfl) hF56 rfl
          have n60 : (z56a).toInt + (u_109_111).toInt ≤ 120 := by have a0 := in_u i36x1; have a1 := in_u ro_109_29; have a2 := in_u i29; have a3 := in_u ((inv_F hI 0 200 rfl e_109_111)); have a4 := in_u ((inv_F hI 0 400 rfl e_109_109)); have a5 := in_u ((in_c (-1) rfl)); have a6 := in_u i56a; have a7 := in_u i50a; omega
          refine g_callv (X := _) (As := []) (r := []) (b := A 109) (q := 109) 63 (gd rfl) rfl rfl rfl rfl rfl (ww_o rfl) (Nat.le_of_ble_eq_true rfl) (Nat.zero_le _) (Nat.zero_le _) (k_400 (by first | exact dq1 hd rfl | exact dq0 hd rfl | exact dq2 hd rfl | exact dq3 hd rfl | omega) hI56 e56 v60 n60) (fun e u h => h) (fun v u h => ?_)
          obtain ⟨s60, hI60, hF60, n60a, rfl, rfl, p60⟩ := h
          obtain ⟨z60a, e60⟩ : ∃ w, w = s60.2.2.1 109 109 := ⟨_, rfl⟩
          have i60a := inv_F hI60 0 400 rfl e60
          obtain ⟨z60b, e60a⟩ : ∃ w, w = s60.2.2.1 109 111 := ⟨_, rfl⟩
          have i60b := inv_F hI60 0 200 rfl e60a
          rw [← (show z56a = s56.2.2.1 109 109 from e56)] at n60a
          rw [← (show u_109_111 = s56.2.2.1 109 111 from fr_F (fr_F (e_109_111) hF50 rfl) hF56 rfl)] at n60a
          rw [← (show z60a = s60.2.2.1 109 109 from e60)] at n60a
          rw [← (show z60b = s60.2.2.1 109 111 from e60a)] at n60a
          show GG _ _ _ _ _ _ _ _ [] _ _ _
          refine g_iconst 1 64 (gd rfl) rfl rfl ?_
          have n64 : ((Int32.ofInt 1)).toInt = 0 → PR s s60 0 0 := by intro hR; first | (exfalso; revert hR; decide) | exact pr_hold (hF140.1 187 rfl) (hF140.1 188 rfl) (hF140.2.2.1 109 109 rfl) (hF140.2.2.1 109 23 rfl) p140 (by rw [← e140, ← e_109_111]; exact n140a) (inv_F hI 0 200 rfl rfl).1 (Or.inl ⟨Or.inl rfl, rfl⟩) | exact pr_hold (hF140.1 187 rfl) (hF140.1 188 rfl) (hF140.2.2.1 109 109 rfl) (hF140.2.2.1 109 23 rfl) p140 (by rw [← e140, ← e_109_111]; exact n140a) (inv_F hI 0 200 rfl rfl).1 (Or.inl ⟨Or.inr rfl, rfl⟩) | exact pr_flt (hF97.1 187 rfl) (hF97.1 188 rfl) (hF97.2.2.1 109 109 rfl) (by rw [← e97]; omega) | exact pr_flt (hF118.1 187 rfl) (hF118.1 188 rfl) (hF118.2.2.1 109 109 rfl) (by rw [← e118]; omega)
          have n64a : ((Int32.ofInt 1)).toInt ≠ 0 → PR s s60 0 1 := by intro hR; first | (exact absurd rfl hR) | exact pr_tr (pr_val p15 p15a rfl (inv_F hI 0 400 rfl rfl).1 (by rw [← e15, ← e_109_109]; exact n15a) (hF15.2.2.1 109 23 rfl) (hF15.1 190 rfl) (hF15.2.2.1 109 111 rfl) (fun _ => Or.inl rfl)) p19 | exact pr_tr (pr_val p56 p56a rfl (inv_F hI 0 400 rfl rfl).1 (by rw [← e56, ← e_109_109]; exact n56a) (hF56.2.2.1 109 23 rfl) (hF56.1 190 rfl) (hF56.2.2.1 109 111 rfl) (fun _ => Or.inr ⟨rfl, by decide, by decide⟩)) p60 | exact pr_tr (pr_tr (b := 0) (pr_flt (hF50.1 187 rfl) (hF50.1 188 rfl) (hF50.2.2.1 109 109 rfl) (by rw [← e50]; omega)) (pr_val p56 p56a rfl (inv_F hI50 0 400 rfl rfl).1 (by rw [← e56, ← (show u_109_109 = s50.2.2.1 109 109 from fr_F e_109_109 hF50 rfl)]; exact n56a) (hF56.2.2.1 109 23 rfl) (hF56.1 190 rfl) (hF56.2.2.1 109 111 rfl) (fun h => absurd h (by rw [← e50]; omega)))) p60
          have n64b : (z60a).toInt + (z60b).toInt ≤ (u_109_109).toInt + (u_109_111).toInt + 1 := by have a0 := in_u i36x1; have a1 := in_u ro_109_29; have a2 := in_u i29; have a3 := in_u ((inv_F hI 0 200 rfl e_109_111)); have a4 := in_u ((inv_F hI 0 400 rfl e_109_109)); have a5 := in_u ((in_c (-1) rfl)); have a6 := in_u i60b; have a7 := in_u i60a; have a8 := in_u i50a; omega
          have n64c : (s60.2.2.1 109 109).toInt + (s60.2.2.1 109 111).toInt ≤ (s.2.2.1 109 109).toInt + (s.2.2.1 109 111).toInt + 1 := by have b0 : z60a = s60.2.2.1 109 109 := e60; have b1 : z60b = s60.2.2.1 109 111 := e60a; first | (rw [← b0, ← b1, ← e_109_109, ← e_109_111]; exact n64b) | (rw [← b0, ← b1]; exact n64b)
          have n64d : (u_109_28).toInt = 0 → (z60a).toInt + (z60b).toInt = (u_109_109).toInt + (u_109_111).toInt := by have a0 := in_u i36x1; have a1 := in_u ro_109_29; have a2 := in_u i29; have a3 := in_u ((inv_F hI 0 200 rfl e_109_111)); have a4 := in_u ((inv_F hI 0 400 rfl e_109_109)); have a5 := in_u ((in_c (-1) rfl)); have a6 := in_u i60b; have a7 := in_u i60a; have a8 := in_u i50a; omega
          have n64e : (s.2.2.1 109 28).toInt = 0 → (s60.2.2.1 109 109).toInt + (s60.2.2.1 109 111).toInt = (s.2.2.1 109 109).toInt + (s.2.2.1 109 111).toInt := by have b0 : z60a = s60.2.2.1 109 109 := e60; have b1 : z60b = s60.2.2.1 109 111 := e60a; first | (rw [← b0, ← b1, ← e_109_28, ← e_109_109, ← e_109_111]; exact n64d) | (rw [← b0, ← b1]; exact n64d)
          have n64f : (u_109_28).toInt = 0 → 1 ≤ (z50a).toInt := by have a0 := in_u i36x1; have a1 := in_u ro_109_29; have a2 := in_u i29; have a3 := in_u ((inv_F hI 0 200 rfl e_109_111)); have a4 := in_u ((inv_F hI 0 400 rfl e_109_109)); have a5 := in_u ((in_c (-1) rfl)); have a6 := in_u i60b; have a7 := in_u i60a; have a8 := in_u i50a; omega
          have n64g : (s.2.2.1 109 28).toInt = 0 → 1 ≤ (s60.2.2.1 109 23).toInt := by have b0 : z50a = s60.2.2.1 109 23 := fr_F (fr_F (e50) hF56 rfl) hF60 rfl; rw [← b0, ← e_109_28]; exact n64f
          exact g_ireturn (gd rfl) rfl (nb01 (in_w 0 1 (in_c 1 rfl) rfl)) (hP _ _ ⟨s60, hI60, (fr_tr rfl (fr_tr rfl (fr_tr rfl fr_rf hF50) hF56) hF60), n64c, n64e, n64g, (Int32.ofInt 1), rfl, rfl, in_w 0 1 (in_c 1 rfl) rfl, n64, n64a⟩)
      · skip
        have i36x1 := sw_eq c36x1
        refine g_iconst (-1) 122 (gd rfl) rfl rfl ?_
        refine g_ireturn (gd rfl) rfl rfl (hp36 _ _ ?_)
        show GG _ _ _ _ _ _ _ _ [.int (Int32.ofInt (-1))] _ _ _
        refine g_istore_n 40 (gd rfl) rfl (Nat.le_of_ble_eq_true rfl) ?_
        refine g_iload_n 41 (gd rfl) rfl rfl ?_
        refine g_if_ge 44 53 (gd rfl) rfl rfl (fun c41 => ?_) (fun c41 => ?_)
        · skip
          exact zn_ge c41 (in_c (-1) rfl) rfl
        · skip
          refine g_aload_n 45 (gd rfl) rfl rfl ?_
          refine g_iconst 5 46 (gd rfl) rfl rfl ?_
          refine g_aload_n 47 (gd rfl) rfl rfl ?_
          refine g_getI 50 (gd rfl) rfl rfl rfl (fun z47 e47 => ?_)
          have q47 : u_109_29 = z47 := (e_109_29).trans e47.symm
          subst q47
          refine g_callv (X := _) (As := [.int (Int32.ofInt 5), .int u_109_29]) (r := []) (b := A 109) (q := 109) 53 (gd rfl) rfl rfl rfl rfl rfl (ww_o rfl) (Nat.le_of_ble_eq_true rfl) (Nat.zero_le _) (Nat.zero_le _) (k_298 (by first | exact dq1 hd rfl | exact dq0 hd rfl | exact dq2 hd rfl | exact dq3 hd rfl | omega) hI (in_w 1 5 (in_c 5 rfl) rfl)) (fun e u h => h) (fun v u h => ?_)
          obtain ⟨s50, hI50, hF50, n50, rfl, rfl⟩ := h
          obtain ⟨z50a, e50⟩ : ∃ w, w = s50.2.2.1 109 23 := ⟨_, rfl⟩
          have i50a := inv_F hI50 0 9 rfl e50
          rw [← (show z50a = s50.2.2.1 109 23 from e50)] at n50
          show GG _ _ _ _ _ _ _ _ [] _ _ _
          refine g_aload_n 54 (gd rfl) rfl rfl ?_
          refine g_iconst 1 55 (gd rfl) rfl rfl ?_
          refine g_iload_n 56 (gd rfl) rfl rfl ?_
          have v56 : u_109_109 = s50.2.2.1 109 109 := fr_F (e_109_109) hF50 rfl
          have n56 : (u_109_109).toInt ≤ 399 := by have a0 := in_u i36x1; have a1 := in_u ro_109_29; have a2 := in_u i29; have a3 := in_u ((inv_F hI 0 200 rfl e_109_111)); have a4 := in_u ((inv_F hI 0 400 rfl e_109_109)); have a5 := in_u ((in_c (-1) rfl)); have a6 := in_u i50a; omega
          refine g_callv (X := _) (As := [.int (Int32.ofInt 1), .int (Int32.ofInt (-1))]) (r := []) (b := A 109) (q := 109) 59 (gd rfl) rfl rfl rfl rfl rfl (ww_o rfl) (Nat.le_of_ble_eq_true rfl) (Nat.zero_le _) (Nat.zero_le _) (k_393 (by first | exact dq1 hd rfl | exact dq0 hd rfl | exact dq2 hd rfl | exact dq3 hd rfl | omega) hI50 v56 n56) (fun e u h => h) (fun v u h => ?_)
          obtain ⟨s56, hI56, hF56, n56a, rfl, rfl, p56, p56a⟩ := h
          obtain ⟨z56a, e56⟩ : ∃ w, w = s56.2.2.1 109 109 := ⟨_, rfl⟩
          have i56a := inv_F hI56 0 400 rfl e56
          rw [← (show u_109_109 = s50.2.2.1 109 109 from fr_F (e_109_109) hF50 rfl)] at n56a
          rw [← (show z56a = s56.2.2.1 109 109 from e56)] at n56a
          show GG _ _ _ _ _ _ _ _ [] _ _ _
          refine g_aload_n 60 (gd rfl) rfl rfl ?_
          have v60 : u_109_111 = s56.2.2.1 109 111 := fr_F (fr_F (e_109_111) hF50 rfl) hF56 rfl
          have n60 : (z56a).toInt + (u_109_111).toInt ≤ 120 := by have a0 := in_u i36x1; have a1 := in_u ro_109_29; have a2 := in_u i29; have a3 := in_u ((inv_F hI 0 200 rfl e_109_111)); have a4 := in_u ((inv_F hI 0 400 rfl e_109_109)); have a5 := in_u ((in_c (-1) rfl)); have a6 := in_u i56a; have a7 := in_u i50a; omega
          refine g_callv (X := _) (As := []) (r := []) (b := A 109) (q := 109) 63 (gd rfl) rfl rfl rfl rfl rfl (ww_o rfl) (Nat.le_of_ble_eq_true rfl) (Nat.zero_le _) (Nat.zero_le _) (k_400 (by first | exact dq1 hd rfl | exact dq0 hd rfl | exact dq2 hd rfl | exact dq3 hd rfl | omega) hI56 e56 v60 n60) (fun e u h => h) (fun v u h => ?_)
          obtain ⟨s60, hI60, hF60, n60a, rfl, rfl, p60⟩ := h
          obtain ⟨z60a, e60⟩ : ∃ w, w = s60.2.2.1 109 109 := ⟨_, rfl⟩
          have i60a := inv_F hI60 0 400 rfl e60
          obtain ⟨z60b, e60a⟩ : ∃ w, w = s60.2.2.1 109 111 := ⟨_, rfl⟩
          have i60b := inv_F hI60 0 200 rfl e60a
          rw [← (show z56a = s56.2.2.1 109 109 from e56)] at n60a
          rw [← (show u_109_111 = s56.2.2.1 109 111 from fr_F (fr_F (e_109_111) hF50 rfl) hF56 rfl)] at n60a
          rw [← (show z60a = s60.2.2.1 109 109 from e60)] at n60a
          rw [← (show z60b = s60.2.2.1 109 111 from e60a)] at n60a
          show GG _ _ _ _ _ _ _ _ [] _ _ _
          refine g_iconst 1 64 (gd rfl) rfl rfl ?_
          have n64 : ((Int32.ofInt 1)).toInt = 0 → PR s s60 0 0 := by intro hR; first | (exfalso; revert hR; decide) | exact pr_hold (hF140.1 187 rfl) (hF140.1 188 rfl) (hF140.2.2.1 109 109 rfl) (hF140.2.2.1 109 23 rfl) p140 (by rw [← e140, ← e_109_111]; exact n140a) (inv_F hI 0 200 rfl rfl).1 (Or.inl ⟨Or.inl rfl, rfl⟩) | exact pr_hold (hF140.1 187 rfl) (hF140.1 188 rfl) (hF140.2.2.1 109 109 rfl) (hF140.2.2.1 109 23 rfl) p140 (by rw [← e140, ← e_109_111]; exact n140a) (inv_F hI 0 200 rfl rfl).1 (Or.inl ⟨Or.inr rfl, rfl⟩) | exact pr_flt (hF97.1 187 rfl) (hF97.1 188 rfl) (hF97.2.2.1 109 109 rfl) (by rw [← e97]; omega) | exact pr_flt (hF118.1 187 rfl) (hF118.1 188 rfl) (hF118.2.2.1 109 109 rfl) (by rw [← e118]; omega)
          have n64a : ((Int32.ofInt 1)).toInt ≠ 0 → PR s s60 0 1 := by intro hR; first | (exact absurd rfl hR) | exact pr_tr (pr_val p15 p15a rfl (inv_F hI 0 400 rfl rfl).1 (by rw [← e15, ← e_109_109]; exact n15a) (hF15.2.2.1 109 23 rfl) (hF15.1 190 rfl) (hF15.2.2.1 109 111 rfl) (fun _ => Or.inl rfl)) p19 | exact pr_tr (pr_val p56 p56a rfl (inv_F hI 0 400 rfl rfl).1 (by rw [← e56, ← e_109_109]; exact n56a) (hF56.2.2.1 109 23 rfl) (hF56.1 190 rfl) (hF56.2.2.1 109 111 rfl) (fun _ => Or.inr ⟨rfl, by decide, by decide⟩)) p60 | exact pr_tr (pr_tr (b := 0) (pr_flt (hF50.1 187 rfl) (hF50.1 188 rfl) (hF50.2.2.1 109 109 rfl) (by rw [← e50]; omega)) (pr_val p56 p56a rfl (inv_F hI50 0 400 rfl rfl).1 (by rw [← e56, ← (show u_109_109 = s50.2.2.1 109 109 from fr_F e_109_109 hF50 rfl)]; exact n56a) (hF56.2.2.1 109 23 rfl) (hF56.1 190 rfl) (hF56.2.2.1 109 111 rfl) (fun h => absurd h (by rw [← e50]; omega)))) p60
          have n64b : (z60a).toInt + (z60b).toInt ≤ (u_109_109).toInt + (u_109_111).toInt + 1 := by have a0 := in_u i36x1; have a1 := in_u ro_109_29; have a2 := in_u i29; have a3 := in_u ((inv_F hI 0 200 rfl e_109_111)); have a4 := in_u ((inv_F hI 0 400 rfl e_109_109)); have a5 := in_u ((in_c (-1) rfl)); have a6 := in_u i60b; have a7 := in_u i60a; have a8 := in_u i50a; omega
          have n64c : (s60.2.2.1 109 109).toInt + (s60.2.2.1 109 111).toInt ≤ (s.2.2.1 109 109).toInt + (s.2.2.1 109 111).toInt + 1 := by have b0 : z60a = s60.2.2.1 109 109 := e60; have b1 : z60b = s60.2.2.1 109 111 := e60a; first | (rw [← b0, ← b1, ← e_109_109, ← e_109_111]; exact n64b) | (rw [← b0, ← b1]; exact n64b)
          have n64d : (u_109_28).toInt = 0 → (z60a).toInt + (z60b).toInt = (u_109_109).toInt + (u_109_111).toInt := by have a0 := in_u i36x1; have a1 := in_u ro_109_29; have a2 := in_u i29; have a3 := in_u ((inv_F hI 0 200 rfl e_109_111)); have a4 := in_u ((inv_F hI 0 400 rfl e_109_109)); have a5 := in_u ((in_c (-1) rfl)); have a6 := in_u i60b; have a7 := in_u i60a; have a8 := in_u i50a; omega
          have n64e : (s.2.2.1 109 28).toInt = 0 → (s60.2.2.1 109 109).toInt + (s60.2.2.1 109 111).toInt = (s.2.2.1 109 109).toInt + (s.2.2.1 109 111).toInt := by have b0 : z60a = s60.2.2.1 109 109 := e60; have b1 : z60b = s60.2.2.1 109 111 := e60a; first | (rw [← b0, ← b1, ← e_109_28, ← e_109_109, ← e_109_111]; exact n64d) | (rw [← b0, ← b1]; exact n64d)
          have n64f : (u_109_28).toInt = 0 → 1 ≤ (z50a).toInt := by have a0 := in_u i36x1; have a1 := in_u ro_109_29; have a2 := in_u i29; have a3 := in_u ((inv_F hI 0 200 rfl e_109_111)); have a4 := in_u ((inv_F hI 0 400 rfl e_109_109)); have a5 := in_u ((in_c (-1) rfl)); have a6 := in_u i60b; have a7 := in_u i60a; have a8 := in_u i50a; omega
          have n64g : (s.2.2.1 109 28).toInt = 0 → 1 ≤ (s60.2.2.1 109 23).toInt := by have b0 : z50a = s60.2.2.1 109 23 := fr_F (fr_F (e50) hF56 rfl) hF60 rfl; rw [← b0, ← e_109_28]; exact n64f
          exact g_ireturn (gd rfl) rfl (nb01 (in_w 0 1 (in_c 1 rfl) rfl)) (hP _ _ ⟨s60, hI60, (fr_tr rfl (fr_tr rfl (fr_tr rfl fr_rf hF50) hF56) hF60), n64c, n64e, n64g, (Int32.ofInt 1), rfl, rfl, in_w 0 1 (in_c 1 rfl) rfl, n64, n64a⟩)
      · skip
        have i36x1 := sw_eq c36x1
        refine g_iconst 2 105 (gd rfl) rfl rfl ?_
        refine g_ireturn (gd rfl) rfl rfl (hp36 _ _ ?_)
        show GG _ _ _ _ _ _ _ _ [.int (Int32.ofInt 2)] _ _ _
        refine g_istore_n 40 (gd rfl) rfl (Nat.le_of_ble_eq_true rfl) ?_
        refine g_iload_n 41 (gd rfl) rfl rfl ?_
        refine g_if_ge 44 53 (gd rfl) rfl rfl (fun c41 => ?_) (fun c41 => ?_)
        · skip
          refine g_aload_n 54 (gd rfl) rfl rfl ?_
          refine g_iconst 1 55 (gd rfl) rfl rfl ?_
          refine g_iload_n 56 (gd rfl) rfl rfl ?_
          have n56 : (u_109_109).toInt ≤ 399 := by have a0 := in_u i36x1; have a1 := in_u ro_109_29; have a2 := in_u i29; have a3 := in_u ((inv_F hI 0 200 rfl e_109_111)); have a4 := in_u ((inv_F hI 0 400 rfl e_109_109)); have a5 := in_u ((in_c 2 rfl)); omega
          refine g_callv (X := _) (As := [.int (Int32.ofInt 1), .int (Int32.ofInt 2)]) (r := []) (b := A 109) (q := 109) 59 (gd rfl) rfl rfl rfl rfl rfl (ww_o rfl) (Nat.le_of_ble_eq_true rfl) (Nat.zero_le _) (Nat.zero_le _) (k_393 (by first | exact dq1 hd rfl | exact dq0 hd rfl | exact dq2 hd rfl | exact dq3 hd rfl | omega) hI e_109_109 n56) (fun e u h => h) (fun v u h => ?_)
          obtain ⟨s56, hI56, hF56, n56a, rfl, rfl, p56, p56a⟩ := h
          obtain ⟨z56a, e56⟩ : ∃ w, w = s56.2.2.1 109 109 := ⟨_, rfl⟩
          have i56a := inv_F hI56 0 400 rfl e56
          rw [← (show u_109_109 = s.2.2.1 109 109 from e_109_109)] at n56a
          rw [← (show z56a = s56.2.2.1 109 109 from e56)] at n56a
          show GG _ _ _ _ _ _ _ _ [] _ _ _
          refine g_aload_n 60 (gd rfl) rfl rfl ?_
          have v60 : u_109_111 = s56.2.2.1 109 111 := fr_F (e_109_111) hF56 rfl
          have n60 : (z56a).toInt + (u_109_111).toInt ≤ 120 := by have a0 := in_u i36x1; have a1 := in_u ro_109_29; have a2 := in_u i29; have a3 := in_u ((inv_F hI 0 200 rfl e_109_111)); have a4 := in_u ((inv_F hI 0 400 rfl e_109_109)); have a5 := in_u ((in_c 2 rfl)); have a6 := in_u i56a; omega
          refine g_callv (X := _) (As := []) (r := []) (b := A 109) (q := 109) 63 (gd rfl) rfl rfl rfl rfl rfl (ww_o rfl) (Nat.le_of_ble_eq_true rfl) (Nat.zero_le _) (Nat.zero_le _) (k_400 (by first | exact dq1 hd rfl | exact dq0 hd rfl | exact dq2 hd rfl | exact dq3 hd rfl | omega) hI56 e56 v60 n60) (fun e u h => h) (fun v u h => ?_)
          obtain ⟨s60, hI60, hF60, n60a, rfl, rfl, p60⟩ := h
          obtain ⟨z60a, e60⟩ : ∃ w, w = s60.2.2.1 109 109 := ⟨_, rfl⟩
          have i60a := inv_F hI60 0 400 rfl e60
          obtain ⟨z60b, e60a⟩ : ∃ w, w = s60.2.2.1 109 111 := ⟨_, rfl⟩
          have i60b := inv_F hI60 0 200 rfl e60a
          rw [← (show z56a = s56.2.2.1 109 109 from e56)] at n60a
          rw [← (show u_109_111 = s56.2.2.1 109 111 from fr_F (e_109_111) hF56 rfl)] at n60a
          rw [← (show z60a = s60.2.2.1 109 109 from e60)] at n60a
          rw [← (show z60b = s60.2.2.1 109 111 from e60a)] at n60a
          show GG _ _ _ _ _ _ _ _ [] _ _ _
          refine g_iconst 1 64 (gd rfl) rfl rfl ?_
          have n64 : ((Int32.ofInt 1)).toInt = 0 → PR s s60 0 0 := by intro hR; first | (exfalso; revert hR; decide) | exact pr_hold (hF140.1 187 rfl) (hF140.1 188 rfl) (hF140.2.2.1 109 109 rfl) (hF140.2.2.1 109 23 rfl) p140 (by rw [← e140, ← e_109_111]; exact n140a) (inv_F hI 0 200 rfl rfl).1 (Or.inl ⟨Or.inl rfl, rfl⟩) | exact pr_hold (hF140.1 187 rfl) (hF140.1 188 rfl) (hF140.2.2.1 109 109 rfl) (hF140.2.2.1 109 23 rfl) p140 (by rw [← e140, ← e_109_111]; exact n140a) (inv_F hI 0 200 rfl rfl).1 (Or.inl ⟨Or.inr rfl, rfl⟩) | exact pr_flt (hF97.1 187 rfl) (hF97.1 188 rfl) (hF97.2.2.1 109 109 rfl) (by rw [← e97]; omega) | exact pr_flt (hF118.1 187 rfl) (hF118.1 188 rfl) (hF118.2.2.1 109 109 rfl) (by rw [← e118]; omega)
          have n64a : ((Int32.ofInt 1)).toInt ≠ 0 → PR s s60 0 1 := by intro hR; first | (exact absurd rfl hR) | exact pr_tr (pr_val p15 p15a rfl (inv_F hI 0 400 rfl rfl).1 (by rw [← e15, ← e_109_109]; exact n15a) (hF15.2.2.1 109 23 rfl) (hF15.1 190 rfl) (hF15.2.2.1 109 111 rfl) (fun _ => Or.inl rfl)) p19 | exact pr_tr (pr_val p56 p56a rfl (inv_F hI 0 400 rfl rfl).1 (by rw [← e56, ← e_109_109]; exact n56a) (hF56.2.2.1 109 23 rfl) (hF56.1 190 rfl) (hF56.2.2.1 109 111 rfl) (fun _ => Or.inr ⟨rfl, by decide, by decide⟩)) p60 | exact pr_tr (pr_tr (b := 0) (pr_flt (hF50.1 187 rfl) (hF50.1 188 rfl) (hF50.2.2.1 109 109 rfl) (by rw [← e50]; omega)) (pr_val p56 p56a rfl (inv_F hI50 0 400 rfl rfl).1 (by rw [← e56, ← (show u_109_109 = s50.2.2.1 109 109 from fr_F e_109_109 hF50 rfl)]; exact n56a) (hF56.2.2.1 109 23 rfl) (hF56.1 190 rfl) (hF56.2.2.1 109 111 rfl) (fun h => absurd h (by rw [← e50]; omega)))) p60
          have n64b : (z60a).toInt + (z60b).toInt ≤ (u_109_109).toInt + (u_109_111).toInt + 1 := by have a0 := in_u i36x1; have a1 := in_u ro_109_29; have a2 := in_u i29; have a3 := in_u ((inv_F hI 0 200 rfl e_109_111)); have a4 := in_u ((inv_F hI 0 400 rfl e_109_109)); have a5 := in_u ((in_c 2 rfl)); have a6 := in_u i60b; have a7 := in_u i60a; omega
          have n64c : (s60.2.2.1 109 109).toInt + (s60.2.2.1 109 111).toInt ≤ (s.2.2.1 109 109).toInt + (s.2.2.1 109 111).toInt + 1 := by have b0 : z60a = s60.2.2.1 109 109 := e60; have b1 : z60b = s60.2.2.1 109 111 := e60a; first | (rw [← b0, ← b1, ← e_109_109, ← e_109_111]; exact n64b) | (rw [← b0, ← b1]; exact n64b)
          have n64d : (u_109_28).toInt = 0 → (z60a).toInt + (z60b).toInt = (u_109_109).toInt + (u_109_111).toInt := by have a0 := in_u i36x1; have a1 := in_u ro_109_29; have a2 := in_u i29; have a3 := in_u ((inv_F hI 0 200 rfl e_109_111)); have a4 := in_u ((inv_F hI 0 400 rfl e_109_109)); have a5 := in_u ((in_c 2 rfl)); have a6 := in_u i60b; have a7 := in_u i60a; omega
          have n64e : (s.2.2.1 109 28).toInt = 0 → (s60.2.2.1 109 109).toInt + (s60.2.2.1 109 111).toInt = (s.2.2.1 109 109).toInt + (s.2.2.1 109 111).toInt := by have b0 : z60a = s60.2.2.1 109 109 := e60; have b1 : z60b = s60.2.2.1 109 111 := e60a; first | (rw [← b0, ← b1, ← e_109_28, ← e_109_109, ← e_109_111]; exact n64d) | (rw [← b0, ← b1]; exact n64d)
          have n64f : (u_109_28).toInt = 0 → 1 ≤ ((s60.2.2.1 109 23)).toInt := by have a0 := in_u i36x1; have a1 := in_u ro_109_29; have a2 := in_u i29; have a3 := in_u ((inv_F hI 0 200 rfl e_109_111)); have a4 := in_u ((inv_F hI 0 400 rfl e_109_109)); have a5 := in_u ((in_c 2 rfl)); have a6 := in_u i60b; have a7 := in_u i60a; have a8 := in_u ((show In (s60.2.2.1 109 23) 0 9 from inv_F hI60 0 9 rfl rfl)); omega
          have n64g : (s.2.2.1 109 28).toInt = 0 → 1 ≤ (s60.2.2.1 109 23).toInt := by rw [← e_109_28]; exact n64f
          exact g_ireturn (gd rfl) rfl (nb01 (in_w 0 1 (in_c 1 rfl) rfl)) (hP _ _ ⟨s60, hI60, (fr_tr rfl (fr_tr rfl fr_rf hF56) hF60), n64c, n64e, n64g, (Int32.ofInt 1), rfl, rfl, in_w 0 1 (in_c 1 rfl) rfl, n64, n64a⟩)
        · skip
          exact zn_lt c41 (in_c 2 rfl) rfl
      · skip
        have i36x1 := sw_eq c36x1
        refine g_bipush 7 117 (gd rfl) rfl rfl ?_
        refine g_ireturn (gd rfl) rfl rfl (hp36 _ _ ?_)
        show GG _ _ _ _ _ _ _ _ [.int (Int32.ofInt 7)] _ _ _
        refine g_istore_n 40 (gd rfl) rfl (Nat.le_of_ble_eq_true rfl) ?_
        refine g_iload_n 41 (gd rfl) rfl rfl ?_
        refine g_if_ge 44 53 (gd rfl) rfl rfl (fun c41 => ?_) (fun c41 => ?_)
        · skip
          refine g_aload_n 54 (gd rfl) rfl rfl ?_
          refine g_iconst 1 55 (gd rfl) rfl rfl ?_
          refine g_iload_n 56 (gd rfl) rfl rfl ?_
          have n56 : (u_109_109).toInt ≤ 399 := by have a0 := in_u i36x1; have a1 := in_u ro_109_29; have a2 := in_u i29; have a3 := in_u ((inv_F hI 0 200 rfl e_109_111)); have a4 := in_u ((inv_F hI 0 400 rfl e_109_109)); have a5 := in_u ((in_c 7 rfl)); omega
          refine g_callv (X := _) (As := [.int (Int32.ofInt 1), .int (Int32.ofInt 7)]) (r := []) (b := A 109) (q := 109) 59 (gd rfl) rfl rfl rfl rfl rfl (ww_o rfl) (Nat.le_of_ble_eq_true rfl) (Nat.zero_le _) (Nat.zero_le _) (k_393 (by first | exact dq1 hd rfl | exact dq0 hd rfl | exact dq2 hd rfl | exact dq3 hd rfl | omega) hI e_109_109 n56) (fun e u h => h) (fun v u h => ?_)
          obtain ⟨s56, hI56, hF56, n56a, rfl, rfl, p56, p56a⟩ := h
          obtain ⟨z56a, e56⟩ : ∃ w, w = s56.2.2.1 109 109 := ⟨_, rfl⟩
          have i56a := inv_F hI56 0 400 rfl e56
          rw [← (show u_109_109 = s.2.2.1 109 109 from e_109_109)] at n56a
          rw [← (show z56a = s56.2.2.1 109 109 from e56)] at n56a
          show GG _ _ _ _ _ _ _ _ [] _ _ _
          refine g_aload_n 60 (gd rfl) rfl rfl ?_
          have v60 : u_109_111 = s56.2.2.1 109 111 := fr_F (e_109_111) hF56 rfl
          have n60 : (z56a).toInt + (u_109_111).toInt ≤ 120 := by have a0 := in_u i36x1; have a1 := in_u ro_109_29; have a2 := in_u i29; have a3 := in_u ((inv_F hI 0 200 rfl e_109_111)); have a4 := in_u ((inv_F hI 0 400 rfl e_109_109)); have a5 := in_u ((in_c 7 rfl)); have a6 := in_u i56a; omega
          refine g_callv (X := _) (As := []) (r := []) (b := A 109) (q := 109) 63 (gd rfl) rfl rfl rfl rfl rfl (ww_o rfl) (Nat.le_of_ble_eq_true rfl) (Nat.zero_le _) (Nat.zero_le _) (k_400 (by first | exact dq1 hd rfl | exact dq0 hd rfl | exact dq2 hd rfl | exact dq3 hd rfl | omega) hI56 e56 v60 n60) (fun e u h => h) (fun v u h => ?_)
          obtain ⟨s60, hI60, hF60, n60a, rfl, rfl, p60⟩ := h
          obtain ⟨z60a, e60⟩ : ∃ w, w = s60.2.2.1 109 109 := ⟨_, rfl⟩
          have i60a := inv_F hI60 0 400 rfl e60
          obtain ⟨z60b, e60a⟩ : ∃ w, w = s60.2.2.1 109 111 := ⟨_, rfl⟩
          have i60b := inv_F hI60 0 200 rfl e60a
          rw [← (show z56a = s56.2.2.1 109 109 from e56)] at n60a
          rw [← (show u_109_111 = s56.2.2.1 109 111 from fr_F (e_109_111) hF56 rfl)] at n60a
          rw [← (show z60a = s60.2.2.1 109 109 from e60)] at n60a
          rw [← (show z60b = s60.2.2.1 109 111 from e60a)] at n60a
          show GG _ _ _ _ _ _ _ _ [] _ _ _
          refine g_iconst 1 64 (gd rfl) rfl rfl ?_
          have n64 : ((Int32.ofInt 1)).toInt = 0 → PR s s60 0 0 := by intro hR; first | (exfalso; revert hR; decide) | exact pr_hold (hF140.1 187 rfl) (hF140.1 188 rfl) (hF140.2.2.1 109 109 rfl) (hF140.2.2.1 109 23 rfl) p140 (by rw [← e140, ← e_109_111]; exact n140a) (inv_F hI 0 200 rfl rfl).1 (Or.inl ⟨Or.inl rfl, rfl⟩) | exact pr_hold (hF140.1 187 rfl) (hF140.1 188 rfl) (hF140.2.2.1 109 109 rfl) (hF140.2.2.1 109 23 rfl) p140 (by rw [← e140, ← e_109_111]; exact n140a) (inv_F hI 0 200 rfl rfl).1 (Or.inl ⟨Or.inr rfl, rfl⟩) | exact pr_flt (hF97.1 187 rfl) (hF97.1 188 rfl) (hF97.2.2.1 109 109 rfl) (by rw [← e97]; omega) | exact pr_flt (hF118.1 187 rfl) (hF118.1 188 rfl) (hF118.2.2.1 109 109 rfl) (by rw [← e118]; omega)
          have n64a : ((Int32.ofInt 1)).toInt ≠ 0 → PR s s60 0 1 := by intro hR; first | (exact absurd rfl hR) | exact pr_tr (pr_val p15 p15a rfl (inv_F hI 0 400 rfl rfl).1 (by rw [← e15, ← e_109_109]; exact n15a) (hF15.2.2.1 109 23 rfl) (hF15.1 190 rfl) (hF15.2.2.1 109 111 rfl) (fun _ => Or.inl rfl)) p19 | exact pr_tr (pr_val p56 p56a rfl (inv_F hI 0 400 rfl rfl).1 (by rw [← e56, ← e_109_109]; exact n56a) (hF56.2.2.1 109 23 rfl) (hF56.1 190 rfl) (hF56.2.2.1 109 111 rfl) (fun _ => Or.inr ⟨rfl, by decide, by decide⟩)) p60 | exact pr_tr (pr_tr (b := 0) (pr_flt (hF50.1 187 rfl) (hF50.1 188 rfl) (hF50.2.2.1 109 109 rfl) (by rw [← e50]; omega)) (pr_val p56 p56a rfl (inv_F hI50 0 400 rfl rfl).1 (by rw [← e56, ← (show u_109_109 = s50.2.2.1 109 109 from fr_F e_109_109 hF50 rfl)]; exact n56a) (hF56.2.2.1 109 23 rfl) (hF56.1 190 rfl) (hF56.2.2.1 109 111 rfl) (fun h => absurd h (by rw [← e50]; omega)))) p60
          have n64b : (z60a).toInt + (z60b).toInt ≤ (u_109_109).toInt + (u_109_111).toInt + 1 := by have a0 := in_u i36x1; have a1 := in_u ro_109_29; have a2 := in_u i29; have a3 := in_u ((inv_F hI 0 200 rfl e_109_111)); have a4 := in_u ((inv_F hI 0 400 rfl e_109_109)); have a5 := in_u ((in_c 7 rfl)); have a6 := in_u i60b; have a7 := in_u i60a; omega
          have n64c : (s60.2.2.1 109 109).toInt + (s60.2.2.1 109 111).toInt ≤ (s.2.2.1 109 109).toInt + (s.2.2.1 109 111).toInt + 1 := by have b0 : z60a = s60.2.2.1 109 109 := e60; have b1 : z60b = s60.2.2.1 109 111 := e60a; first | (rw [← b0, ← b1, ← e_109_109, ← e_109_111]; exact n64b) | (rw [← b0, ← b1]; exact n64b)
          have n64d : (u_109_28).toInt = 0 → (z60a).toInt + (z60b).toInt = (u_109_109).toInt + (u_109_111).toInt := by have a0 := in_u i36x1; have a1 := in_u ro_109_29; have a2 := in_u i29; have a3 := in_u ((inv_F hI 0 200 rfl e_109_111)); have a4 := in_u ((inv_F hI 0 400 rfl e_109_109)); have a5 := in_u ((in_c 7 rfl)); have a6 := in_u i60b; have a7 := in_u i60a; omega
          have n64e : (s.2.2.1 109 28).toInt = 0 → (s60.2.2.1 109 109).toInt + (s60.2.2.1 109 111).toInt = (s.2.2.1 109 109).toInt + (s.2.2.1 109 111).toInt := by have b0 : z60a = s60.2.2.1 109 109 := e60; have b1 : z60b = s60.2.2.1 109 111 := e60a; first | (rw [← b0, ← b1, ← e_109_28, ← e_109_109, ← e_109_111]; exact n64d) | (rw [← b0, ← b1]; exact n64d)
          have n64f : (u_109_28).toInt = 0 → 1 ≤ ((s60.2.2.1 109 23)).toInt := by have a0 := in_u i36x1; have a1 := in_u ro_109_29; have a2 := in_u i29; have a3 := in_u ((inv_F hI 0 200 rfl e_109_111)); have a4 := in_u ((inv_F hI 0 400 rfl e_109_109)); have a5 := in_u ((in_c 7 rfl)); have a6 := in_u i60b; have a7 := in_u i60a; have a8 := in_u ((show In (s60.2.2.1 109 23) 0 9 from inv_F hI60 0 9 rfl rfl)); omega
          have n64g : (s.2.2.1 109 28).toInt = 0 → 1 ≤ (s60.2.2.1 109 23).toInt := by rw [← e_109_28]; exact n64f
          exact g_ireturn (gd rfl) rfl (nb01 (in_w 0 1 (in_c 1 rfl) rfl)) (hP _ _ ⟨s60, hI60, (fr_tr rfl (fr_tr rfl fr_rf hF56) hF60), n64c, n64e, n64g, (Int32.ofInt 1), rfl, rfl, in_w 0 1 (in_c 1 rfl) rfl, n64, n64a⟩)
        · skip
          exact zn_lt c41 (in_c 7 rfl) rfl
      · skip
        have i36x1 := sw_eq c36x1
        refine g_iconst 1 103 (gd rfl) rfl rfl ?_
        refine g_ireturn (gd rfl) rfl rfl (hp36 _ _ ?_)
        show GG _ _ _ _ _ _ _ _ [.int (Int32.ofInt 1)] _ _ _
        refine g_istore_n 40 (gd rfl) rfl (Nat.le_of_ble_eq_true rfl) ?_
        refine g_iload_n 41 (gd rfl) rfl rfl ?_
        refine g_if_ge 44 53 (gd rfl) rfl rfl (fun c41 => ?_) (fun c41 => ?_)
        · skip
          refine g_aload_n 54 (gd rfl) rfl rfl ?_
          refine g_iconst 1 55 (gd rfl) rfl rfl ?_
          refine g_iload_n 56 (gd rfl) rfl rfl ?_
          have n56 : (u_109_109).toInt ≤ 399 := by have a0 := in_u i36x1; have a1 := in_u ro_109_29; have a2 := in_u i29; have a3 := in_u ((inv_F hI 0 200 rfl e_109_111)); have a4 := in_u ((inv_F hI 0 400 rfl e_109_109)); have a5 := in_u ((in_c 1 rfl)); omega
          refine g_callv (X := _) (As := [.int (Int32.ofInt 1), .int (Int32.ofInt 1)]) (r := []) (b := A 109) (q := 109) 59 (gd rfl) rfl rfl rfl rfl rfl (ww_o rfl) (Nat.le_of_ble_eq_true rfl) (Nat.zero_le _) (Nat.zero_le _) (k_393 (by first | exact dq1 hd rfl | exact dq0 hd rfl | exact dq2 hd rfl | exact dq3 hd rfl | omega) hI e_109_109 n56) (fun e u h => h) (fun v u h => ?_)
          obtain ⟨s56, hI56, hF56, n56a, rfl, rfl, p56, p56a⟩ := h
          obtain ⟨z56a, e56⟩ : ∃ w, w = s56.2.2.1 109 109 := ⟨_, rfl⟩
          have i56a := inv_F hI56 0 400 rfl e56
          rw [← (show u_109_109 = s.2.2.1 109 109 from e_109_109)] at n56a
          rw [← (show z56a = s56.2.2.1 109 109 from e56)] at n56a
          show GG _ _ _ _ _ _ _ _ [] _ _ _
          refine g_aload_n 60 (gd rfl) rfl rfl ?_
          have v60 : u_109_111 = s56.2.2.1 109 111 := fr_F (e_109_111) hF56 rfl
          have n60 : (z56a).toInt + (u_109_111).toInt ≤ 120 := by have a0 := in_u i36x1; have a1 := in_u ro_109_29; have a2 := in_u i29; have a3 := in_u ((inv_F hI 0 200 rfl e_109_111)); have a4 := in_u ((inv_F hI 0 400 rfl e_109_109)); have a5 := in_u ((in_c 1 rfl)); have a6 := in_u i56a; omega
          refine g_callv (X := _) (As := []) (r := []) (b := A 109) (q := 109) 63 (gd rfl) rfl rfl rfl rfl rfl (ww_o rfl) (Nat.le_of_ble_eq_true rfl) (Nat.zero_le _) (Nat.zero_le _) (k_400 (by first | exact dq1 hd rfl | exact dq0 hd rfl | exact dq2 hd rfl | exact dq3 hd rfl | omega) hI56 e56 v60 n60) (fun e u h => h) (fun v u h => ?_)
          obtain ⟨s60, hI60, hF60, n60a, rfl, rfl, p60⟩ := h
          obtain ⟨z60a, e60⟩ : ∃ w, w = s60.2.2.1 109 109 := ⟨_, rfl⟩
          have i60a := inv_F hI60 0 400 rfl e60
          obtain ⟨z60b, e60a⟩ : ∃ w, w = s60.2.2.1 109 111 := ⟨_, rfl⟩
          have i60b := inv_F hI60 0 200 rfl e60a
          rw [← (show z56a = s56.2.2.1 109 109 from e56)] at n60a
          rw [← (show u_109_111 = s56.2.2.1 109 111 from fr_F (e_109_111) hF56 rfl)] at n60a
          rw [← (show z60a = s60.2.2.1 109 109 from e60)] at n60a
          rw [← (show z60b = s60.2.2.1 109 111 from e60a)] at n60a
          show GG _ _ _ _ _ _ _ _ [] _ _ _
          refine g_iconst 1 64 (gd rfl) rfl rfl ?_
          have n64 : ((Int32.ofInt 1)).toInt = 0 → PR s s60 0 0 := by intro hR; first | (exfalso; revert hR; decide) | exact pr_hold (hF140.1 187 rfl) (hF140.1 188 rfl) (hF140.2.2.1 109 109 rfl) (hF140.2.2.1 109 23 rfl) p140 (by rw [← e140, ← e_109_111]; exact n140a) (inv_F hI 0 200 rfl rfl).1 (Or.inl ⟨Or.inl rfl, rfl⟩) | exact pr_hold (hF140.1 187 rfl) (hF140.1 188 rfl) (hF140.2.2.1 109 109 rfl) (hF140.2.2.1 109 23 rfl) p140 (by rw [← e140, ← e_109_111]; exact n140a) (inv_F hI 0 200 rfl rfl).1 (Or.inl ⟨Or.inr rfl, rfl⟩) | exact pr_flt (hF97.1 187 rfl) (hF97.1 188 rfl) (hF97.2.2.1 109 109 rfl) (by rw [← e97]; omega) | exact pr_flt (hF118.1 187 rfl) (hF118.1 188 rfl) (hF118.2.2.1 109 109 rfl) (by rw [← e118]; omega)
          have n64a : ((Int32.ofInt 1)).toInt ≠ 0 → PR s s60 0 1 := by intro hR; first | (exact absurd rfl hR) | exact pr_tr (pr_val p15 p15a rfl (inv_F hI 0 400 rfl rfl).1 (by rw [← e15, ← e_109_109]; exact n15a) (hF15.2.2.1 109 23 rfl) (hF15.1 190 rfl) (hF15.2.2.1 109 111 rfl) (fun _ => Or.inl rfl)) p19 | exact pr_tr (pr_val p56 p56a rfl (inv_F hI 0 400 rfl rfl).1 (by rw [← e56, ← e_109_109]; exact n56a) (hF56.2.2.1 109 23 rfl) (hF56.1 190 rfl) (hF56.2.2.1 109 111 rfl) (fun _ => Or.inr ⟨rfl, by decide, by decide⟩)) p60 | exact pr_tr (pr_tr (b := 0) (pr_flt (hF50.1 187 rfl) (hF50.1 188 rfl) (hF50.2.2.1 109 109 rfl) (by rw [← e50]; omega)) (pr_val p56 p56a rfl (inv_F hI50 0 400 rfl rfl).1 (by rw [← e56, ← (show u_109_109 = s50.2.2.1 109 109 from fr_F e_109_109 hF50 rfl)]; exact n56a) (hF56.2.2.1 109 23 rfl) (hF56.1 190 rfl) (hF56.2.2.1 109 111 rfl) (fun h => absurd h (by rw [← e50]; omega)))) p60
          have n64b : (z60a).toInt + (z60b).toInt ≤ (u_109_109).toInt + (u_109_111).toInt + 1 := by have a0 := in_u i36x1; have a1 := in_u ro_109_29; have a2 := in_u i29; have a3 := in_u ((inv_F hI 0 200 rfl e_109_111)); have a4 := in_u ((inv_F hI 0 400 rfl e_109_109)); have a5 := in_u ((in_c 1 rfl)); have a6 := in_u i60b; have a7 := in_u i60a; omega
          have n64c : (s60.2.2.1 109 109).toInt + (s60.2.2.1 109 111).toInt ≤ (s.2.2.1 109 109).toInt + (s.2.2.1 109 111).toInt + 1 := by have b0 : z60a = s60.2.2.1 109 109 := e60; have b1 : z60b = s60.2.2.1 109 111 := e60a; first | (rw [← b0, ← b1, ← e_109_109, ← e_109_111]; exact n64b) | (rw [← b0, ← b1]; exact n64b)
          have n64d : (u_109_28).toInt = 0 → (z60a).toInt + (z60b).toInt = (u_109_109).toInt + (u_109_111).toInt := by have a0 := in_u i36x1; have a1 := in_u ro_109_29; have a2 := in_u i29; have a3 := in_u ((inv_F hI 0 200 rfl e_109_111)); have a4 := in_u ((inv_F hI 0 400 rfl e_109_109)); have a5 := in_u ((in_c 1 rfl)); have a6 := in_u i60b; have a7 := in_u i60a; omega
          have n64e : (s.2.2.1 109 28).toInt = 0 → (s60.2.2.1 109 109).toInt + (s60.2.2.1 109 111).toInt = (s.2.2.1 109 109).toInt + (s.2.2.1 109 111).toInt := by have b0 : z60a = s60.2.2.1 109 109 := e60; have b1 : z60b = s60.2.2.1 109 111 := e60a; first | (rw [← b0, ← b1, ← e_109_28, ← e_109_109, ← e_109_111]; exact n64d) | (rw [← b0, ← b1]; exact n64d)
          have n64f : (u_109_28).toInt = 0 → 1 ≤ ((s60.2.2.1 109 23)).toInt := by have a0 := in_u i36x1; have a1 := in_u ro_109_29; have a2 := in_u i29; have a3 := in_u ((inv_F hI 0 200 rfl e_109_111)); have a4 := in_u ((inv_F hI 0 400 rfl e_109_109)); have a5 := in_u ((in_c 1 rfl)); have a6 := in_u i60b; have a7 := in_u i60a; have a8 := in_u ((show In (s60.2.2.1 109 23) 0 9 from inv_F hI60 0 9 rfl rfl)); omega
          have n64g : (s.2.2.1 109 28).toInt = 0 → 1 ≤ (s60.2.2.1 109 23).toInt := by rw [← e_109_28]; exact n64f
          exact g_ireturn (gd rfl) rfl (nb01 (in_w 0 1 (in_c 1 rfl) rfl)) (hP _ _ ⟨s60, hI60, (fr_tr rfl (fr_tr rfl fr_rf hF56) hF60), n64c, n64e, n64g, (Int32.ofInt 1), rfl, rfl, in_w 0 1 (in_c 1 rfl) rfl, n64, n64a⟩)
        · skip
          exact zn_lt c41 (in_c 1 rfl) rfl
      · skip
        have i36x1 := sw_eq c36x1
        refine g_iconst (-1) 122 (gd rfl) rfl rfl ?_
        refine g_ireturn (gd rfl) rfl rfl (hp36 _ _ ?_)
        show GG _ _ _ _ _ _ _ _ [.int (Int32.ofInt (-1))] _ _ _
        refine g_istore_n 40 (gd rfl) rfl (Nat.le_of_ble_eq_true rfl) ?_
        refine g_iload_n 41 (gd rfl) rfl rfl ?_
        refine g_if_ge 44 53 (gd rfl) rfl rfl (fun c41 => ?_) (fun c41 => ?_)
        · skip
          exact zn_ge c41 (in_c (-1) rfl) rfl
        · skip
          refine g_aload_n 45 (gd rfl) rfl rfl ?_
          refine g_iconst 5 46 (gd rfl) rfl rfl ?_
          refine g_aload_n 47 (gd rfl) rfl rfl ?_
          refine g_getI 50 (gd rfl) rfl rfl rfl (fun z47 e47 => ?_)
          have q47 : u_109_29 = z47 := (e_109_29).trans e47.symm
          subst q47
          refine g_callv (X := _) (As := [.int (Int32.ofInt 5), .int u_109_29]) (r := []) (b := A 109) (q := 109) 53 (gd rfl) rfl rfl rfl rfl rfl (ww_o rfl) (Nat.le_of_ble_eq_true rfl) (Nat.zero_le _) (Nat.zero_le _) (k_298 (by first | exact dq1 hd rfl | exact dq0 hd rfl | exact dq2 hd rfl | exact dq3 hd rfl | omega) hI (in_w 1 5 (in_c 5 rfl) rfl)) (fun e u h => h) (fun v u h => ?_)
          obtain ⟨s50, hI50, hF50, n50, rfl, rfl⟩ := h
          obtain ⟨z50a, e50⟩ : ∃ w, w = s50.2.2.1 109 23 := ⟨_, rfl⟩
          have i50a := inv_F hI50 0 9 rfl e50
          rw [← (show z50a = s50.2.2.1 109 23 from e50)] at n50
          show GG _ _ _ _ _ _ _ _ [] _ _ _
          refine g_aload_n 54 (gd rfl) rfl rfl ?_
          refine g_iconst 1 55 (gd rfl) rfl rfl ?_
          refine g_iload_n 56 (gd rfl) rfl rfl ?_
          have v56 : u_109_109 = s50.2.2.1 109 109 := fr_F (e_109_109) hF50 rfl
          have n56 : (u_109_109).toInt ≤ 399 := by have a0 := in_u i36x1; have a1 := in_u ro_109_29; have a2 := in_u i29; have a3 := in_u ((inv_F hI 0 200 rfl e_109_111)); have a4 := in_u ((inv_F hI 0 400 rfl e_109_109)); have a5 := in_u ((in_c (-1) rfl)); have a6 := in_u i50a; omega
          refine g_callv (X := _) (As := [.int (Int32.ofInt 1), .int (Int32.ofInt (-1))]) (r := []) (b := A 109) (q := 109) 59 (gd rfl) rfl rfl rfl rfl rfl (ww_o rfl) (Nat.le_of_ble_eq_true rfl) (Nat.zero_le _) (Nat.zero_le _) (k_393 (by first | exact dq1 hd rfl | exact dq0 hd rfl | exact dq2 hd rfl | exact dq3 hd rfl | omega) hI50 v56 n56) (fun e u h => h) (fun v u h => ?_)
          obtain ⟨s56, hI56, hF56, n56a, rfl, rfl, p56, p56a⟩ := h
          obtain ⟨z56a, e56⟩ : ∃ w, w = s56.2.2.1 109 109 := ⟨_, rfl⟩
          have i56a := inv_F hI56 0 400 rfl e56
          rw [← (show u_109_109 = s50.2.2.1 109 109 from fr_F (e_109_109) hF50 rfl)] at n56a
          rw [← (show z56a = s56.2.2.1 109 109 from e56)] at n56a
          show GG _ _ _ _ _ _ _ _ [] _ _ _
          refine g_aload_n 60 (gd rfl) rfl rfl ?_
          have v60 : u_109_111 = s56.2.2.1 109 111 := fr_F (fr_F (e_109_111) hF50 rfl) hF56 rfl
          have n60 : (z56a).toInt + (u_109_111).toInt ≤ 120 := by have a0 := in_u i36x1; have a1 := in_u ro_109_29; have a2 := in_u i29; have a3 := in_u ((inv_F hI 0 200 rfl e_109_111)); have a4 := in_u ((inv_F hI 0 400 rfl e_109_109)); have a5 := in_u ((in_c (-1) rfl)); have a6 := in_u i56a; have a7 := in_u i50a; omega
          refine g_callv (X := _) (As := []) (r := []) (b := A 109) (q := 109) 63 (gd rfl) rfl rfl rfl rfl rfl (ww_o rfl) (Nat.le_of_ble_eq_true rfl) (Nat.zero_le _) (Nat.zero_le _) (k_400 (by first | exact dq1 hd rfl | exact dq0 hd rfl | exact dq2 hd rfl | exact dq3 hd rfl | omega) hI56 e56 v60 n60) (fun e u h => h) (fun v u h => ?_)
          obtain ⟨s60, hI60, hF60, n60a, rfl, rfl, p60⟩ := h
          obtain ⟨z60a, e60⟩ : ∃ w, w = s60.2.2.1 109 109 := ⟨_, rfl⟩
          have i60a := inv_F hI60 0 400 rfl e60
          obtain ⟨z60b, e60a⟩ : ∃ w, w = s60.2.2.1 109 111 := ⟨_, rfl⟩
          have i60b := inv_F hI60 0 200 rfl e60a
          rw [← (show z56a = s56.2.2.1 109 109 from e56)] at n60a
          rw [← (show u_109_111 = s56.2.2.1 109 111 from fr_F (fr_F (e_109_111) hF50 rfl) hF56 rfl)] at n60a
          rw [← (show z60a = s60.2.2.1 109 109 from e60)] at n60a
          rw [← (show z60b = s60.2.2.1 109 111 from e60a)] at n60a
          show GG _ _ _ _ _ _ _ _ [] _ _ _
          refine g_iconst 1 64 (gd rfl) rfl rfl ?_
          have n64 : ((Int32.ofInt 1)).toInt = 0 → PR s s60 0 0 := by intro hR; first | (exfalso; revert hR; decide) | exact pr_hold (hF140.1 187 rfl) (hF140.1 188 rfl) (hF140.2.2.1 109 109 rfl) (hF140.2.2.1 109 23 rfl) p140 (by rw [← e140, ← e_109_111]; exact n140a) (inv_F hI 0 200 rfl rfl).1 (Or.inl ⟨Or.inl rfl, rfl⟩) | exact pr_hold (hF140.1 187 rfl) (hF140.1 188 rfl) (hF140.2.2.1 109 109 rfl) (hF140.2.2.1 109 23 rfl) p140 (by rw [← e140, ← e_109_111]; exact n140a) (inv_F hI 0 200 rfl rfl).1 (Or.inl ⟨Or.inr rfl, rfl⟩) | exact pr_flt (hF97.1 187 rfl) (hF97.1 188 rfl) (hF97.2.2.1 109 109 rfl) (by rw [← e97]; omega) | exact pr_flt (hF118.1 187 rfl) (hF118.1 188 rfl) (hF118.2.2.1 109 109 rfl) (by rw [← e118]; omega)
          have n64a : ((Int32.ofInt 1)).toInt ≠ 0 → PR s s60 0 1 := by intro hR; first | (exact absurd rfl hR) | exact pr_tr (pr_val p15 p15a rfl (inv_F hI 0 400 rfl rfl).1 (by rw [← e15, ← e_109_109]; exact n15a) (hF15.2.2.1 109 23 rfl) (hF15.1 190 rfl) (hF15.2.2.1 109 111 rfl) (fun _ => Or.inl rfl)) p19 | exact pr_tr (pr_val p56 p56a rfl (inv_F hI 0 400 rfl rfl).1 (by rw [← e56, ← e_109_109]; exact n56a) (hF56.2.2.1 109 23 rfl) (hF56.1 190 rfl) (hF56.2.2.1 109 111 rfl) (fun _ => Or.inr ⟨rfl, by decide, by decide⟩)) p60 | exact pr_tr (pr_tr (b := 0) (pr_flt (hF50.1 187 rfl) (hF50.1 188 rfl) (hF50.2.2.1 109 109 rfl) (by rw [← e50]; omega)) (pr_val p56 p56a rfl (inv_F hI50 0 400 rfl rfl).1 (by rw [← e56, ← (show u_109_109 = s50.2.2.1 109 109 from fr_F e_109_109 hF50 rfl)]; exact n56a) (hF56.2.2.1 109 23 rfl) (hF56.1 190 rfl) (hF56.2.2.1 109 111 rfl) (fun h => absurd h (by rw [← e50]; omega)))) p60
          have n64b : (z60a).toInt + (z60b).toInt ≤ (u_109_109).toInt + (u_109_111).toInt + 1 := by have a0 := in_u i36x1; have a1 := in_u ro_109_29; have a2 := in_u i29; have a3 := in_u ((inv_F hI 0 200 rfl e_109_111)); have a4 := in_u ((inv_F hI 0 400 rfl e_109_109)); have a5 := in_u ((in_c (-1) rfl)); have a6 := in_u i60b; have a7 := in_u i60a; have a8 := in_u i50a; omega
          have n64c : (s60.2.2.1 109 109).toInt + (s60.2.2.1 109 111).toInt ≤ (s.2.2.1 109 109).toInt + (s.2.2.1 109 111).toInt + 1 := by have b0 : z60a = s60.2.2.1 109 109 := e60; have b1 : z60b = s60.2.2.1 109 111 := e60a; first | (rw [← b0, ← b1, ← e_109_109, ← e_109_111]; exact n64b) | (rw [← b0, ← b1]; exact n64b)
          have n64d : (u_109_28).toInt = 0 → (z60a).toInt + (z60b).toInt = (u_109_109).toInt + (u_109_111).toInt := by have a0 := in_u i36x1; have a1 := in_u ro_109_29; have a2 := in_u i29; have a3 := in_u ((inv_F hI 0 200 rfl e_109_111)); have a4 := in_u ((inv_F hI 0 400 rfl e_109_109)); have a5 := in_u ((in_c (-1) rfl)); have a6 := in_u i60b; have a7 := in_u i60a; have a8 := in_u i50a; omega
          have n64e : (s.2.2.1 109 28).toInt = 0 → (s60.2.2.1 109 109).toInt + (s60.2.2.1 109 111).toInt = (s.2.2.1 109 109).toInt + (s.2.2.1 109 111).toInt := by have b0 : z60a = s60.2.2.1 109 109 := e60; have b1 : z60b = s60.2.2.1 109 111 := e60a; first | (rw [← b0, ← b1, ← e_109_28, ← e_109_109, ← e_109_111]; exact n64d) | (rw [← b0, ← b1]; exact n64d)
          have n64f : (u_109_28).toInt = 0 → 1 ≤ (z50a).toInt := by have a0 := in_u i36x1; have a1 := in_u ro_109_29; have a2 := in_u i29; have a3 := in_u ((inv_F hI 0 200 rfl e_109_111)); have a4 := in_u ((inv_F hI 0 400 rfl e_109_109)); have a5 := in_u ((in_c (-1) rfl)); have a6 := in_u i60b; have a7 := in_u i60a; have a8 := in_u i50a; omega
          have n64g : (s.2.2.1 109 28).toInt = 0 → 1 ≤ (s60.2.2.1 109 23).toInt := by have b0 : z50a = s60.2.2.1 109 23 := fr_F (fr_F (e50) hF56 rfl) hF60 rfl; rw [← b0, ← e_109_28]; exact n64f
          exact g_ireturn (gd rfl) rfl (nb01 (in_w 0 1 (in_c 1 rfl) rfl)) (hP _ _ ⟨s60, hI60, (fr_tr rfl (fr_tr rfl (fr_tr rfl fr_rf hF50) hF56) hF60), n64c, n64e, n64g, (Int32.ofInt 1), rfl, rfl, in_w 0 1 (in_c 1 rfl) rfl, n64, n64a⟩)
      · skip
        have i36x1 := sw_eq c36x1
        refine g_iconst (-1) 122 (gd rfl) rfl rfl ?_
        refine g_ireturn (gd rfl) rfl rfl (hp36 _ _ ?_)
        show GG _ _ _ _ _ _ _ _ [.int (Int32.ofInt (-1))] _ _ _
        refine g_istore_n 40 (gd rfl) rfl (Nat.le_of_ble_eq_true rfl) ?_
        refine g_iload_n 41 (gd rfl) rfl rfl ?_
        refine g_if_ge 44 53 (gd rfl) rfl rfl (fun c41 => ?_) (fun c41 => ?_)
        · skip
          exact zn_ge c41 (in_c (-1) rfl) rfl
        · skip
          refine g_aload_n 45 (gd rfl) rfl rfl ?_
          refine g_iconst 5 46 (gd rfl) rfl rfl ?_
          refine g_aload_n 47 (gd rfl) rfl rfl ?_
          refine g_getI 50 (gd rfl) rfl rfl rfl (fun z47 e47 => ?_)
          have q47 : u_109_29 = z47 := (e_109_29).trans e47.symm
          subst q47
          refine g_callv (X := _) (As := [.int (Int32.ofInt 5), .int u_109_29]) (r := []) (b := A 109) (q := 109) 53 (gd rfl) rfl rfl rfl rfl rfl (ww_o rfl) (Nat.le_of_ble_eq_true rfl) (Nat.zero_le _) (Nat.zero_le _) (k_298 (by first | exact dq1 hd rfl | exact dq0 hd rfl | exact dq2 hd rfl | exact dq3 hd rfl | omega) hI (in_w 1 5 (in_c 5 rfl) rfl)) (fun e u h => h) (fun v u h => ?_)
          obtain ⟨s50, hI50, hF50, n50, rfl, rfl⟩ := h
          obtain ⟨z50a, e50⟩ : ∃ w, w = s50.2.2.1 109 23 := ⟨_, rfl⟩
          have i50a := inv_F hI50 0 9 rfl e50
          rw [← (show z50a = s50.2.2.1 109 23 from e50)] at n50
          show GG _ _ _ _ _ _ _ _ [] _ _ _
          refine g_aload_n 54 (gd rfl) rfl rfl ?_
          refine g_iconst 1 55 (gd rfl) rfl rfl ?_
          refine g_iload_n 56 (gd rfl) rfl rfl ?_
          have v56 : u_109_109 = s50.2.2.1 109 109 := fr_F (e_109_109) hF50 rfl
          have n56 : (u_109_109).toInt ≤ 399 := by have a0 := in_u i36x1; have a1 := in_u ro_109_29; have a2 := in_u i29; have a3 := in_u ((inv_F hI 0 200 rfl e_109_111)); have a4 := in_u ((inv_F hI 0 400 rfl e_109_109)); have a5 := in_u ((in_c (-1) rfl)); have a6 := in_u i50a; omega
          refine g_callv (X := _) (As := [.int (Int32.ofInt 1), .int (Int32.ofInt (-1))]) (r := []) (b := A 109) (q := 109) 59 (gd rfl) rfl rfl rfl rfl rfl (ww_o rfl) (Nat.le_of_ble_eq_true rfl) (Nat.zero_le _) (Nat.zero_le _) (k_393 (by first | exact dq1 hd rfl | exact dq0 hd rfl | exact dq2 hd rfl | exact dq3 hd rfl | omega) hI50 v56 n56) (fun e u h => h) (fun v u h => ?_)
          obtain ⟨s56, hI56, hF56, n56a, rfl, rfl, p56, p56a⟩ := h
          obtain ⟨z56a, e56⟩ : ∃ w, w = s56.2.2.1 109 109 := ⟨_, rfl⟩
          have i56a := inv_F hI56 0 400 rfl e56
          rw [← (show u_109_109 = s50.2.2.1 109 109 from fr_F (e_109_109) hF50 rfl)] at n56a
          rw [← (show z56a = s56.2.2.1 109 109 from e56)] at n56a
          show GG _ _ _ _ _ _ _ _ [] _ _ _
          refine g_aload_n 60 (gd rfl) rfl rfl ?_
          have v60 : u_109_111 = s56.2.2.1 109 111 := fr_F (fr_F (e_109_111) hF50 rfl) hF56 rfl
          have n60 : (z56a).toInt + (u_109_111).toInt ≤ 120 := by have a0 := in_u i36x1; have a1 := in_u ro_109_29; have a2 := in_u i29; have a3 := in_u ((inv_F hI 0 200 rfl e_109_111)); have a4 := in_u ((inv_F hI 0 400 rfl e_109_109)); have a5 := in_u ((in_c (-1) rfl)); have a6 := in_u i56a; have a7 := in_u i50a; omega
          refine g_callv (X := _) (As := []) (r := []) (b := A 109) (q := 109) 63 (gd rfl) rfl rfl rfl rfl rfl (ww_o rfl) (Nat.le_of_ble_eq_true rfl) (Nat.zero_le _) (Nat.zero_le _) (k_400 (by first | exact dq1 hd rfl | exact dq0 hd rfl | exact dq2 hd rfl | exact dq3 hd rfl | omega) hI56 e56 v60 n60) (fun e u h => h) (fun v u h => ?_)
          obtain ⟨s60, hI60, hF60, n60a, rfl, rfl, p60⟩ := h
          obtain ⟨z60a, e60⟩ : ∃ w, w = s60.2.2.1 109 109 := ⟨_, rfl⟩
          have i60a := inv_F hI60 0 400 rfl e60
          obtain ⟨z60b, e60a⟩ : ∃ w, w = s60.2.2.1 109 111 := ⟨_, rfl⟩
          have i60b := inv_F hI60 0 200 rfl e60a
          rw [← (show z56a = s56.2.2.1 109 109 from e56)] at n60a
          rw [← (show u_109_111 = s56.2.2.1 109 111 from fr_F (fr_F (e_109_111) hF50 rfl) hF56 rfl)] at n60a
          rw [← (show z60a = s60.2.2.1 109 109 from e60)] at n60a
          rw [← (show z60b = s60.2.2.1 109 111 from e60a)] at n60a
          show GG _ _ _ _ _ _ _ _ [] _ _ _
          refine g_iconst 1 64 (gd rfl) rfl rfl ?_
          have n64 : ((Int32.ofInt 1)).toInt = 0 → PR s s60 0 0 := by intro hR; first | (exfalso; revert hR; decide) | exact pr_hold (hF140.1 187 rfl) (hF140.1 188 rfl) (hF140.2.2.1 109 109 rfl) (hF140.2.2.1 109 23 rfl) p140 (by rw [← e140, ← e_109_111]; exact n140a) (inv_F hI 0 200 rfl rfl).1 (Or.inl ⟨Or.inl rfl, rfl⟩) | exact pr_hold (hF140.1 187 rfl) (hF140.1 188 rfl) (hF140.2.2.1 109 109 rfl) (hF140.2.2.1 109 23 rfl) p140 (by rw [← e140, ← e_109_111]; exact n140a) (inv_F hI 0 200 rfl rfl).1 (Or.inl ⟨Or.inr rfl, rfl⟩) | exact pr_flt (hF97.1 187 rfl) (hF97.1 188 rfl) (hF97.2.2.1 109 109 rfl) (by rw [← e97]; omega) | exact pr_flt (hF118.1 187 rfl) (hF118.1 188 rfl) (hF118.2.2.1 109 109 rfl) (by rw [← e118]; omega)
          have n64a : ((Int32.ofInt 1)).toInt ≠ 0 → PR s s60 0 1 := by intro hR; first | (exact absurd rfl hR) | exact pr_tr (pr_val p15 p15a rfl (inv_F hI 0 400 rfl rfl).1 (by rw [← e15, ← e_109_109]; exact n15a) (hF15.2.2.1 109 23 rfl) (hF15.1 190 rfl) (hF15.2.2.1 109 111 rfl) (fun _ => Or.inl rfl)) p19 | exact pr_tr (pr_val p56 p56a rfl (inv_F hI 0 400 rfl rfl).1 (by rw [← e56, ← e_109_109]; exact n56a) (hF56.2.2.1 109 23 rfl) (hF56.1 190 rfl) (hF56.2.2.1 109 111 rfl) (fun _ => Or.inr ⟨rfl, by decide, by decide⟩)) p60 | exact pr_tr (pr_tr (b := 0) (pr_flt (hF50.1 187 rfl) (hF50.1 188 rfl) (hF50.2.2.1 109 109 rfl) (by rw [← e50]; omega)) (pr_val p56 p56a rfl (inv_F hI50 0 400 rfl rfl).1 (by rw [← e56, ← (show u_109_109 = s50.2.2.1 109 109 from fr_F e_109_109 hF50 rfl)]; exact n56a) (hF56.2.2.1 109 23 rfl) (hF56.1 190 rfl) (hF56.2.2.1 109 111 rfl) (fun h => absurd h (by rw [← e50]; omega)))) p60
          have n64b : (z60a).toInt + (z60b).toInt ≤ (u_109_109).toInt + (u_109_111).toInt + 1 := by have a0 := in_u i36x1; have a1 := in_u ro_109_29; have a2 := in_u i29; have a3 := in_u ((inv_F hI 0 200 rfl e_109_111)); have a4 := in_u ((inv_F hI 0 400 rfl e_109_109)); have a5 := in_u ((in_c (-1) rfl)); have a6 := in_u i60b; have a7 := in_u i60a; have a8 := in_u i50a; omega
          have n64c : (s60.2.2.1 109 109).toInt + (s60.2.2.1 109 111).toInt ≤ (s.2.2.1 109 109).toInt + (s.2.2.1 109 111).toInt + 1 := by have b0 : z60a = s60.2.2.1 109 109 := e60; have b1 : z60b = s60.2.2.1 109 111 := e60a; first | (rw [← b0, ← b1, ← e_109_109, ← e_109_111]; exact n64b) | (rw [← b0, ← b1]; exact n64b)
          have n64d : (u_109_28).toInt = 0 → (z60a).toInt + (z60b).toInt = (u_109_109).toInt + (u_109_111).toInt := by have a0 := in_u i36x1; have a1 := in_u ro_109_29; have a2 := in_u i29; have a3 := in_u ((inv_F hI 0 200 rfl e_109_111)); have a4 := in_u ((inv_F hI 0 400 rfl e_109_109)); have a5 := in_u ((in_c (-1) rfl)); have a6 := in_u i60b; have a7 := in_u i60a; have a8 := in_u i50a; omega
          have n64e : (s.2.2.1 109 28).toInt = 0 → (s60.2.2.1 109 109).toInt + (s60.2.2.1 109 111).toInt = (s.2.2.1 109 109).toInt + (s.2.2.1 109 111).toInt := by have b0 : z60a = s60.2.2.1 109 109 := e60; have b1 : z60b = s60.2.2.1 109 111 := e60a; first | (rw [← b0, ← b1, ← e_109_28, ← e_109_109, ← e_109_111]; exact n64d) | (rw [← b0, ← b1]; exact n64d)
          have n64f : (u_109_28).toInt = 0 → 1 ≤ (z50a).toInt := by have a0 := in_u i36x1; have a1 := in_u ro_109_29; have a2 := in_u i29; have a3 := in_u ((inv_F hI 0 200 rfl e_109_111)); have a4 := in_u ((inv_F hI 0 400 rfl e_109_109)); have a5 := in_u ((in_c (-1) rfl)); have a6 := in_u i60b; have a7 := in_u i60a; have a8 := in_u i50a; omega
          have n64g : (s.2.2.1 109 28).toInt = 0 → 1 ≤ (s60.2.2.1 109 23).toInt := by have b0 : z50a = s60.2.2.1 109 23 := fr_F (fr_F (e50) hF56 rfl) hF60 rfl; rw [← b0, ← e_109_28]; exact n64f
          exact g_ireturn (gd rfl) rfl (nb01 (in_w 0 1 (in_c 1 rfl) rfl)) (hP _ _ ⟨s60, hI60, (fr_tr rfl (fr_tr rfl (fr_tr rfl fr_rf hF50) hF56) hF60), n64c, n64e, n64g, (Int32.ofInt 1), rfl, rfl, in_w 0 1 (in_c 1 rfl) rfl, n64, n64a⟩)
      · skip
        have i36x1 := sw_eq c36x1
        refine g_iconst (-1) 122 (gd rfl) rfl rfl ?_
        refine g_ireturn (gd rfl) rfl rfl (hp36 _ _ ?_)
        show GG _ _ _ _ _ _ _ _ [.int (Int32.ofInt (-1))] _ _ _
        refine g_istore_n 40 (gd rfl) rfl (Nat.le_of_ble_eq_true rfl) ?_
        refine g_iload_n 41 (gd rfl) rfl rfl ?_
        refine g_if_ge 44 53 (gd rfl) rfl rfl (fun c41 => ?_) (fun c41 => ?_)
        · skip
          exact zn_ge c41 (in_c (-1) rfl) rfl
        · skip
          refine g_aload_n 45 (gd rfl) rfl rfl ?_
          refine g_iconst 5 46 (gd rfl) rfl rfl ?_
          refine g_aload_n 47 (gd rfl) rfl rfl ?_
          refine g_getI 50 (gd rfl) rfl rfl rfl (fun z47 e47 => ?_)
          have q47 : u_109_29 = z47 := (e_109_29).trans e47.symm
          subst q47
          refine g_callv (X := _) (As := [.int (Int32.ofInt 5), .int u_109_29]) (r := []) (b := A 109) (q := 109) 53 (gd rfl) rfl rfl rfl rfl rfl (ww_o rfl) (Nat.le_of_ble_eq_true rfl) (Nat.zero_le _) (Nat.zero_le _) (k_298 (by first | exact dq1 hd rfl | exact dq0 hd rfl | exact dq2 hd rfl | exact dq3 hd rfl | omega) hI (in_w 1 5 (in_c 5 rfl) rfl)) (fun e u h => h) (fun v u h => ?_)
          obtain ⟨s50, hI50, hF50, n50, rfl, rfl⟩ := h
          obtain ⟨z50a, e50⟩ : ∃ w, w = s50.2.2.1 109 23 := ⟨_, rfl⟩
          have i50a := inv_F hI50 0 9 rfl e50
          rw [← (show z50a = s50.2.2.1 109 23 from e50)] at n50
          show GG _ _ _ _ _ _ _ _ [] _ _ _
          refine g_aload_n 54 (gd rfl) rfl rfl ?_
          refine g_iconst 1 55 (gd rfl) rfl rfl ?_
          refine g_iload_n 56 (gd rfl) rfl rfl ?_
          have v56 : u_109_109 = s50.2.2.1 109 109 := fr_F (e_109_109) hF50 rfl
          have n56 : (u_109_109).toInt ≤ 399 := by have a0 := in_u i36x1; have a1 := in_u ro_109_29; have a2 := in_u i29; have a3 := in_u ((inv_F hI 0 200 rfl e_109_111)); have a4 := in_u ((inv_F hI 0 400 rfl e_109_109)); have a5 := in_u ((in_c (-1) rfl)); have a6 := in_u i50a; omega
          refine g_callv (X := _) (As := [.int (Int32.ofInt 1), .int (Int32.ofInt (-1))]) (r := []) (b := A 109) (q := 109) 59 (gd rfl) rfl rfl rfl rfl rfl (ww_o rfl) (Nat.le_of_ble_eq_true rfl) (Nat.zero_le _) (Nat.zero_le _) (k_393 (by first | exact dq1 hd rfl | exact dq0 hd rfl | exact dq2 hd rfl | exact dq3 hd rfl | omega) hI50 v56 n56) (fun e u h => h) (fun v u h => ?_)
          obtain ⟨s56, hI56, hF56, n56a, rfl, rfl, p56, p56a⟩ := h
          obtain ⟨z56a, e56⟩ : ∃ w, w = s56.2.2.1 109 109 := ⟨_, rfl⟩
          have i56a := inv_F hI56 0 400 rfl e56
          rw [← (show u_109_109 = s50.2.2.1 109 109 from fr_F (e_109_109) hF50 rfl)] at n56a
          rw [← (show z56a = s56.2.2.1 109 109 from e56)] at n56a
          show GG _ _ _ _ _ _ _ _ [] _ _ _
          refine g_aload_n 60 (gd rfl) rfl rfl ?_
          have v60 : u_109_111 = s56.2.2.1 109 111 := fr_F (fr_F (e_109_111) hF50 rfl) hF56 rfl
          have n60 : (z56a).toInt + (u_109_111).toInt ≤ 120 := by have a0 := in_u i36x1; have a1 := in_u ro_109_29; have a2 := in_u i29; have a3 := in_u ((inv_F hI 0 200 rfl e_109_111)); have a4 := in_u ((inv_F hI 0 400 rfl e_109_109)); have a5 := in_u ((in_c (-1) rfl)); have a6 := in_u i56a; have a7 := in_u i50a; omega
          refine g_callv (X := _) (As := []) (r := []) (b := A 109) (q := 109) 63 (gd rfl) rfl rfl rfl rfl rfl (ww_o rfl) (Nat.le_of_ble_eq_true rfl) (Nat.zero_le _) (Nat.zero_le _) (k_400 (by first | exact dq1 hd rfl | exact dq0 hd rfl | exact dq2 hd rfl | exact dq3 hd rfl | omega) hI56 e56 v60 n60) (fun e u h => h) (fun v u h => ?_)
          obtain ⟨s60, hI60, hF60, n60a, rfl, rfl, p60⟩ := h
          obtain ⟨z60a, e60⟩ : ∃ w, w = s60.2.2.1 109 109 := ⟨_, rfl⟩
          have i60a := inv_F hI60 0 400 rfl e60
          obtain ⟨z60b, e60a⟩ : ∃ w, w = s60.2.2.1 109 111 := ⟨_, rfl⟩
          have i60b := inv_F hI60 0 200 rfl e60a
          rw [← (show z56a = s56.2.2.1 109 109 from e56)] at n60a
          rw [← (show u_109_111 = s56.2.2.1 109 111 from fr_F (fr_F (e_109_111) hF50 rfl) hF56 rfl)] at n60a
          rw [← (show z60a = s60.2.2.1 109 109 from e60)] at n60a
          rw [← (show z60b = s60.2.2.1 109 111 from e60a)] at n60a
          show GG _ _ _ _ _ _ _ _ [] _ _ _
          refine g_iconst 1 64 (gd rfl) rfl rfl ?_
          have n64 : ((Int32.ofInt 1)).toInt = 0 → PR s s60 0 0 := by intro hR; first | (exfalso; revert hR; decide) | exact pr_hold (hF140.1 187 rfl) (hF140.1 188 rfl) (hF140.2.2.1 109 109 rfl) (hF140.2.2.1 109 23 rfl) p140 (by rw [← e140, ← e_109_111]; exact n140a) (inv_F hI 0 200 rfl rfl).1 (Or.inl ⟨Or.inl rfl, rfl⟩) | exact pr_hold (hF140.1 187 rfl) (hF140.1 188 rfl) (hF140.2.2.1 109 109 rfl) (hF140.2.2.1 109 23 rfl) p140 (by rw [← e140, ← e_109_111]; exact n140a) (inv_F hI 0 200 rfl rfl).1 (Or.inl ⟨Or.inr rfl, rfl⟩) | exact pr_flt (hF97.1 187 rfl) (hF97.1 188 rfl) (hF97.2.2.1 109 109 rfl) (by rw [← e97]; omega) | exact pr_flt (hF118.1 187 rfl) (hF118.1 188 rfl) (hF118.2.2.1 109 109 rfl) (by rw [← e118]; omega)
          have n64a : ((Int32.ofInt 1)).toInt ≠ 0 → PR s s60 0 1 := by intro hR; first | (exact absurd rfl hR) | exact pr_tr (pr_val p15 p15a rfl (inv_F hI 0 400 rfl rfl).1 (by rw [← e15, ← e_109_109]; exact n15a) (hF15.2.2.1 109 23 rfl) (hF15.1 190 rfl) (hF15.2.2.1 109 111 rfl) (fun _ => Or.inl rfl)) p19 | exact pr_tr (pr_val p56 p56a rfl (inv_F hI 0 400 rfl rfl).1 (by rw [← e56, ← e_109_109]; exact n56a) (hF56.2.2.1 109 23 rfl) (hF56.1 190 rfl) (hF56.2.2.1 109 111 rfl) (fun _ => Or.inr ⟨rfl, by decide, by decide⟩)) p60 | exact pr_tr (pr_tr (b := 0) (pr_flt (hF50.1 187 rfl) (hF50.1 188 rfl) (hF50.2.2.1 109 109 rfl) (by rw [← e50]; omega)) (pr_val p56 p56a rfl (inv_F hI50 0 400 rfl rfl).1 (by rw [← e56, ← (show u_109_109 = s50.2.2.1 109 109 from fr_F e_109_109 hF50 rfl)]; exact n56a) (hF56.2.2.1 109 23 rfl) (hF56.1 190 rfl) (hF56.2.2.1 109 111 rfl) (fun h => absurd h (by rw [← e50]; omega)))) p60
          have n64b : (z60a).toInt + (z60b).toInt ≤ (u_109_109).toInt + (u_109_111).toInt + 1 := by have a0 := in_u i36x1; have a1 := in_u ro_109_29; have a2 := in_u i29; have a3 := in_u ((inv_F hI 0 200 rfl e_109_111)); have a4 := in_u ((inv_F hI 0 400 rfl e_109_109)); have a5 := in_u ((in_c (-1) rfl)); have a6 := in_u i60b; have a7 := in_u i60a; have a8 := in_u i50a; omega
          have n64c : (s60.2.2.1 109 109).toInt + (s60.2.2.1 109 111).toInt ≤ (s.2.2.1 109 109).toInt + (s.2.2.1 109 111).toInt + 1 := by have b0 : z60a = s60.2.2.1 109 109 := e60; have b1 : z60b = s60.2.2.1 109 111 := e60a; first | (rw [← b0, ← b1, ← e_109_109, ← e_109_111]; exact n64b) | (rw [← b0, ← b1]; exact n64b)
          have n64d : (u_109_28).toInt = 0 → (z60a).toInt + (z60b).toInt = (u_109_109).toInt + (u_109_111).toInt := by have a0 := in_u i36x1; have a1 := in_u ro_109_29; have a2 := in_u i29; have a3 := in_u ((inv_F hI 0 200 rfl e_109_111)); have a4 := in_u ((inv_F hI 0 400 rfl e_109_109)); have a5 := in_u ((in_c (-1) rfl)); have a6 := in_u i60b; have a7 := in_u i60a; have a8 := in_u i50a; omega
          have n64e : (s.2.2.1 109 28).toInt = 0 → (s60.2.2.1 109 109).toInt + (s60.2.2.1 109 111).toInt = (s.2.2.1 109 109).toInt + (s.2.2.1 109 111).toInt := by have b0 : z60a = s60.2.2.1 109 109 := e60; have b1 : z60b = s60.2.2.1 109 111 := e60a; first | (rw [← b0, ← b1, ← e_109_28, ← e_109_109, ← e_109_111]; exact n64d) | (rw [← b0, ← b1]; exact n64d)
          have n64f : (u_109_28).toInt = 0 → 1 ≤ (z50a).toInt := by have a0 := in_u i36x1; have a1 := in_u ro_109_29; have a2 := in_u i29; have a3 := in_u ((inv_F hI 0 200 rfl e_109_111)); have a4 := in_u ((inv_F hI 0 400 rfl e_109_109)); have a5 := in_u ((in_c (-1) rfl)); have a6 := in_u i60b; have a7 := in_u i60a; have a8 := in_u i50a; omega
          have n64g : (s.2.2.1 109 28).toInt = 0 → 1 ≤ (s60.2.2.1 109 23).toInt := by have b0 : z50a = s60.2.2.1 109 23 := fr_F (fr_F (e50) hF56 rfl) hF60 rfl; rw [← b0, ← e_109_28]; exact n64f
          exact g_ireturn (gd rfl) rfl (nb01 (in_w 0 1 (in_c 1 rfl) rfl)) (hP _ _ ⟨s60, hI60, (fr_tr rfl (fr_tr rfl (fr_tr rfl fr_rf hF50) hF56) hF60), n64c, n64e, n64g, (Int32.ofInt 1), rfl, rfl, in_w 0 1 (in_c 1 rfl) rfl, n64, n64a⟩)
      · skip
        have i36x1 := sw_eq c36x1
        refine g_iconst 5 111 (gd rfl) rfl rfl ?_
        refine g_ireturn (gd rfl) rfl rfl (hp36 _ _ ?_)
        show GG _ _ _ _ _ _ _ _ [.int (Int32.ofInt 5)] _ _ _
        refine g_istore_n 40 (gd rfl) rfl (Nat.le_of_ble_eq_true rfl) ?_
        refine g_iload_n 41 (gd rfl) rfl rfl ?_
        refine g_if_ge 44 53 (gd rfl) rfl rfl (fun c41 => ?_) (fun c41 => ?_)
        · skip
          refine g_aload_n 54 (gd rfl) rfl rfl ?_
          refine g_iconst 1 55 (gd rfl) rfl rfl ?_
          refine g_iload_n 56 (gd rfl) rfl rfl ?_
          have n56 : (u_109_109).toInt ≤ 399 := by have a0 := in_u i36x1; have a1 := in_u ro_109_29; have a2 := in_u i29; have a3 := in_u ((inv_F hI 0 200 rfl e_109_111)); have a4 := in_u ((inv_F hI 0 400 rfl e_109_109)); have a5 := in_u ((in_c 5 rfl)); omega
          refine g_callv (X := _) (As := [.int (Int32.ofInt 1), .int (Int32.ofInt 5)]) (r := []) (b := A 109) (q := 109) 59 (gd rfl) rfl rfl rfl rfl rfl (ww_o rfl) (Nat.le_of_ble_eq_true rfl) (Nat.zero_le _) (Nat.zero_le _) (k_393 (by first | exact dq1 hd rfl | exact dq0 hd rfl | exact dq2 hd rfl | exact dq3 hd rfl | omega) hI e_109_109 n56) (fun e u h => h) (fun v u h => ?_)
          obtain ⟨s56, hI56, hF56, n56a, rfl, rfl, p56, p56a⟩ := h
          obtain ⟨z56a, e56⟩ : ∃ w, w = s56.2.2.1 109 109 := ⟨_, rfl⟩
          have i56a := inv_F hI56 0 400 rfl e56
          rw [← (show u_109_109 = s.2.2.1 109 109 from e_109_109)] at n56a
          rw [← (show z56a = s56.2.2.1 109 109 from e56)] at n56a
          show GG _ _ _ _ _ _ _ _ [] _ _ _
          refine g_aload_n 60 (gd rfl) rfl rfl ?_
          have v60 : u_109_111 = s56.2.2.1 109 111 := fr_F (e_109_111) hF56 rfl
          have n60 : (z56a).toInt + (u_109_111).toInt ≤ 120 := by have a0 := in_u i36x1; have a1 := in_u ro_109_29; have a2 := in_u i29; have a3 := in_u ((inv_F hI 0 200 rfl e_109_111)); have a4 := in_u ((inv_F hI 0 400 rfl e_109_109)); have a5 := in_u ((in_c 5 rfl)); have a6 := in_u i56a; omega
          refine g_callv (X := _) (As := []) (r := []) (b := A 109) (q := 109) 63 (gd rfl) rfl rfl rfl rfl rfl (ww_o rfl) (Nat.le_of_ble_eq_true rfl) (Nat.zero_le _) (Nat.zero_le _) (k_400 (by first | exact dq1 hd rfl | exact dq0 hd rfl | exact dq2 hd rfl | exact dq3 hd rfl | omega) hI56 e56 v60 n60) (fun e u h => h) (fun v u h => ?_)
          obtain ⟨s60, hI60, hF60, n60a, rfl, rfl, p60⟩ := h
          obtain ⟨z60a, e60⟩ : ∃ w, w = s60.2.2.1 109 109 := ⟨_, rfl⟩
          have i60a := inv_F hI60 0 400 rfl e60
          obtain ⟨z60b, e60a⟩ : ∃ w, w = s60.2.2.1 109 111 := ⟨_, rfl⟩
          have i60b := inv_F hI60 0 200 rfl e60a
          rw [← (show z56a = s56.2.2.1 109 109 from e56)] at n60a
          rw [← (show u_109_111 = s56.2.2.1 109 111 from fr_F (e_109_111) hF56 rfl)] at n60a
          rw [← (show z60a = s60.2.2.1 109 109 from e60)] at n60a
          rw [← (show z60b = s60.2.2.1 109 111 from e60a)] at n60a
          show GG _ _ _ _ _ _ _ _ [] _ _ _
          refine g_iconst 1 64 (gd rfl) rfl rfl ?_
          have n64 : ((Int32.ofInt 1)).toInt = 0 → PR s s60 0 0 := by intro hR; first | (exfalso; revert hR; decide) | exact pr_hold (hF140.1 187 rfl) (hF140.1 188 rfl) (hF140.2.2.1 109 109 rfl) (hF140.2.2.1 109 23 rfl) p140 (by rw [← e140, ← e_109_111]; exact n140a) (inv_F hI 0 200 rfl rfl).1 (Or.inl ⟨Or.inl rfl, rfl⟩) | exact pr_hold (hF140.1 187 rfl) (hF140.1 188 rfl) (hF140.2.2.1 109 109 rfl) (hF140.2.2.1 109 23 rfl) p140 (by rw [← e140, ← e_109_111]; exact n140a) (inv_F hI 0 200 rfl rfl).1 (Or.inl ⟨Or.inr rfl, rfl⟩) | exact pr_flt (hF97.1 187 rfl) (hF97.1 188 rfl) (hF97.2.2.1 109 109 rfl) (by rw [← e97]; omega) | exact pr_flt (hF118.1 187 rfl) (hF118.1 188 rfl) (hF118.2.2.1 109 109 rfl) (by rw [← e118]; omega)
          have n64a : ((Int32.ofInt 1)).toInt ≠ 0 → PR s s60 0 1 := by intro hR; first | (exact absurd rfl hR) | exact pr_tr (pr_val p15 p15a rfl (inv_F hI 0 400 rfl rfl).1 (by rw [← e15, ← e_109_109]; exact n15a) (hF15.2.2.1 109 23 rfl) (hF15.1 190 rfl) (hF15.2.2.1 109 111 rfl) (fun _ => Or.inl rfl)) p19 | exact pr_tr (pr_val p56 p56a rfl (inv_F hI 0 400 rfl rfl).1 (by rw [← e56, ← e_109_109]; exact n56a) (hF56.2.2.1 109 23 rfl) (hF56.1 190 rfl) (hF56.2.2.1 109 111 rfl) (fun _ => Or.inr ⟨rfl, by decide, by decide⟩)) p60 | exact pr_tr (pr_tr (b := 0) (pr_flt (hF50.1 187 rfl) (hF50.1 188 rfl) (hF50.2.2.1 109 109 rfl) (by rw [← e50]; omega)) (pr_val p56 p56a rfl (inv_F hI50 0 400 rfl rfl).1 (by rw [← e56, ← (show u_109_109 = s50.2.2.1 109 109 from fr_F e_109_109 hF50 rfl)]; exact n56a) (hF56.2.2.1 109 23 rfl) (hF56.1 190 rfl) (hF56.2.2.1 109 111 rfl) (fun h => absurd h (by rw [← e50]; omega)))) p60
          have n64b : (z60a).toInt + (z60b).toInt ≤ (u_109_109).toInt + (u_109_111).toInt + 1 := by have a0 := in_u i36x1; have a1 := in_u ro_109_29; have a2 := in_u i29; have a3 := in_u ((inv_F hI 0 200 rfl e_109_111)); have a4 := in_u ((inv_F hI 0 400 rfl e_109_109)); have a5 := in_u ((in_c 5 rfl)); have a6 := in_u i60b; have a7 := in_u i60a; omega
          have n64c : (s60.2.2.1 109 109).toInt + (s60.2.2.1 109 111).toInt ≤ (s.2.2.1 109 109).toInt + (s.2.2.1 109 111).toInt + 1 := by have b0 : z60a = s60.2.2.1 109 109 := e60; have b1 : z60b = s60.2.2.1 109 111 := e60a; first | (rw [← b0, ← b1, ← e_109_109, ← e_109_111]; exact n64b) | (rw [← b0, ← b1]; exact n64b)
          have n64d : (u_109_28).toInt = 0 → (z60a).toInt + (z60b).toInt = (u_109_109).toInt + (u_109_111).toInt := by have a0 := in_u i36x1; have a1 := in_u ro_109_29; have a2 := in_u i29; have a3 := in_u ((inv_F hI 0 200 rfl e_109_111)); have a4 := in_u ((inv_F hI 0 400 rfl e_109_109)); have a5 := in_u ((in_c 5 rfl)); have a6 := in_u i60b; have a7 := in_u i60a; omega
          have n64e : (s.2.2.1 109 28).toInt = 0 → (s60.2.2.1 109 109).toInt + (s60.2.2.1 109 111).toInt = (s.2.2.1 109 109).toInt + (s.2.2.1 109 111).toInt := by have b0 : z60a = s60.2.2.1 109 109 := e60; have b1 : z60b = s60.2.2.1 109 111 := e60a; first | (rw [← b0, ← b1, ← e_109_28, ← e_109_109, ← e_109_111]; exact n64d) | (rw [← b0, ← b1]; exact n64d)
          have n64f : (u_109_28).toInt = 0 → 1 ≤ ((s60.2.2.1 109 23)).toInt := by have a0 := in_u i36x1; have a1 := in_u ro_109_29; have a2 := in_u i29; have a3 := in_u ((inv_F hI 0 200 rfl e_109_111)); have a4 := in_u ((inv_F hI 0 400 rfl e_109_109)); have a5 := in_u ((in_c 5 rfl)); have a6 := in_u i60b; have a7 := in_u i60a; have a8 := in_u ((show In (s60.2.2.1 109 23) 0 9 from inv_F hI60 0 9 rfl rfl)); omega
          have n64g : (s.2.2.1 109 28).toInt = 0 → 1 ≤ (s60.2.2.1 109 23).toInt := by rw [← e_109_28]; exact n64f
          exact g_ireturn (gd rfl) rfl (nb01 (in_w 0 1 (in_c 1 rfl) rfl)) (hP _ _ ⟨s60, hI60, (fr_tr rfl (fr_tr rfl fr_rf hF56) hF60), n64c, n64e, n64g, (Int32.ofInt 1), rfl, rfl, in_w 0 1 (in_c 1 rfl) rfl, n64, n64a⟩)
        · skip
          exact zn_lt c41 (in_c 5 rfl) rfl
      · skip
        have i36x1 := sw_eq c36x1
        refine g_bipush 6 114 (gd rfl) rfl rfl ?_
        refine g_ireturn (gd rfl) rfl rfl (hp36 _ _ ?_)
        show GG _ _ _ _ _ _ _ _ [.int (Int32.ofInt 6)] _ _ _
        refine g_istore_n 40 (gd rfl) rfl (Nat.le_of_ble_eq_true rfl) ?_
        refine g_iload_n 41 (gd rfl) rfl rfl ?_
        refine g_if_ge 44 53 (gd rfl) rfl rfl (fun c41 => ?_) (fun c41 => ?_)
        · skip
          refine g_aload_n 54 (gd rfl) rfl rfl ?_
          refine g_iconst 1 55 (gd rfl) rfl rfl ?_
          refine g_iload_n 56 (gd rfl) rfl rfl ?_
          have n56 : (u_109_109).toInt ≤ 399 := by have a0 := in_u i36x1; have a1 := in_u ro_109_29; have a2 := in_u i29; have a3 := in_u ((inv_F hI 0 200 rfl e_109_111)); have a4 := in_u ((inv_F hI 0 400 rfl e_109_109)); have a5 := in_u ((in_c 6 rfl)); omega
          refine g_callv (X := _) (As := [.int (Int32.ofInt 1), .int (Int32.ofInt 6)]) (r := []) (b := A 109) (q := 109) 59 (gd rfl) rfl rfl rfl rfl rfl (ww_o rfl) (Nat.le_of_ble_eq_true rfl) (Nat.zero_le _) (Nat.zero_le _) (k_393 (by first | exact dq1 hd rfl | exact dq0 hd rfl | exact dq2 hd rfl | exact dq3 hd rfl | omega) hI e_109_109 n56) (fun e u h => h) (fun v u h => ?_)
          obtain ⟨s56, hI56, hF56, n56a, rfl, rfl, p56, p56a⟩ := h
          obtain ⟨z56a, e56⟩ : ∃ w, w = s56.2.2.1 109 109 := ⟨_, rfl⟩
          have i56a := inv_F hI56 0 400 rfl e56
          rw [← (show u_109_109 = s.2.2.1 109 109 from e_109_109)] at n56a
          rw [← (show z56a = s56.2.2.1 109 109 from e56)] at n56a
          show GG _ _ _ _ _ _ _ _ [] _ _ _
          refine g_aload_n 60 (gd rfl) rfl rfl ?_
          have v60 : u_109_111 = s56.2.2.1 109 111 := fr_F (e_109_111) hF56 rfl
          have n60 : (z56a).toInt + (u_109_111).toInt ≤ 120 := by have a0 := in_u i36x1; have a1 := in_u ro_109_29; have a2 := in_u i29; have a3 := in_u ((inv_F hI 0 200 rfl e_109_111)); have a4 := in_u ((inv_F hI 0 400 rfl e_109_109)); have a5 := in_u ((in_c 6 rfl)); have a6 := in_u i56a; omega
          refine g_callv (X := _) (As := []) (r := []) (b := A 109) (q := 109) 63 (gd rfl) rfl rfl rfl rfl rfl (ww_o rfl) (Nat.le_of_ble_eq_true rfl) (Nat.zero_le _) (Nat.zero_le _) (k_400 (by first | exact dq1 hd rfl | exact dq0 hd rfl | exact dq2 hd rfl | exact dq3 hd rfl | omega) hI56 e56 v60 n60) (fun e u h => h) (fun v u h => ?_)
          obtain ⟨s60, hI60, hF60, n60a, rfl, rfl, p60⟩ := h
          obtain ⟨z60a, e60⟩ : ∃ w, w = s60.2.2.1 109 109 := ⟨_, rfl⟩
          have i60a := inv_F hI60 0 400 rfl e60
          obtain ⟨z60b, e60a⟩ : ∃ w, w = s60.2.2.1 109 111 := ⟨_, rfl⟩
          have i60b := inv_F hI60 0 200 rfl e60a
          rw [← (show z56a = s56.2.2.1 109 109 from e56)] at n60a
          rw [← (show u_109_111 = s56.2.2.1 109 111 from fr_F (e_109_111) hF56 rfl)] at n60a
          rw [← (show z60a = s60.2.2.1 109 109 from e60)] at n60a
          rw [← (show z60b = s60.2.2.1 109 111 from e60a)] at n60a
          show GG _ _ _ _ _ _ _ _ [] _ _ _
          refine g_iconst 1 64 (gd rfl) rfl rfl ?_
          have n64 : ((Int32.ofInt 1)).toInt = 0 → PR s s60 0 0 := by intro hR; first | (exfalso; revert hR; decide) | exact pr_hold (hF140.1 187 rfl) (hF140.1 188 rfl) (hF140.2.2.1 109 109 rfl) (hF140.2.2.1 109 23 rfl) p140 (by rw [← e140, ← e_109_111]; exact n140a) (inv_F hI 0 200 rfl rfl).1 (Or.inl ⟨Or.inl rfl, rfl⟩) | exact pr_hold (hF140.1 187 rfl) (hF140.1 188 rfl) (hF140.2.2.1 109 109 rfl) (hF140.2.2.1 109 23 rfl) p140 (by rw [← e140, ← e_109_111]; exact n140a) (inv_F hI 0 200 rfl rfl).1 (Or.inl ⟨Or.inr rfl, rfl⟩) | exact pr_flt (hF97.1 187 rfl) (hF97.1 188 rfl) (hF97.2.2.1 109 109 rfl) (by rw [← e97]; omega) | exact pr_flt (hF118.1 187 rfl) (hF118.1 188 rfl) (hF118.2.2.1 109 109 rfl) (by rw [← e118]; omega)
          have n64a : ((Int32.ofInt 1)).toInt ≠ 0 → PR s s60 0 1 := by intro hR; first | (exact absurd rfl hR) | exact pr_tr (pr_val p15 p15a rfl (inv_F hI 0 400 rfl rfl).1 (by rw [← e15, ← e_109_109]; exact n15a) (hF15.2.2.1 109 23 rfl) (hF15.1 190 rfl) (hF15.2.2.1 109 111 rfl) (fun _ => Or.inl rfl)) p19 | exact pr_tr (pr_val p56 p56a rfl (inv_F hI 0 400 rfl rfl).1 (by rw [← e56, ← e_109_109]; exact n56a) (hF56.2.2.1 109 23 rfl) (hF56.1 190 rfl) (hF56.2.2.1 109 111 rfl) (fun _ => Or.inr ⟨rfl, by decide, by decide⟩)) p60 | exact pr_tr (pr_tr (b := 0) (pr_flt (hF50.1 187 rfl) (hF50.1 188 rfl) (hF50.2.2.1 109 109 rfl) (by rw [← e50]; omega)) (pr_val p56 p56a rfl (inv_F hI50 0 400 rfl rfl).1 (by rw [← e56, ← (show u_109_109 = s50.2.2.1 109 109 from fr_F e_109_109 hF50 rfl)]; exact n56a) (hF56.2.2.1 109 23 rfl) (hF56.1 190 rfl) (hF56.2.2.1 109 111 rfl) (fun h => absurd h (by rw [← e50]; omega)))) p60
          have n64b : (z60a).toInt + (z60b).toInt ≤ (u_109_109).toInt + (u_109_111).toInt + 1 := by have a0 := in_u i36x1; have a1 := in_u ro_109_29; have a2 := in_u i29; have a3 := in_u ((inv_F hI 0 200 rfl e_109_111)); have a4 := in_u ((inv_F hI 0 400 rfl e_109_109)); have a5 := in_u ((in_c 6 rfl)); have a6 := in_u i60b; have a7 := in_u i60a; omega
          have n64c : (s60.2.2.1 109 109).toInt + (s60.2.2.1 109 111).toInt ≤ (s.2.2.1 109 109).toInt + (s.2.2.1 109 111).toInt + 1 := by have b0 : z60a = s60.2.2.1 109 109 := e60; have b1 : z60b = s60.2.2.1 109 111 := e60a; first | (rw [← b0, ← b1, ← e_109_109, ← e_109_111]; exact n64b) | (rw [← b0, ← b1]; exact n64b)
          have n64d : (u_109_28).toInt = 0 → (z60a).toInt + (z60b).toInt = (u_109_109).toInt + (u_109_111).toInt := by have a0 := in_u i36x1; have a1 := in_u ro_109_29; have a2 := in_u i29; have a3 := in_u ((inv_F hI 0 200 rfl e_109_111)); have a4 := in_u ((inv_F hI 0 400 rfl e_109_109)); have a5 := in_u ((in_c 6 rfl)); have a6 := in_u i60b; have a7 := in_u i60a; omega
          have n64e : (s.2.2.1 109 28).toInt = 0 → (s60.2.2.1 109 109).toInt + (s60.2.2.1 109 111).toInt = (s.2.2.1 109 109).toInt + (s.2.2.1 109 111).toInt := by have b0 : z60a = s60.2.2.1 109 109 := e60; have b1 : z60b = s60.2.2.1 109 111 := e60a; first | (rw [← b0, ← b1, ← e_109_28, ← e_109_109, ← e_109_111]; exact n64d) | (rw [← b0, ← b1]; exact n64d)
          have n64f : (u_109_28).toInt = 0 → 1 ≤ ((s60.2.2.1 109 23)).toInt := by have a0 := in_u i36x1; have a1 := in_u ro_109_29; have a2 := in_u i29; have a3 := in_u ((inv_F hI 0 200 rfl e_109_111)); have a4 := in_u ((inv_F hI 0 400 rfl e_109_109)); have a5 := in_u ((in_c 6 rfl)); have a6 := in_u i60b; have a7 := in_u i60a; have a8 := in_u ((show In (s60.2.2.1 109 23) 0 9 from inv_F hI60 0 9 rfl rfl)); omega
          have n64g : (s.2.2.1 109 28).toInt = 0 → 1 ≤ (s60.2.2.1 109 23).toInt := by rw [← e_109_28]; exact n64f
          exact g_ireturn (gd rfl) rfl (nb01 (in_w 0 1 (in_c 1 rfl) rfl)) (hP _ _ ⟨s60, hI60, (fr_tr rfl (fr_tr rfl fr_rf hF56) hF60), n64c, n64e, n64g, (Int32.ofInt 1), rfl, rfl, in_w 0 1 (in_c 1 rfl) rfl, n64, n64a⟩)
        · skip
          exact zn_lt c41 (in_c 6 rfl) rfl
      · skip
        have i36x1 := sw_eq c36x1
        refine g_iconst (-1) 122 (gd rfl) rfl rfl ?_
        refine g_ireturn (gd rfl) rfl rfl (hp36 _ _ ?_)
        show GG _ _ _ _ _ _ _ _ [.int (Int32.ofInt (-1))] _ _ _
        refine g_istore_n 40 (gd rfl) rfl (Nat.le_of_ble_eq_true rfl) ?_
        refine g_iload_n 41 (gd rfl) rfl rfl ?_
        refine g_if_ge 44 53 (gd rfl) rfl rfl (fun c41 => ?_) (fun c41 => ?_)
        · skip
          exact zn_ge c41 (in_c (-1) rfl) rfl
        · skip
          refine g_aload_n 45 (gd rfl) rfl rfl ?_
          refine g_iconst 5 46 (gd rfl) rfl rfl ?_
          refine g_aload_n 47 (gd rfl) rfl rfl ?_
          refine g_getI 50 (gd rfl) rfl rfl rfl (fun z47 e47 => ?_)
          have q47 : u_109_29 = z47 := (e_109_29).trans e47.symm
          subst q47
          refine g_callv (X := _) (As := [.int (Int32.ofInt 5), .int u_109_29]) (r := []) (b := A 109) (q := 109) 53 (gd rfl) rfl rfl rfl rfl rfl (ww_o rfl) (Nat.le_of_ble_eq_true rfl) (Nat.zero_le _) (Nat.zero_le _) (k_298 (by first | exact dq1 hd rfl | exact dq0 hd rfl | exact dq2 hd rfl | exact dq3 hd rfl | omega) hI (in_w 1 5 (in_c 5 rfl) rfl)) (fun e u h => h) (fun v u h => ?_)
          obtain ⟨s50, hI50, hF50, n50, rfl, rfl⟩ := h
          obtain ⟨z50a, e50⟩ : ∃ w, w = s50.2.2.1 109 23 := ⟨_, rfl⟩
          have i50a := inv_F hI50 0 9 rfl e50
          rw [← (show z50a = s50.2.2.1 109 23 from e50)] at n50
          show GG _ _ _ _ _ _ _ _ [] _ _ _
          refine g_aload_n 54 (gd rfl) rfl rfl ?_
          refine g_iconst 1 55 (gd rfl) rfl rfl ?_
          refine g_iload_n 56 (gd rfl) rfl rfl ?_
          have v56 : u_109_109 = s50.2.2.1 109 109 := fr_F (e_109_109) hF50 rfl
          have n56 : (u_109_109).toInt ≤ 399 := by have a0 := in_u i36x1; have a1 := in_u ro_109_29; have a2 := in_u i29; have a3 := in_u ((inv_F hI 0 200 rfl e_109_111)); have a4 := in_u ((inv_F hI 0 400 rfl e_109_109)); have a5 := in_u ((in_c (-1) rfl)); have a6 := in_u i50a; omega
          refine g_callv (X := _) (As := [.int (Int32.ofInt 1), .int (Int32.ofInt (-1))]) (r := []) (b := A 109) (q := 109) 59 (gd rfl) rfl rfl rfl rfl rfl (ww_o rfl) (Nat.le_of_ble_eq_true rfl) (Nat.zero_le _) (Nat.zero_le _) (k_393 (by first | exact dq1 hd rfl | exact dq0 hd rfl | exact dq2 hd rfl | exact dq3 hd rfl | omega) hI50 v56 n56) (fun e u h => h) (fun v u h => ?_)
          obtain ⟨s56, hI56, hF56, n56a, rfl, rfl, p56, p56a⟩ := h
          obtain ⟨z56a, e56⟩ : ∃ w, w = s56.2.2.1 109 109 := ⟨_, rfl⟩
          have i56a := inv_F hI56 0 400 rfl e56
          rw [← (show u_109_109 = s50.2.2.1 109 109 from fr_F (e_109_109) hF50 rfl)] at n56a
          rw [← (show z56a = s56.2.2.1 109 109 from e56)] at n56a
          show GG _ _ _ _ _ _ _ _ [] _ _ _
          refine g_aload_n 60 (gd rfl) rfl rfl ?_
          have v60 : u_109_111 = s56.2.2.1 109 111 := fr_F (fr_F (e_109_111) hF50 rfl) hF56 rfl
          have n60 : (z56a).toInt + (u_109_111).toInt ≤ 120 := by have a0 := in_u i36x1; have a1 := in_u ro_109_29; have a2 := in_u i29; have a3 := in_u ((inv_F hI 0 200 rfl e_109_111)); have a4 := in_u ((inv_F hI 0 400 rfl e_109_109)); have a5 := in_u ((in_c (-1) rfl)); have a6 := in_u i56a; have a7 := in_u i50a; omega
          refine g_callv (X := _) (As := []) (r := []) (b := A 109) (q := 109) 63 (gd rfl) rfl rfl rfl rfl rfl (ww_o rfl) (Nat.le_of_ble_eq_true rfl) (Nat.zero_le _) (Nat.zero_le _) (k_400 (by first | exact dq1 hd rfl | exact dq0 hd rfl | exact dq2 hd rfl | exact dq3 hd rfl | omega) hI56 e56 v60 n60) (fun e u h => h) (fun v u h => ?_)
          obtain ⟨s60, hI60, hF60, n60a, rfl, rfl, p60⟩ := h
          obtain ⟨z60a, e60⟩ : ∃ w, w = s60.2.2.1 109 109 := ⟨_, rfl⟩
          have i60a := inv_F hI60 0 400 rfl e60
          obtain ⟨z60b, e60a⟩ : ∃ w, w = s60.2.2.1 109 111 := ⟨_, rfl⟩
          have i60b := inv_F hI60 0 200 rfl e60a
          rw [← (show z56a = s56.2.2.1 109 109 from e56)] at n60a
          rw [← (show u_109_111 = s56.2.2.1 109 111 from fr_F (fr_F (e_109_111) hF50 rfl) hF56 rfl)] at n60a
          rw [← (show z60a = s60.2.2.1 109 109 from e60)] at n60a
          rw [← (show z60b = s60.2.2.1 109 111 from e60a)] at n60a
          show GG _ _ _ _ _ _ _ _ [] _ _ _
          refine g_iconst 1 64 (gd rfl) rfl rfl ?_
          have n64 : ((Int32.ofInt 1)).toInt = 0 → PR s s60 0 0 := by intro hR; first | (exfalso; revert hR; decide) | exact pr_hold (hF140.1 187 rfl) (hF140.1 188 rfl) (hF140.2.2.1 109 109 rfl) (hF140.2.2.1 109 23 rfl) p140 (by rw [← e140, ← e_109_111]; exact n140a) (inv_F hI 0 200 rfl rfl).1 (Or.inl ⟨Or.inl rfl, rfl⟩) | exact pr_hold (hF140.1 187 rfl) (hF140.1 188 rfl) (hF140.2.2.1 109 109 rfl) (hF140.2.2.1 109 23 rfl) p140 (by rw [← e140, ← e_109_111]; exact n140a) (inv_F hI 0 200 rfl rfl).1 (Or.inl ⟨Or.inr rfl, rfl⟩) | exact pr_flt (hF97.1 187 rfl) (hF97.1 188 rfl) (hF97.2.2.1 109 109 rfl) (by rw [← e97]; omega) | exact pr_flt (hF118.1 187 rfl) (hF118.1 188 rfl) (hF118.2.2.1 109 109 rfl) (by rw [← e118]; omega)
          have n64a : ((Int32.ofInt 1)).toInt ≠ 0 → PR s s60 0 1 := by intro hR; first | (exact absurd rfl hR) | exact pr_tr (pr_val p15 p15a rfl (inv_F hI 0 400 rfl rfl).1 (by rw [← e15, ← e_109_109]; exact n15a) (hF15.2.2.1 109 23 rfl) (hF15.1 190 rfl) (hF15.2.2.1 109 111 rfl) (fun _ => Or.inl rfl)) p19 | exact pr_tr (pr_val p56 p56a rfl (inv_F hI 0 400 rfl rfl).1 (by rw [← e56, ← e_109_109]; exact n56a) (hF56.2.2.1 109 23 rfl) (hF56.1 190 rfl) (hF56.2.2.1 109 111 rfl) (fun _ => Or.inr ⟨rfl, by decide, by decide⟩)) p60 | exact pr_tr (pr_tr (b := 0) (pr_flt (hF50.1 187 rfl) (hF50.1 188 rfl) (hF50.2.2.1 109 109 rfl) (by rw [← e50]; omega)) (pr_val p56 p56a rfl (inv_F hI50 0 400 rfl rfl).1 (by rw [← e56, ← (show u_109_109 = s50.2.2.1 109 109 from fr_F e_109_109 hF50 rfl)]; exact n56a) (hF56.2.2.1 109 23 rfl) (hF56.1 190 rfl) (hF56.2.2.1 109 111 rfl) (fun h => absurd h (by rw [← e50]; omega)))) p60
          have n64b : (z60a).toInt + (z60b).toInt ≤ (u_109_109).toInt + (u_109_111).toInt + 1 := by have a0 := in_u i36x1; have a1 := in_u ro_109_29; have a2 := in_u i29; have a3 := in_u ((inv_F hI 0 200 rfl e_109_111)); have a4 := in_u ((inv_F hI 0 400 rfl e_109_109)); have a5 := in_u ((in_c (-1) rfl)); have a6 := in_u i60b; have a7 := in_u i60a; have a8 := in_u i50a; omega
          have n64c : (s60.2.2.1 109 109).toInt + (s60.2.2.1 109 111).toInt ≤ (s.2.2.1 109 109).toInt + (s.2.2.1 109 111).toInt + 1 := by have b0 : z60a = s60.2.2.1 109 109 := e60; have b1 : z60b = s60.2.2.1 109 111 := e60a; first | (rw [← b0, ← b1, ← e_109_109, ← e_109_111]; exact n64b) | (rw [← b0, ← b1]; exact n64b)
          have n64d : (u_109_28).toInt = 0 → (z60a).toInt + (z60b).toInt = (u_109_109).toInt + (u_109_111).toInt := by have a0 := in_u i36x1; have a1 := in_u ro_109_29; have a2 := in_u i29; have a3 := in_u ((inv_F hI 0 200 rfl e_109_111)); have a4 := in_u ((inv_F hI 0 400 rfl e_109_109)); have a5 := in_u ((in_c (-1) rfl)); have a6 := in_u i60b; have a7 := in_u i60a; have a8 := in_u i50a; omega
          have n64e : (s.2.2.1 109 28).toInt = 0 → (s60.2.2.1 109 109).toInt + (s60.2.2.1 109 111).toInt = (s.2.2.1 109 109).toInt + (s.2.2.1 109 111).toInt := by have b0 : z60a = s60.2.2.1 109 109 := e60; have b1 : z60b = s60.2.2.1 109 111 := e60a; first | (rw [← b0, ← b1, ← e_109_28, ← e_109_109, ← e_109_111]; exact n64d) | (rw [← b0, ← b1]; exact n64d)
          have n64f : (u_109_28).toInt = 0 → 1 ≤ (z50a).toInt := by have a0 := in_u i36x1; have a1 := in_u ro_109_29; have a2 := in_u i29; have a3 := in_u ((inv_F hI 0 200 rfl e_109_111)); have a4 := in_u ((inv_F hI 0 400 rfl e_109_109)); have a5 := in_u ((in_c (-1) rfl)); have a6 := in_u i60b; have a7 := in_u i60a; have a8 := in_u i50a; omega
          have n64g : (s.2.2.1 109 28).toInt = 0 → 1 ≤ (s60.2.2.1 109 23).toInt := by have b0 : z50a = s60.2.2.1 109 23 := fr_F (fr_F (e50) hF56 rfl) hF60 rfl; rw [← b0, ← e_109_28]; exact n64f
          exact g_ireturn (gd rfl) rfl (nb01 (in_w 0 1 (in_c 1 rfl) rfl)) (hP _ _ ⟨s60, hI60, (fr_tr rfl (fr_tr rfl (fr_tr rfl fr_rf hF50) hF56) hF60), n64c, n64e, n64g, (Int32.ofInt 1), rfl, rfl, in_w 0 1 (in_c 1 rfl) rfl, n64, n64a⟩)
      · skip
        have i36x1 := sw_eq c36x1
        refine g_iconst (-1) 122 (gd rfl) rfl rfl ?_
        refine g_ireturn (gd rfl) rfl rfl (hp36 _ _ ?_)
        show GG _ _ _ _ _ _ _ _ [.int (Int32.ofInt (-1))] _ _ _
        refine g_istore_n 40 (gd rfl) rfl (Nat.le_of_ble_eq_true rfl) ?_
        refine g_iload_n 41 (gd rfl) rfl rfl ?_
        refine g_if_ge 44 53 (gd rfl) rfl rfl (fun c41 => ?_) (fun c41 => ?_)
        · skip
          exact zn_ge c41 (in_c (-1) rfl) rfl
        · skip
          refine g_aload_n 45 (gd rfl) rfl rfl ?_
          refine g_iconst 5 46 (gd rfl) rfl rfl ?_
          refine g_aload_n 47 (gd rfl) rfl rfl ?_
          refine g_getI 50 (gd rfl) rfl rfl rfl (fun z47 e47 => ?_)
          have q47 : u_109_29 = z47 := (e_109_29).trans e47.symm
          subst q47
          refine g_callv (X := _) (As := [.int (Int32.ofInt 5), .int u_109_29]) (r := []) (b := A 109) (q := 109) 53 (gd rfl) rfl rfl rfl rfl rfl (ww_o rfl) (Nat.le_of_ble_eq_true rfl) (Nat.zero_le _) (Nat.zero_le _) (k_298 (by first | exact dq1 hd rfl | exact dq0 hd rfl | exact dq2 hd rfl | exact dq3 hd rfl | omega) hI (in_w 1 5 (in_c 5 rfl) rfl)) (fun e u h => h) (fun v u h => ?_)
          obtain ⟨s50, hI50, hF50, n50, rfl, rfl⟩ := h
          obtain ⟨z50a, e50⟩ : ∃ w, w = s50.2.2.1 109 23 := ⟨_, rfl⟩
          have i50a := inv_F hI50 0 9 rfl e50
          rw [← (show z50a = s50.2.2.1 109 23 from e50)] at n50
          show GG _ _ _ _ _ _ _ _ [] _ _ _
          refine g_aload_n 54 (gd rfl) rfl rfl ?_
          refine g_iconst 1 55 (gd rfl) rfl rfl ?_
          refine g_iload_n 56 (gd rfl) rfl rfl ?_
          have v56 : u_109_109 = s50.2.2.1 109 109 := fr_F (e_109_109) hF50 rfl
          have n56 : (u_109_109).toInt ≤ 399 := by have a0 := in_u i36x1; have a1 := in_u ro_109_29; have a2 := in_u i29; have a3 := in_u ((inv_F hI 0 200 rfl e_109_111)); have a4 := in_u ((inv_F hI 0 400 rfl e_109_109)); have a5 := in_u ((in_c (-1) rfl)); have a6 := in_u i50a; omega
          refine g_callv (X := _) (As := [.int (Int32.ofInt 1), .int (Int32.ofInt (-1))]) (r := []) (b := A 109) (q := 109) 59 (gd rfl) rfl rfl rfl rfl rfl (ww_o rfl) (Nat.le_of_ble_eq_true rfl) (Nat.zero_le _) (Nat.zero_le _) (k_393 (by first | exact dq1 hd rfl | exact dq0 hd rfl | exact dq2 hd rfl | exact dq3 hd rfl | omega) hI50 v56 n56) (fun e u h => h) (fun v u h => ?_)
          obtain ⟨s56, hI56, hF56, n56a, rfl, rfl, p56, p56a⟩ := h
          obtain ⟨z56a, e56⟩ : ∃ w, w = s56.2.2.1 109 109 := ⟨_, rfl⟩
          have i56a := inv_F hI56 0 400 rfl e56
          rw [← (show u_109_109 = s50.2.2.1 109 109 from fr_F (e_109_109) hF50 rfl)] at n56a
          rw [← (show z56a = s56.2.2.1 109 109 from e56)] at n56a
          show GG _ _ _ _ _ _ _ _ [] _ _ _
          refine g_aload_n 60 (gd rfl) rfl rfl ?_
          have v60 : u_109_111 = s56.2.2.1 109 111 := fr_F (fr_F (e_109_111) hF50 rfl) hF56 rfl
          have n60 : (z56a).toInt + (u_109_111).toInt ≤ 120 := by have a0 := in_u i36x1; have a1 := in_u ro_109_29; have a2 := in_u i29; have a3 := in_u ((inv_F hI 0 200 rfl e_109_111)); have a4 := in_u ((inv_F hI 0 400 rfl e_109_109)); have a5 := in_u ((in_c (-1) rfl)); have a6 := in_u i56a; have a7 := in_u i50a; omega
          refine g_callv (X := _) (As := []) (r := []) (b := A 109) (q := 109) 63 (gd rfl) rfl rfl rfl rfl rfl (ww_o rfl) (Nat.le_of_ble_eq_true rfl) (Nat.zero_le _) (Nat.zero_le _) (k_400 (by first | exact dq1 hd rfl | exact dq0 hd rfl | exact dq2 hd rfl | exact dq3 hd rfl | omega) hI56 e56 v60 n60) (fun e u h => h) (fun v u h => ?_)
          obtain ⟨s60, hI60, hF60, n60a, rfl, rfl, p60⟩ := h
          obtain ⟨z60a, e60⟩ : ∃ w, w = s60.2.2.1 109 109 := ⟨_, rfl⟩
          have i60a := inv_F hI60 0 400 rfl e60
          obtain ⟨z60b, e60a⟩ : ∃ w, w = s60.2.2.1 109 111 := ⟨_, rfl⟩
          have i60b := inv_F hI60 0 200 rfl e60a
          rw [← (show z56a = s56.2.2.1 109 109 from e56)] at n60a
          rw [← (show u_109_111 = s56.2.2.1 109 111 from fr_F (fr_F (e_109_111) hF50 rfl) hF56 rfl)] at n60a
          rw [← (show z60a = s60.2.2.1 109 109 from e60)] at n60a
          rw [← (show z60b = s60.2.2.1 109 111 from e60a)] at n60a
          show GG _ _ _ _ _ _ _ _ [] _ _ _
          refine g_iconst 1 64 (gd rfl) rfl rfl ?_
          have n64 : ((Int32.ofInt 1)).toInt = 0 → PR s s60 0 0 := by intro hR; first | (exfalso; revert hR; decide) | exact pr_hold (hF140.1 187 rfl) (hF140.1 188 rfl) (hF140.2.2.1 109 109 rfl) (hF140.2.2.1 109 23 rfl) p140 (by rw [← e140, ← e_109_111]; exact n140a) (inv_F hI 0 200 rfl rfl).1 (Or.inl ⟨Or.inl rfl, rfl⟩) | exact pr_hold (hF140.1 187 rfl) (hF140.1 188 rfl) (hF140.2.2.1 109 109 rfl) (hF140.2.2.1 109 23 rfl) p140 (by rw [← e140, ← e_109_111]; exact n140a) (inv_F hI 0 200 rfl rfl).1 (Or.inl ⟨Or.inr rfl, rfl⟩) | exact pr_flt (hF97.1 187 rfl) (hF97.1 188 rfl) (hF97.2.2.1 109 109 rfl) (by rw [← e97]; omega) | exact pr_flt (hF118.1 187 rfl) (hF118.1 188 rfl) (hF118.2.2.1 109 109 rfl) (by rw [← e118]; omega)
          have n64a : ((Int32.ofInt 1)).toInt ≠ 0 → PR s s60 0 1 := by intro hR; first | (exact absurd rfl hR) | exact pr_tr (pr_val p15 p15a rfl (inv_F hI 0 400 rfl rfl).1 (by rw [← e15, ← e_109_109]; exact n15a) (hF15.2.2.1 109 23 rfl) (hF15.1 190 rfl) (hF15.2.2.1 109 111 rfl) (fun _ => Or.inl rfl)) p19 | exact pr_tr (pr_val p56 p56a rfl (inv_F hI 0 400 rfl rfl).1 (by rw [← e56, ← e_109_109]; exact n56a) (hF56.2.2.1 109 23 rfl) (hF56.1 190 rfl) (hF56.2.2.1 109 111 rfl) (fun _ => Or.inr ⟨rfl, by decide, by decide⟩)) p60 | exact pr_tr (pr_tr (b := 0) (pr_flt (hF50.1 187 rfl) (hF50.1 188 rfl) (hF50.2.2.1 109 109 rfl) (by rw [← e50]; omega)) (pr_val p56 p56a rfl (inv_F hI50 0 400 rfl rfl).1 (by rw [← e56, ← (show u_109_109 = s50.2.2.1 109 109 from fr_F e_109_109 hF50 rfl)]; exact n56a) (hF56.2.2.1 109 23 rfl) (hF56.1 190 rfl) (hF56.2.2.1 109 111 rfl) (fun h => absurd h (by rw [← e50]; omega)))) p60
          have n64b : (z60a).toInt + (z60b).toInt ≤ (u_109_109).toInt + (u_109_111).toInt + 1 := by have a0 := in_u i36x1; have a1 := in_u ro_109_29; have a2 := in_u i29; have a3 := in_u ((inv_F hI 0 200 rfl e_109_111)); have a4 := in_u ((inv_F hI 0 400 rfl e_109_109)); have a5 := in_u ((in_c (-1) rfl)); have a6 := in_u i60b; have a7 := in_u i60a; have a8 := in_u i50a; omega
          have n64c : (s60.2.2.1 109 109).toInt + (s60.2.2.1 109 111).toInt ≤ (s.2.2.1 109 109).toInt + (s.2.2.1 109 111).toInt + 1 := by have b0 : z60a = s60.2.2.1 109 109 := e60; have b1 : z60b = s60.2.2.1 109 111 := e60a; first | (rw [← b0, ← b1, ← e_109_109, ← e_109_111]; exact n64b) | (rw [← b0, ← b1]; exact n64b)
          have n64d : (u_109_28).toInt = 0 → (z60a).toInt + (z60b).toInt = (u_109_109).toInt + (u_109_111).toInt := by have a0 := in_u i36x1; have a1 := in_u ro_109_29; have a2 := in_u i29; have a3 := in_u ((inv_F hI 0 200 rfl e_109_111)); have a4 := in_u ((inv_F hI 0 400 rfl e_109_109)); have a5 := in_u ((in_c (-1) rfl)); have a6 := in_u i60b; have a7 := in_u i60a; have a8 := in_u i50a; omega
          have n64e : (s.2.2.1 109 28).toInt = 0 → (s60.2.2.1 109 109).toInt + (s60.2.2.1 109 111).toInt = (s.2.2.1 109 109).toInt + (s.2.2.1 109 111).toInt := by have b0 : z60a = s60.2.2.1 109 109 := e60; have b1 : z60b = s60.2.2.1 109 111 := e60a; first | (rw [← b0, ← b1, ← e_109_28, ← e_109_109, ← e_109_111]; exact n64d) | (rw [← b0, ← b1]; exact n64d)
          have n64f : (u_109_28).toInt = 0 → 1 ≤ (z50a).toInt := by have a0 := in_u i36x1; have a1 := in_u ro_109_29; have a2 := in_u i29; have a3 := in_u ((inv_F hI 0 200 rfl e_109_111)); have a4 := in_u ((inv_F hI 0 400 rfl e_109_109)); have a5 := in_u ((in_c (-1) rfl)); have a6 := in_u i60b; have a7 := in_u i60a; have a8 := in_u i50a; omega
          have n64g : (s.2.2.1 109 28).toInt = 0 → 1 ≤ (s60.2.2.1 109 23).toInt := by have b0 : z50a = s60.2.2.1 109 23 := fr_F (fr_F (e50) hF56 rfl) hF60 rfl; rw [← b0, ← e_109_28]; exact n64f
          exact g_ireturn (gd rfl) rfl (nb01 (in_w 0 1 (in_c 1 rfl) rfl)) (hP _ _ ⟨s60, hI60, (fr_tr rfl (fr_tr rfl (fr_tr rfl fr_rf hF50) hF56) hF60), n64c, n64e, n64g, (Int32.ofInt 1), rfl, rfl, in_w 0 1 (in_c 1 rfl) rfl, n64, n64a⟩)
      · skip
        have i36x1 := sw_eq c36x1
        refine g_iconst (-1) 122 (gd rfl) rfl rfl ?_
        refine g_ireturn (gd rfl) rfl rfl (hp36 _ _ ?_)
        show GG _ _ _ _ _ _ _ _ [.int (Int32.ofInt (-1))] _ _ _
        refine g_istore_n 40 (gd rfl) rfl (Nat.le_of_ble_eq_true rfl) ?_
        refine g_iload_n 41 (gd rfl) rfl rfl ?_
        refine g_if_ge 44 53 (gd rfl) rfl rfl (fun c41 => ?_) (fun c41 => ?_)
        · skip
          exact zn_ge c41 (in_c (-1) rfl) rfl
        · skip
          refine g_aload_n 45 (gd rfl) rfl rfl ?_
          refine g_iconst 5 46 (gd rfl) rfl rfl ?_
          refine g_aload_n 47 (gd rfl) rfl rfl ?_
          refine g_getI 50 (gd rfl) rfl rfl rfl (fun z47 e47 => ?_)
          have q47 : u_109_29 = z47 := (e_109_29).trans e47.symm
          subst q47
          refine g_callv (X := _) (As := [.int (Int32.ofInt 5), .int u_109_29]) (r := []) (b := A 109) (q := 109) 53 (gd rfl) rfl rfl rfl rfl rfl (ww_o rfl) (Nat.le_of_ble_eq_true rfl) (Nat.zero_le _) (Nat.zero_le _) (k_298 (by first | exact dq1 hd rfl | exact dq0 hd rfl | exact dq2 hd rfl | exact dq3 hd rfl | omega) hI (in_w 1 5 (in_c 5 rfl) rfl)) (fun e u h => h) (fun v u h => ?_)
          obtain ⟨s50, hI50, hF50, n50, rfl, rfl⟩ := h
          obtain ⟨z50a, e50⟩ : ∃ w, w = s50.2.2.1 109 23 := ⟨_, rfl⟩
          have i50a := inv_F hI50 0 9 rfl e50
          rw [← (show z50a = s50.2.2.1 109 23 from e50)] at n50
          show GG _ _ _ _ _ _ _ _ [] _ _ _
          refine g_aload_n 54 (gd rfl) rfl rfl ?_
          refine g_iconst 1 55 (gd rfl) rfl rfl ?_
          refine g_iload_n 56 (gd rfl) rfl rfl ?_
          have v56 : u_109_109 = s50.2.2.1 109 109 := fr_F (e_109_109) hF50 rfl
          have n56 : (u_109_109).toInt ≤ 399 := by have a0 := in_u i36x1; have a1 := in_u ro_109_29; have a2 := in_u i29; have a3 := in_u ((inv_F hI 0 200 rfl e_109_111)); have a4 := in_u ((inv_F hI 0 400 rfl e_109_109)); have a5 := in_u ((in_c (-1) rfl)); have a6 := in_u i50a; omega
          refine g_callv (X := _) (As := [.int (Int32.ofInt 1), .int (Int32.ofInt (-1))]) (r := []) (b := A 109) (q := 109) 59 (gd rfl) rfl rfl rfl rfl rfl (ww_o rfl) (Nat.le_of_ble_eq_true rfl) (Nat.zero_le _) (Nat.zero_le _) (k_393 (by first | exact dq1 hd rfl | exact dq0 hd rfl | exact dq2 hd rfl | exact dq3 hd rfl | omega) hI50 v56 n56) (fun e u h => h) (fun v u h => ?_)
          obtain ⟨s56, hI56, hF56, n56a, rfl, rfl, p56, p56a⟩ := h
          obtain ⟨z56a, e56⟩ : ∃ w, w = s56.2.2.1 109 109 := ⟨_, rfl⟩
          have i56a := inv_F hI56 0 400 rfl e56
          rw [← (show u_109_109 = s50.2.2.1 109 109 from fr_F (e_109_109) hF50 rfl)] at n56a
          rw [← (show z56a = s56.2.2.1 109 109 from e56)] at n56a
          show GG _ _ _ _ _ _ _ _ [] _ _ _
          refine g_aload_n 60 (gd rfl) rfl rfl ?_
          have v60 : u_109_111 = s56.2.2.1 109 111 := fr_F (fr_F (e_109_111) hF50 rfl) hF56 rfl
          have n60 : (z56a).toInt + (u_109_111).toInt ≤ 120 := by have a0 := in_u i36x1; have a1 := in_u ro_109_29; have a2 := in_u i29; have a3 := in_u ((inv_F hI 0 200 rfl e_109_111)); have a4 := in_u ((inv_F hI 0 400 rfl e_109_109)); have a5 := in_u ((in_c (-1) rfl)); have a6 := in_u i56a; have a7 := in_u i50a; omega
          refine g_callv (X := _) (As := []) (r := []) (b := A 109) (q := 109) 63 (gd rfl) rfl rfl rfl rfl rfl (ww_o rfl) (Nat.le_of_ble_eq_true rfl) (Nat.zero_le _) (Nat.zero_le _) (k_400 (by first | exact dq1 hd rfl | exact dq0 hd rfl | exact dq2 hd rfl | exact dq3 hd rfl | omega) hI56 e56 v60 n60) (fun e u h => h) (fun v u h => ?_)
          obtain ⟨s60, hI60, hF60, n60a, rfl, rfl, p60⟩ := h
          obtain ⟨z60a, e60⟩ : ∃ w, w = s60.2.2.1 109 109 := ⟨_, rfl⟩
          have i60a := inv_F hI60 0 400 rfl e60
          obtain ⟨z60b, e60a⟩ : ∃ w, w = s60.2.2.1 109 111 := ⟨_, rfl⟩
          have i60b := inv_F hI60 0 200 rfl e60a
          rw [← (show z56a = s56.2.2.1 109 109 from e56)] at n60a
          rw [← (show u_109_111 = s56.2.2.1 109 111 from fr_F (fr_F (e_109_111) hF50 rfl) hF56 rfl)] at n60a
          rw [← (show z60a = s60.2.2.1 109 109 from e60)] at n60a
          rw [← (show z60b = s60.2.2.1 109 111 from e60a)] at n60a
          show GG _ _ _ _ _ _ _ _ [] _ _ _
          refine g_iconst 1 64 (gd rfl) rfl rfl ?_
          have n64 : ((Int32.ofInt 1)).toInt = 0 → PR s s60 0 0 := by intro hR; first | (exfalso; revert hR; decide) | exact pr_hold (hF140.1 187 rfl) (hF140.1 188 rfl) (hF140.2.2.1 109 109 rfl) (hF140.2.2.1 109 23 rfl) p140 (by rw [← e140, ← e_109_111]; exact n140a) (inv_F hI 0 200 rfl rfl).1 (Or.inl ⟨Or.inl rfl, rfl⟩) | exact pr_hold (hF140.1 187 rfl) (hF140.1 188 rfl) (hF140.2.2.1 109 109 rfl) (hF140.2.2.1 109 23 rfl) p140 (by rw [← e140, ← e_109_111]; exact n140a) (inv_F hI 0 200 rfl rfl).1 (Or.inl ⟨Or.inr rfl, rfl⟩) | exact pr_flt (hF97.1 187 rfl) (hF97.1 188 rfl) (hF97.2.2.1 109 109 rfl) (by rw [← e97]; omega) | exact pr_flt (hF118.1 187 rfl) (hF118.1 188 rfl) (hF118.2.2.1 109 109 rfl) (by rw [← e118]; omega)
          have n64a : ((Int32.ofInt 1)).toInt ≠ 0 → PR s s60 0 1 := by intro hR; first | (exact absurd rfl hR) | exact pr_tr (pr_val p15 p15a rfl (inv_F hI 0 400 rfl rfl).1 (by rw [← e15, ← e_109_109]; exact n15a) (hF15.2.2.1 109 23 rfl) (hF15.1 190 rfl) (hF15.2.2.1 109 111 rfl) (fun _ => Or.inl rfl)) p19 | exact pr_tr (pr_val p56 p56a rfl (inv_F hI 0 400 rfl rfl).1 (by rw [← e56, ← e_109_109]; exact n56a) (hF56.2.2.1 109 23 rfl) (hF56.1 190 rfl) (hF56.2.2.1 109 111 rfl) (fun _ => Or.inr ⟨rfl, by decide, by decide⟩)) p60 | exact pr_tr (pr_tr (b := 0) (pr_flt (hF50.1 187 rfl) (hF50.1 188 rfl) (hF50.2.2.1 109 109 rfl) (by rw [← e50]; omega)) (pr_val p56 p56a rfl (inv_F hI50 0 400 rfl rfl).1 (by rw [← e56, ← (show u_109_109 = s50.2.2.1 109 109 from fr_F e_109_109 hF50 rfl)]; exact n56a) (hF56.2.2.1 109 23 rfl) (hF56.1 190 rfl) (hF56.2.2.1 109 111 rfl) (fun h => absurd h (by rw [← e50]; omega)))) p60
          have n64b : (z60a).toInt + (z60b).toInt ≤ (u_109_109).toInt + (u_109_111).toInt + 1 := by have a0 := in_u i36x1; have a1 := in_u ro_109_29; have a2 := in_u i29; have a3 := in_u ((inv_F hI 0 200 rfl e_109_111)); have a4 := in_u ((inv_F hI 0 400 rfl e_109_109)); have a5 := in_u ((in_c (-1) rfl)); have a6 := in_u i60b; have a7 := in_u i60a; have a8 := in_u i50a; omega
          have n64c : (s60.2.2.1 109 109).toInt + (s60.2.2.1 109 111).toInt ≤ (s.2.2.1 109 109).toInt + (s.2.2.1 109 111).toInt + 1 := by have b0 : z60a = s60.2.2.1 109 109 := e60; have b1 : z60b = s60.2.2.1 109 111 := e60a; first | (rw [← b0, ← b1, ← e_109_109, ← e_109_111]; exact n64b) | (rw [← b0, ← b1]; exact n64b)
          have n64d : (u_109_28).toInt = 0 → (z60a).toInt + (z60b).toInt = (u_109_109).toInt + (u_109_111).toInt := by have a0 := in_u i36x1; have a1 := in_u ro_109_29; have a2 := in_u i29; have a3 := in_u ((inv_F hI 0 200 rfl e_109_111)); have a4 := in_u ((inv_F hI 0 400 rfl e_109_109)); have a5 := in_u ((in_c (-1) rfl)); have a6 := in_u i60b; have a7 := in_u i60a; have a8 := in_u i50a; omega
          have n64e : (s.2.2.1 109 28).toInt = 0 → (s60.2.2.1 109 109).toInt + (s60.2.2.1 109 111).toInt = (s.2.2.1 109 109).toInt + (s.2.2.1 109 111).toInt := by have b0 : z60a = s60.2.2.1 109 109 := e60; have b1 : z60b = s60.2.2.1 109 111 := e60a; first | (rw [← b0, ← b1, ← e_109_28, ← e_109_109, ← e_109_111]; exact n64d) | (rw [← b0, ← b1]; exact n64d)
          have n64f : (u_109_28).toInt = 0 → 1 ≤ (z50a).toInt := by have a0 := in_u i36x1; have a1 := in_u ro_109_29; have a2 := in_u i29; have a3 := in_u ((inv_F hI 0 200 rfl e_109_111)); have a4 := in_u ((inv_F hI 0 400 rfl e_109_109)); have a5 := in_u ((in_c (-1) rfl)); have a6 := in_u i60b; have a7 := in_u i60a; have a8 := in_u i50a; omega
          have n64g : (s.2.2.1 109 28).toInt = 0 → 1 ≤ (s60.2.2.1 109 23).toInt := by have b0 : z50a = s60.2.2.1 109 23 := fr_F (fr_F (e50) hF56 rfl) hF60 rfl; rw [← b0, ← e_109_28]; exact n64f
          exact g_ireturn (gd rfl) rfl (nb01 (in_w 0 1 (in_c 1 rfl) rfl)) (hP _ _ ⟨s60, hI60, (fr_tr rfl (fr_tr rfl (fr_tr rfl fr_rf hF50) hF56) hF60), n64c, n64e, n64g, (Int32.ofInt 1), rfl, rfl, in_w 0 1 (in_c 1 rfl) rfl, n64, n64a⟩)
      · skip
        have i36x1 := sw_eq c36x1
        refine g_iconst (-1) 122 (gd rfl) rfl rfl ?_
        refine g_ireturn (gd rfl) rfl rfl (hp36 _ _ ?_)
        show GG _ _ _ _ _ _ _ _ [.int (Int32.ofInt (-1))] _ _ _
        refine g_istore_n 40 (gd rfl) rfl (Nat.le_of_ble_eq_true rfl) ?_
        refine g_iload_n 41 (gd rfl) rfl rfl ?_
        refine g_if_ge 44 53 (gd rfl) rfl rfl (fun c41 => ?_) (fun c41 => ?_)
        · skip
          exact zn_ge c41 (in_c (-1) rfl) rfl
        · skip
          refine g_aload_n 45 (gd rfl) rfl rfl ?_
          refine g_iconst 5 46 (gd rfl) rfl rfl ?_
          refine g_aload_n 47 (gd rfl) rfl rfl ?_
          refine g_getI 50 (gd rfl) rfl rfl rfl (fun z47 e47 => ?_)
          have q47 : u_109_29 = z47 := (e_109_29).trans e47.symm
          subst q47
          refine g_callv (X := _) (As := [.int (Int32.ofInt 5), .int u_109_29]) (r := []) (b := A 109) (q := 109) 53 (gd rfl) rfl rfl rfl rfl rfl (ww_o rfl) (Nat.le_of_ble_eq_true rfl) (Nat.zero_le _) (Nat.zero_le _) (k_298 (by first | exact dq1 hd rfl | exact dq0 hd rfl | exact dq2 hd rfl | exact dq3 hd rfl | omega) hI (in_w 1 5 (in_c 5 rfl) rfl)) (fun e u h => h) (fun v u h => ?_)
          obtain ⟨s50, hI50, hF50, n50, rfl, rfl⟩ := h
          obtain ⟨z50a, e50⟩ : ∃ w, w = s50.2.2.1 109 23 := ⟨_, rfl⟩
          have i50a := inv_F hI50 0 9 rfl e50
          rw [← (show z50a = s50.2.2.1 109 23 from e50)] at n50
          show GG _ _ _ _ _ _ _ _ [] _ _ _
          refine g_aload_n 54 (gd rfl) rfl rfl ?_
          refine g_iconst 1 55 (gd rfl) rfl rfl ?_
          refine g_iload_n 56 (gd rfl) rfl rfl ?_
          have v56 : u_109_109 = s50.2.2.1 109 109 := fr_F (e_109_109) hF50 rfl
          have n56 : (u_109_109).toInt ≤ 399 := by have a0 := in_u i36x1; have a1 := in_u ro_109_29; have a2 := in_u i29; have a3 := in_u ((inv_F hI 0 200 rfl e_109_111)); have a4 := in_u ((inv_F hI 0 400 rfl e_109_109)); have a5 := in_u ((in_c (-1) rfl)); have a6 := in_u i50a; omega
          refine g_callv (X := _) (As := [.int (Int32.ofInt 1), .int (Int32.ofInt (-1))]) (r := []) (b := A 109) (q := 109) 59 (gd rfl) rfl rfl rfl rfl rfl (ww_o rfl) (Nat.le_of_ble_eq_true rfl) (Nat.zero_le _) (Nat.zero_le _) (k_393 (by first | exact dq1 hd rfl | exact dq0 hd rfl | exact dq2 hd rfl | exact dq3 hd rfl | omega) hI50 v56 n56) (fun e u h => h) (fun v u h => ?_)
          obtain ⟨s56, hI56, hF56, n56a, rfl, rfl, p56, p56a⟩ := h
          obtain ⟨z56a, e56⟩ : ∃ w, w = s56.2.2.1 109 109 := ⟨_, rfl⟩
          have i56a := inv_F hI56 0 400 rfl e56
          rw [← (show u_109_109 = s50.2.2.1 109 109 from fr_F (e_109_109) hF50 rfl)] at n56a
          rw [← (show z56a = s56.2.2.1 109 109 from e56)] at n56a
          show GG _ _ _ _ _ _ _ _ [] _ _ _
          refine g_aload_n 60 (gd rfl) rfl rfl ?_
          have v60 : u_109_111 = s56.2.2.1 109 111 := fr_F (fr_F (e_109_111) hF50 rfl) hF56 rfl
          have n60 : (z56a).toInt + (u_109_111).toInt ≤ 120 := by have a0 := in_u i36x1; have a1 := in_u ro_109_29; have a2 := in_u i29; have a3 := in_u ((inv_F hI 0 200 rfl e_109_111)); have a4 := in_u ((inv_F hI 0 400 rfl e_109_109)); have a5 := in_u ((in_c (-1) rfl)); have a6 := in_u i56a; have a7 := in_u i50a; omega
          refine g_callv (X := _) (As := []) (r := []) (b := A 109) (q := 109) 63 (gd rfl) rfl rfl rfl rfl rfl (ww_o rfl) (Nat.le_of_ble_eq_true rfl) (Nat.zero_le _) (Nat.zero_le _) (k_400 (by first | exact dq1 hd rfl | exact dq0 hd rfl | exact dq2 hd rfl | exact dq3 hd rfl | omega) hI56 e56 v60 n60) (fun e u h => h) (fun v u h => ?_)
          obtain ⟨s60, hI60, hF60, n60a, rfl, rfl, p60⟩ := h
          obtain ⟨z60a, e60⟩ : ∃ w, w = s60.2.2.1 109 109 := ⟨_, rfl⟩
          have i60a := inv_F hI60 0 400 rfl e60
          obtain ⟨z60b, e60a⟩ : ∃ w, w = s60.2.2.1 109 111 := ⟨_, rfl⟩
          have i60b := inv_F hI60 0 200 rfl e60a
          rw [← (show z56a = s56.2.2.1 109 109 from e56)] at n60a
          rw [← (show u_109_111 = s56.2.2.1 109 111 from fr_F (fr_F (e_109_111) hF50 rfl) hF56 rfl)] at n60a
          rw [← (show z60a = s60.2.2.1 109 109 from e60)] at n60a
          rw [← (show z60b = s60.2.2.1 109 111 from e60a)] at n60a
          show GG _ _ _ _ _ _ _ _ [] _ _ _
          refine g_iconst 1 64 (gd rfl) rfl rfl ?_
          have n64 : ((Int32.ofInt 1)).toInt = 0 → PR s s60 0 0 := by intro hR; first | (exfalso; revert hR; decide) | exact pr_hold (hF140.1 187 rfl) (hF140.1 188 rfl) (hF140.2.2.1 109 109 rfl) (hF140.2.2.1 109 23 rfl) p140 (by rw [← e140, ← e_109_111]; exact n140a) (inv_F hI 0 200 rfl rfl).1 (Or.inl ⟨Or.inl rfl, rfl⟩) | exact pr_hold (hF140.1 187 rfl) (hF140.1 188 rfl) (hF140.2.2.1 109 109 rfl) (hF140.2.2.1 109 23 rfl) p140 (by rw [← e140, ← e_109_111]; exact n140a) (inv_F hI 0 200 rfl rfl).1 (Or.inl ⟨Or.inr rfl, rfl⟩) | exact pr_flt (hF97.1 187 rfl) (hF97.1 188 rfl) (hF97.2.2.1 109 109 rfl) (by rw [← e97]; omega) | exact pr_flt (hF118.1 187 rfl) (hF118.1 188 rfl) (hF118.2.2.1 109 109 rfl) (by rw [← e118]; omega)
          have n64a : ((Int32.ofInt 1)).toInt ≠ 0 → PR s s60 0 1 := by intro hR; first | (exact absurd rfl hR) | exact pr_tr (pr_val p15 p15a rfl (inv_F hI 0 400 rfl rfl).1 (by rw [← e15, ← e_109_109]; exact n15a) (hF15.2.2.1 109 23 rfl) (hF15.1 190 rfl) (hF15.2.2.1 109 111 rfl) (fun _ => Or.inl rfl)) p19 | exact pr_tr (pr_val p56 p56a rfl (inv_F hI 0 400 rfl rfl).1 (by rw [← e56, ← e_109_109]; exact n56a) (hF56.2.2.1 109 23 rfl) (hF56.1 190 rfl) (hF56.2.2.1 109 111 rfl) (fun _ => Or.inr ⟨rfl, by decide, by decide⟩)) p60 | exact pr_tr (pr_tr (b := 0) (pr_flt (hF50.1 187 rfl) (hF50.1 188 rfl) (hF50.2.2.1 109 109 rfl) (by rw [← e50]; omega)) (pr_val p56 p56a rfl (inv_F hI50 0 400 rfl rfl).1 (by rw [← e56, ← (show u_109_109 = s50.2.2.1 109 109 from fr_F e_109_109 hF50 rfl)]; exact n56a) (hF56.2.2.1 109 23 rfl) (hF56.1 190 rfl) (hF56.2.2.1 109 111 rfl) (fun h => absurd h (by rw [← e50]; omega)))) p60
          have n64b : (z60a).toInt + (z60b).toInt ≤ (u_109_109).toInt + (u_109_111).toInt + 1 := by have a0 := in_u i36x1; have a1 := in_u ro_109_29; have a2 := in_u i29; have a3 := in_u ((inv_F hI 0 200 rfl e_109_111)); have a4 := in_u ((inv_F hI 0 400 rfl e_109_109)); have a5 := in_u ((in_c (-1) rfl)); have a6 := in_u i60b; have a7 := in_u i60a; have a8 := in_u i50a; omega
          have n64c : (s60.2.2.1 109 109).toInt + (s60.2.2.1 109 111).toInt ≤ (s.2.2.1 109 109).toInt + (s.2.2.1 109 111).toInt + 1 := by have b0 : z60a = s60.2.2.1 109 109 := e60; have b1 : z60b = s60.2.2.1 109 111 := e60a; first | (rw [← b0, ← b1, ← e_109_109, ← e_109_111]; exact n64b) | (rw [← b0, ← b1]; exact n64b)
          have n64d : (u_109_28).toInt = 0 → (z60a).toInt + (z60b).toInt = (u_109_109).toInt + (u_109_111).toInt := by have a0 := in_u i36x1; have a1 := in_u ro_109_29; have a2 := in_u i29; have a3 := in_u ((inv_F hI 0 200 rfl e_109_111)); have a4 := in_u ((inv_F hI 0 400 rfl e_109_109)); have a5 := in_u ((in_c (-1) rfl)); have a6 := in_u i60b; have a7 := in_u i60a; have a8 := in_u i50a; omega
          have n64e : (s.2.2.1 109 28).toInt = 0 → (s60.2.2.1 109 109).toInt + (s60.2.2.1 109 111).toInt = (s.2.2.1 109 109).toInt + (s.2.2.1 109 111).toInt := by have b0 : z60a = s60.2.2.1 109 109 := e60; have b1 : z60b = s60.2.2.1 109 111 := e60a; first | (rw [← b0, ← b1, ← e_109_28, ← e_109_109, ← e_109_111]; exact n64d) | (rw [← b0, ← b1]; exact n64d)
          have n64f : (u_109_28).toInt = 0 → 1 ≤ (z50a).toInt := by have a0 := in_u i36x1; have a1 := in_u ro_109_29; have a2 := in_u i29; have a3 := in_u ((inv_F hI 0 200 rfl e_109_111)); have a4 := in_u ((inv_F hI 0 400 rfl e_109_109)); have a5 := in_u ((in_c (-1) rfl)); have a6 := in_u i60b; have a7 := in_u i60a; have a8 := in_u i50a; omega
          have n64g : (s.2.2.1 109 28).toInt = 0 → 1 ≤ (s60.2.2.1 109 23).toInt := by have b0 : z50a = s60.2.2.1 109 23 := fr_F (fr_F (e50) hF56 rfl) hF60 rfl; rw [← b0, ← e_109_28]; exact n64f
          exact g_ireturn (gd rfl) rfl (nb01 (in_w 0 1 (in_c 1 rfl) rfl)) (hP _ _ ⟨s60, hI60, (fr_tr rfl (fr_tr rfl (fr_tr rfl fr_rf hF50) hF56) hF60), n64c, n64e, n64g, (Int32.ofInt 1), rfl, rfl, in_w 0 1 (in_c 1 rfl) rfl, n64, n64a⟩)
      · skip
        have i36x1 := sw_eq c36x1
        refine g_iconst 0 101 (gd rfl) rfl rfl ?_
        refine g_ireturn (gd rfl) rfl rfl (hp36 _ _ ?_)
        show GG _ _ _ _ _ _ _ _ [.int (Int32.ofInt 0)] _ _ _
        refine g_istore_n 40 (gd rfl) rfl (Nat.le_of_ble_eq_true rfl) ?_
        refine g_iload_n 41 (gd rfl) rfl rfl ?_
        refine g_if_ge 44 53 (gd rfl) rfl rfl (fun c41 => ?_) (fun c41 => ?_)
        · skip
          refine g_aload_n 54 (gd rfl) rfl rfl ?_
          refine g_iconst 1 55 (gd rfl) rfl rfl ?_
          refine g_iload_n 56 (gd rfl) rfl rfl ?_
          have n56 : (u_109_109).toInt ≤ 399 := by have a0 := in_u i36x1; have a1 := in_u ro_109_29; have a2 := in_u i29; have a3 := in_u ((inv_F hI 0 200 rfl e_109_111)); have a4 := in_u ((inv_F hI 0 400 rfl e_109_109)); have a5 := in_u ((in_c 0 rfl)); omega
          refine g_callv (X := _) (As := [.int (Int32.ofInt 1), .int (Int32.ofInt 0)]) (r := []) (b := A 109) (q := 109) 59 (gd rfl) rfl rfl rfl rfl rfl (ww_o rfl) (Nat.le_of_ble_eq_true rfl) (Nat.zero_le _) (Nat.zero_le _) (k_393 (by first | exact dq1 hd rfl | exact dq0 hd rfl | exact dq2 hd rfl | exact dq3 hd rfl | omega) hI e_109_109 n56) (fun e u h => h) (fun v u h => ?_)
          obtain ⟨s56, hI56, hF56, n56a, rfl, rfl, p56, p56a⟩ := h
          obtain ⟨z56a, e56⟩ : ∃ w, w = s56.2.2.1 109 109 := ⟨_, rfl⟩
          have i56a := inv_F hI56 0 400 rfl e56
          rw [← (show u_109_109 = s.2.2.1 109 109 from e_109_109)] at n56a
          rw [← (show z56a = s56.2.2.1 109 109 from e56)] at n56a
          show GG _ _ _ _ _ _ _ _ [] _ _ _
          refine g_aload_n 60 (gd rfl) rfl rfl ?_
          have v60 : u_109_111 = s56.2.2.1 109 111 := fr_F (e_109_111) hF56 rfl
          have n60 : (z56a).toInt + (u_109_111).toInt ≤ 120 := by have a0 := in_u i36x1; have a1 := in_u ro_109_29; have a2 := in_u i29; have a3 := in_u ((inv_F hI 0 200 rfl e_109_111)); have a4 := in_u ((inv_F hI 0 400 rfl e_109_109)); have a5 := in_u ((in_c 0 rfl)); have a6 := in_u i56a; omega
          refine g_callv (X := _) (As := []) (r := []) (b := A 109) (q := 109) 63 (gd rfl) rfl rfl rfl rfl rfl (ww_o rfl) (Nat.le_of_ble_eq_true rfl) (Nat.zero_le _) (Nat.zero_le _) (k_400 (by first | exact dq1 hd rfl | exact dq0 hd rfl | exact dq2 hd rfl | exact dq3 hd rfl | omega) hI56 e56 v60 n60) (fun e u h => h) (fun v u h => ?_)
          obtain ⟨s60, hI60, hF60, n60a, rfl, rfl, p60⟩ := h
          obtain ⟨z60a, e60⟩ : ∃ w, w = s60.2.2.1 109 109 := ⟨_, rfl⟩
          have i60a := inv_F hI60 0 400 rfl e60
          obtain ⟨z60b, e60a⟩ : ∃ w, w = s60.2.2.1 109 111 := ⟨_, rfl⟩
          have i60b := inv_F hI60 0 200 rfl e60a
          rw [← (show z56a = s56.2.2.1 109 109 from e56)] at n60a
          rw [← (show u_109_111 = s56.2.2.1 109 111 from fr_F (e_109_111) hF56 rfl)] at n60a
          rw [← (show z60a = s60.2.2.1 109 109 from e60)] at n60a
          rw [← (show z60b = s60.2.2.1 109 111 from e60a)] at n60a
          show GG _ _ _ _ _ _ _ _ [] _ _ _
          refine g_iconst 1 64 (gd rfl) rfl rfl ?_
          have n64 : ((Int32.ofInt 1)).toInt = 0 → PR s s60 0 0 := by intro hR; first | (exfalso; revert hR; decide) | exact pr_hold (hF140.1 187 rfl) (hF140.1 188 rfl) (hF140.2.2.1 109 109 rfl) (hF140.2.2.1 109 23 rfl) p140 (by rw [← e140, ← e_109_111]; exact n140a) (inv_F hI 0 200 rfl rfl).1 (Or.inl ⟨Or.inl rfl, rfl⟩) | exact pr_hold (hF140.1 187 rfl) (hF140.1 188 rfl) (hF140.2.2.1 109 109 rfl) (hF140.2.2.1 109 23 rfl) p140 (by rw [← e140, ← e_109_111]; exact n140a) (inv_F hI 0 200 rfl rfl).1 (Or.inl ⟨Or.inr rfl, rfl⟩) | exact pr_flt (hF97.1 187 rfl) (hF97.1 188 rfl) (hF97.2.2.1 109 109 rfl) (by rw [← e97]; omega) | exact pr_flt (hF118.1 187 rfl) (hF118.1 188 rfl) (hF118.2.2.1 109 109 rfl) (by rw [← e118]; omega)
          have n64a : ((Int32.ofInt 1)).toInt ≠ 0 → PR s s60 0 1 := by intro hR; first | (exact absurd rfl hR) | exact pr_tr (pr_val p15 p15a rfl (inv_F hI 0 400 rfl rfl).1 (by rw [← e15, ← e_109_109]; exact n15a) (hF15.2.2.1 109 23 rfl) (hF15.1 190 rfl) (hF15.2.2.1 109 111 rfl) (fun _ => Or.inl rfl)) p19 | exact pr_tr (pr_val p56 p56a rfl (inv_F hI 0 400 rfl rfl).1 (by rw [← e56, ← e_109_109]; exact n56a) (hF56.2.2.1 109 23 rfl) (hF56.1 190 rfl) (hF56.2.2.1 109 111 rfl) (fun _ => Or.inr ⟨rfl, by decide, by decide⟩)) p60 | exact pr_tr (pr_tr (b := 0) (pr_flt (hF50.1 187 rfl) (hF50.1 188 rfl) (hF50.2.2.1 109 109 rfl) (by rw [← e50]; omega)) (pr_val p56 p56a rfl (inv_F hI50 0 400 rfl rfl).1 (by rw [← e56, ← (show u_109_109 = s50.2.2.1 109 109 from fr_F e_109_109 hF50 rfl)]; exact n56a) (hF56.2.2.1 109 23 rfl) (hF56.1 190 rfl) (hF56.2.2.1 109 111 rfl) (fun h => absurd h (by rw [← e50]; omega)))) p60
          have n64b : (z60a).toInt + (z60b).toInt ≤ (u_109_109).toInt + (u_109_111).toInt + 1 := by have a0 := in_u i36x1; have a1 := in_u ro_109_29; have a2 := in_u i29; have a3 := in_u ((inv_F hI 0 200 rfl e_109_111)); have a4 := in_u ((inv_F hI 0 400 rfl e_109_109)); have a5 := in_u ((in_c 0 rfl)); have a6 := in_u i60b; have a7 := in_u i60a; omega
          have n64c : (s60.2.2.1 109 109).toInt + (s60.2.2.1 109 111).toInt ≤ (s.2.2.1 109 109).toInt + (s.2.2.1 109 111).toInt + 1 := by have b0 : z60a = s60.2.2.1 109 109 := e60; have b1 : z60b = s60.2.2.1 109 111 := e60a; first | (rw [← b0, ← b1, ← e_109_109, ← e_109_111]; exact n64b) | (rw [← b0, ← b1]; exact n64b)
          have n64d : (u_109_28).toInt = 0 → (z60a).toInt + (z60b).toInt = (u_109_109).toInt + (u_109_111).toInt := by have a0 := in_u i36x1; have a1 := in_u ro_109_29; have a2 := in_u i29; have a3 := in_u ((inv_F hI 0 200 rfl e_109_111)); have a4 := in_u ((inv_F hI 0 400 rfl e_109_109)); have a5 := in_u ((in_c 0 rfl)); have a6 := in_u i60b; have a7 := in_u i60a; omega
          have n64e : (s.2.2.1 109 28).toInt = 0 → (s60.2.2.1 109 109).toInt + (s60.2.2.1 109 111).toInt = (s.2.2.1 109 109).toInt + (s.2.2.1 109 111).toInt := by have b0 : z60a = s60.2.2.1 109 109 := e60; have b1 : z60b = s60.2.2.1 109 111 := e60a; first | (rw [← b0, ← b1, ← e_109_28, ← e_109_109, ← e_109_111]; exact n64d) | (rw [← b0, ← b1]; exact n64d)
          have n64f : (u_109_28).toInt = 0 → 1 ≤ ((s60.2.2.1 109 23)).toInt := by have a0 := in_u i36x1; have a1 := in_u ro_109_29; have a2 := in_u i29; have a3 := in_u ((inv_F hI 0 200 rfl e_109_111)); have a4 := in_u ((inv_F hI 0 400 rfl e_109_109)); have a5 := in_u ((in_c 0 rfl)); have a6 := in_u i60b; have a7 := in_u i60a; have a8 := in_u ((show In (s60.2.2.1 109 23) 0 9 from inv_F hI60 0 9 rfl rfl)); omega
          have n64g : (s.2.2.1 109 28).toInt = 0 → 1 ≤ (s60.2.2.1 109 23).toInt := by rw [← e_109_28]; exact n64f
          exact g_ireturn (gd rfl) rfl (nb01 (in_w 0 1 (in_c 1 rfl) rfl)) (hP _ _ ⟨s60, hI60, (fr_tr rfl (fr_tr rfl fr_rf hF56) hF60), n64c, n64e, n64g, (Int32.ofInt 1), rfl, rfl, in_w 0 1 (in_c 1 rfl) rfl, n64, n64a⟩)
        · skip
          exact zn_lt c41 (in_c 0 rfl) rfl
      · skip
        refine g_iconst (-1) 122 (gd rfl) rfl rfl ?_
        refine g_ireturn (gd rfl) rfl rfl (hp36 _ _ ?_)
        show GG _ _ _ _ _ _ _ _ [.int (Int32.ofInt (-1))] _ _ _
        refine g_istore_n 40 (gd rfl) rfl (Nat.le_of_ble_eq_true rfl) ?_
        refine g_iload_n 41 (gd rfl) rfl rfl ?_
        refine g_if_ge 44 53 (gd rfl) rfl rfl (fun c41 => ?_) (fun c41 => ?_)
        · skip
          exact zn_ge c41 (in_c (-1) rfl) rfl
        · skip
          refine g_aload_n 45 (gd rfl) rfl rfl ?_
          refine g_iconst 5 46 (gd rfl) rfl rfl ?_
          refine g_aload_n 47 (gd rfl) rfl rfl ?_
          refine g_getI 50 (gd rfl) rfl rfl rfl (fun z47 e47 => ?_)
          have q47 : u_109_29 = z47 := (e_109_29).trans e47.symm
          subst q47
          refine g_callv (X := _) (As := [.int (Int32.ofInt 5), .int u_109_29]) (r := []) (b := A 109) (q := 109) 53 (gd rfl) rfl rfl rfl rfl rfl (ww_o rfl) (Nat.le_of_ble_eq_true rfl) (Nat.zero_le _) (Nat.zero_le _) (k_298 (by first | exact dq1 hd rfl | exact dq0 hd rfl | exact dq2 hd rfl | exact dq3 hd rfl | omega) hI (in_w 1 5 (in_c 5 rfl) rfl)) (fun e u h => h) (fun v u h => ?_)
          obtain ⟨s50, hI50, hF50, n50, rfl, rfl⟩ := h
          obtain ⟨z50a, e50⟩ : ∃ w, w = s50.2.2.1 109 23 := ⟨_, rfl⟩
          have i50a := inv_F hI50 0 9 rfl e50
          rw [← (show z50a = s50.2.2.1 109 23 from e50)] at n50
          show GG _ _ _ _ _ _ _ _ [] _ _ _
          refine g_aload_n 54 (gd rfl) rfl rfl ?_
          refine g_iconst 1 55 (gd rfl) rfl rfl ?_
          refine g_iload_n 56 (gd rfl) rfl rfl ?_
          have v56 : u_109_109 = s50.2.2.1 109 109 := fr_F (e_109_109) hF50 rfl
          have n56 : (u_109_109).toInt ≤ 399 := by have a0 := in_u ro_109_29; have a1 := in_u i29; have a2 := in_u ((inv_F hI 0 200 rfl e_109_111)); have a3 := in_u ((inv_F hI 0 400 rfl e_109_109)); have a4 := in_u ((in_c (-1) rfl)); have a5 := in_u i50a; omega
          refine g_callv (X := _) (As := [.int (Int32.ofInt 1), .int (Int32.ofInt (-1))]) (r := []) (b := A 109) (q := 109) 59 (gd rfl) rfl rfl rfl rfl rfl (ww_o rfl) (Nat.le_of_ble_eq_true rfl) (Nat.zero_le _) (Nat.zero_le _) (k_393 (by first | exact dq1 hd rfl | exact dq0 hd rfl | exact dq2 hd rfl | exact dq3 hd rfl | omega) hI50 v56 n56) (fun e u h => h) (fun v u h => ?_)
          obtain ⟨s56, hI56, hF56, n56a, rfl, rfl, p56, p56a⟩ := h
          obtain ⟨z56a, e56⟩ : ∃ w, w = s56.2.2.1 109 109 := ⟨_, rfl⟩
          have i56a := inv_F hI56 0 400 rfl e56
          rw [← (show u_109_109 = s50.2.2.1 109 109 from fr_F (e_109_109) hF50 rfl)] at n56a
          rw [← (show z56a = s56.2.2.1 109 109 from e56)] at n56a
          show GG _ _ _ _ _ _ _ _ [] _ _ _
          refine g_aload_n 60 (gd rfl) rfl rfl ?_
          have v60 : u_109_111 = s56.2.2.1 109 111 := fr_F (fr_F (e_109_111) hF50 rfl) hF56 rfl
          have n60 : (z56a).toInt + (u_109_111).toInt ≤ 120 := by have a0 := in_u ro_109_29; have a1 := in_u i29; have a2 := in_u ((inv_F hI 0 200 rfl e_109_111)); have a3 := in_u ((inv_F hI 0 400 rfl e_109_109)); have a4 := in_u ((in_c (-1) rfl)); have a5 := in_u i56a; have a6 := in_u i50a; omega
          refine g_callv (X := _) (As := []) (r := []) (b := A 109) (q := 109) 63 (gd rfl) rfl rfl rfl rfl rfl (ww_o rfl) (Nat.le_of_ble_eq_true rfl) (Nat.zero_le _) (Nat.zero_le _) (k_400 (by first | exact dq1 hd rfl | exact dq0 hd rfl | exact dq2 hd rfl | exact dq3 hd rfl | omega) hI56 e56 v60 n60) (fun e u h => h) (fun v u h => ?_)
          obtain ⟨s60, hI60, hF60, n60a, rfl, rfl, p60⟩ := h
          obtain ⟨z60a, e60⟩ : ∃ w, w = s60.2.2.1 109 109 := ⟨_, rfl⟩
          have i60a := inv_F hI60 0 400 rfl e60
          obtain ⟨z60b, e60a⟩ : ∃ w, w = s60.2.2.1 109 111 := ⟨_, rfl⟩
          have i60b := inv_F hI60 0 200 rfl e60a
          rw [← (show z56a = s56.2.2.1 109 109 from e56)] at n60a
          rw [← (show u_109_111 = s56.2.2.1 109 111 from fr_F (fr_F (e_109_111) hF50 rfl) hF56 rfl)] at n60a
          rw [← (show z60a = s60.2.2.1 109 109 from e60)] at n60a
          rw [← (show z60b = s60.2.2.1 109 111 from e60a)] at n60a
          show GG _ _ _ _ _ _ _ _ [] _ _ _
          refine g_iconst 1 64 (gd rfl) rfl rfl ?_
          have n64 : ((Int32.ofInt 1)).toInt = 0 → PR s s60 0 0 := by intro hR; first | (exfalso; revert hR; decide) | exact pr_hold (hF140.1 187 rfl) (hF140.1 188 rfl) (hF140.2.2.1 109 109 rfl) (hF140.2.2.1 109 23 rfl) p140 (by rw [← e140, ← e_109_111]; exact n140a) (inv_F hI 0 200 rfl rfl).1 (Or.inl ⟨Or.inl rfl, rfl⟩) | exact pr_hold (hF140.1 187 rfl) (hF140.1 188 rfl) (hF140.2.2.1 109 109 rfl) (hF140.2.2.1 109 23 rfl) p140 (by rw [← e140, ← e_109_111]; exact n140a) (inv_F hI 0 200 rfl rfl).1 (Or.inl ⟨Or.inr rfl, rfl⟩) | exact pr_flt (hF97.1 187 rfl) (hF97.1 188 rfl) (hF97.2.2.1 109 109 rfl) (by rw [← e97]; omega) | exact pr_flt (hF118.1 187 rfl) (hF118.1 188 rfl) (hF118.2.2.1 109 109 rfl) (by rw [← e118]; omega)
          have n64a : ((Int32.ofInt 1)).toInt ≠ 0 → PR s s60 0 1 := by intro hR; first | (exact absurd rfl hR) | exact pr_tr (pr_val p15 p15a rfl (inv_F hI 0 400 rfl rfl).1 (by rw [← e15, ← e_109_109]; exact n15a) (hF15.2.2.1 109 23 rfl) (hF15.1 190 rfl) (hF15.2.2.1 109 111 rfl) (fun _ => Or.inl rfl)) p19 | exact pr_tr (pr_val p56 p56a rfl (inv_F hI 0 400 rfl rfl).1 (by rw [← e56, ← e_109_109]; exact n56a) (hF56.2.2.1 109 23 rfl) (hF56.1 190 rfl) (hF56.2.2.1 109 111 rfl) (fun _ => Or.inr ⟨rfl, by decide, by decide⟩)) p60 | exact pr_tr (pr_tr (b := 0) (pr_flt (hF50.1 187 rfl) (hF50.1 188 rfl) (hF50.2.2.1 109 109 rfl) (by rw [← e50]; omega)) (pr_val p56 p56a rfl (inv_F hI50 0 400 rfl rfl).1 (by rw [← e56, ← (show u_109_109 = s50.2.2.1 109 109 from fr_F e_109_109 hF50 rfl)]; exact n56a) (hF56.2.2.1 109 23 rfl) (hF56.1 190 rfl) (hF56.2.2.1 109 111 rfl) (fun h => absurd h (by rw [← e50]; omega)))) p60
          have n64b : (z60a).toInt + (z60b).toInt ≤ (u_109_109).toInt + (u_109_111).toInt + 1 := by have a0 := in_u ro_109_29; have a1 := in_u i29; have a2 := in_u ((inv_F hI 0 200 rfl e_109_111)); have a3 := in_u ((inv_F hI 0 400 rfl e_109_109)); have a4 := in_u ((in_c (-1) rfl)); have a5 := in_u i60b; have a6 := in_u i60a; have a7 := in_u i50a; omega
          have n64c : (s60.2.2.1 109 109).toInt + (s60.2.2.1 109 111).toInt ≤ (s.2.2.1 109 109).toInt + (s.2.2.1 109 111).toInt + 1 := by have b0 : z60a = s60.2.2.1 109 109 := e60; have b1 : z60b = s60.2.2.1 109 111 := e60a; first | (rw [← b0, ← b1, ← e_109_109, ← e_109_111]; exact n64b) | (rw [← b0, ← b1]; exact n64b)
          have n64d : (u_109_28).toInt = 0 → (z60a).toInt + (z60b).toInt = (u_109_109).toInt + (u_109_111).toInt := by have a0 := in_u ro_109_29; have a1 := in_u i29; have a2 := in_u ((inv_F hI 0 200 rfl e_109_111)); have a3 := in_u ((inv_F hI 0 400 rfl e_109_109)); have a4 := in_u ((in_c (-1) rfl)); have a5 := in_u i60b; have a6 := in_u i60a; have a7 := in_u i50a; omega
          have n64e : (s.2.2.1 109 28).toInt = 0 → (s60.2.2.1 109 109).toInt + (s60.2.2.1 109 111).toInt = (s.2.2.1 109 109).toInt + (s.2.2.1 109 111).toInt := by have b0 : z60a = s60.2.2.1 109 109 := e60; have b1 : z60b = s60.2.2.1 109 111 := e60a; first | (rw [← b0, ← b1, ← e_109_28, ← e_109_109, ← e_109_111]; exact n64d) | (rw [← b0, ← b1]; exact n64d)
          have n64f : (u_109_28).toInt = 0 → 1 ≤ (z50a).toInt := by have a0 := in_u ro_109_29; have a1 := in_u i29; have a2 := in_u ((inv_F hI 0 200 rfl e_109_111)); have a3 := in_u ((inv_F hI 0 400 rfl e_109_109)); have a4 := in_u ((in_c (-1) rfl)); have a5 := in_u i60b; have a6 := in_u i60a; have a7 := in_u i50a; omega
          have n64g : (s.2.2.1 109 28).toInt = 0 → 1 ≤ (s60.2.2.1 109 23).toInt := by have b0 : z50a = s60.2.2.1 109 23 := fr_F (fr_F (e50) hF56 rfl) hF60 rfl; rw [← b0, ← e_109_28]; exact n64f
          exact g_ireturn (gd rfl) rfl (nb01 (in_w 0 1 (in_c 1 rfl) rfl)) (hP _ _ ⟨s60, hI60, (fr_tr rfl (fr_tr rfl (fr_tr rfl fr_rf hF50) hF56) hF60), n64c, n64e, n64g, (Int32.ofInt 1), rfl, rfl, in_w 0 1 (in_c 1 rfl) rfl, n64, n64a⟩)
  · skip
    have i5 := r_eq1 2 2 c5 (inv_F hI (-2147483648) 2147483647 rfl e_109_28) (in_c 2 rfl) rfl
    refine g_aload_n 9 (gd rfl) rfl rfl ?_
    refine g_iconst 0 10 (gd rfl) rfl rfl ?_
    refine g_aload_n 11 (gd rfl) rfl rfl ?_
    refine g_getL 14 (gd rfl) rfl rfl rfl (fun z11 e11 => ?_)
    refine g_l2i 15 (gd rfl) rfl (fun z14 e14 => ?_)
    have n15 : (u_109_109).toInt ≤ 399 := by have a0 := in_u ro_109_29; have a1 := in_u i5; have a2 := in_u ((inv_F hI 0 200 rfl e_109_111)); have a3 := in_u ((inv_F hI 0 400 rfl e_109_109)); omega
    refine g_callv (X := _) (As := [.int (Int32.ofInt 0), .int z14]) (r := []) (b := A 109) (q := 109) 18 (gd rfl) rfl rfl rfl rfl rfl (ww_o rfl) (Nat.le_of_ble_eq_true rfl) (Nat.zero_le _) (Nat.zero_le _) (k_393 (by first | exact dq1 hd rfl | exact dq0 hd rfl | exact dq2 hd rfl | exact dq3 hd rfl | omega) hI e_109_109 n15) (fun e u h => h) (fun v u h => ?_)
    obtain ⟨s15, hI15, hF15, n15a, rfl, rfl, p15, p15a⟩ := h
    obtain ⟨z15a, e15⟩ : ∃ w, w = s15.2.2.1 109 109 := ⟨_, rfl⟩
    have i15a := inv_F hI15 0 400 rfl e15
    rw [← (show u_109_109 = s.2.2.1 109 109 from e_109_109)] at n15a
    rw [← (show z15a = s15.2.2.1 109 109 from e15)] at n15a
    show GG _ _ _ _ _ _ _ _ [] _ _ _
    refine g_aload_n 19 (gd rfl) rfl rfl ?_
    have v19 : u_109_111 = s15.2.2.1 109 111 := fr_F (e_109_111) hF15 rfl
    have n19 : (z15a).toInt + (u_109_111).toInt ≤ 120 := by have a0 := in_u ro_109_29; have a1 := in_u i5; have a2 := in_u ((inv_F hI 0 200 rfl e_109_111)); have a3 := in_u ((inv_F hI 0 400 rfl e_109_109)); have a4 := in_u i15a; omega
    refine g_callv (X := _) (As := []) (r := []) (b := A 109) (q := 109) 22 (gd rfl) rfl rfl rfl rfl rfl (ww_o rfl) (Nat.le_of_ble_eq_true rfl) (Nat.zero_le _) (Nat.zero_le _) (k_400 (by first | exact dq1 hd rfl | exact dq0 hd rfl | exact dq2 hd rfl | exact dq3 hd rfl | omega) hI15 e15 v19 n19) (fun e u h => h) (fun v u h => ?_)
    obtain ⟨s19, hI19, hF19, n19a, rfl, rfl, p19⟩ := h
    obtain ⟨z19a, e19⟩ : ∃ w, w = s19.2.2.1 109 109 := ⟨_, rfl⟩
    have i19a := inv_F hI19 0 400 rfl e19
    obtain ⟨z19b, e19a⟩ : ∃ w, w = s19.2.2.1 109 111 := ⟨_, rfl⟩
    have i19b := inv_F hI19 0 200 rfl e19a
    rw [← (show z15a = s15.2.2.1 109 109 from e15)] at n19a
    rw [← (show u_109_111 = s15.2.2.1 109 111 from fr_F (e_109_111) hF15 rfl)] at n19a
    rw [← (show z19a = s19.2.2.1 109 109 from e19)] at n19a
    rw [← (show z19b = s19.2.2.1 109 111 from e19a)] at n19a
    show GG _ _ _ _ _ _ _ _ [] _ _ _
    refine g_iconst 1 23 (gd rfl) rfl rfl ?_
    have n23 : ((Int32.ofInt 1)).toInt = 0 → PR s s19 0 0 := by intro hR; first | (exfalso; revert hR; decide) | exact pr_hold (hF140.1 187 rfl) (hF140.1 188 rfl) (hF140.2.2.1 109 109 rfl) (hF140.2.2.1 109 23 rfl) p140 (by rw [← e140, ← e_109_111]; exact n140a) (inv_F hI 0 200 rfl rfl).1 (Or.inl ⟨Or.inl rfl, rfl⟩) | exact pr_hold (hF140.1 187 rfl) (hF140.1 188 rfl) (hF140.2.2.1 109 109 rfl) (hF140.2.2.1 109 23 rfl) p140 (by rw [← e140, ← e_109_111]; exact n140a) (inv_F hI 0 200 rfl rfl).1 (Or.inl ⟨Or.inr rfl, rfl⟩) | exact pr_flt (hF97.1 187 rfl) (hF97.1 188 rfl) (hF97.2.2.1 109 109 rfl) (by rw [← e97]; omega) | exact pr_flt (hF118.1 187 rfl) (hF118.1 188 rfl) (hF118.2.2.1 109 109 rfl) (by rw [← e118]; omega)
    have n23a : ((Int32.ofInt 1)).toInt ≠ 0 → PR s s19 0 1 := by intro hR; first | (exact absurd rfl hR) | exact pr_tr (pr_val p15 p15a rfl (inv_F hI 0 400 rfl rfl).1 (by rw [← e15, ← e_109_109]; exact n15a) (hF15.2.2.1 109 23 rfl) (hF15.1 190 rfl) (hF15.2.2.1 109 111 rfl) (fun _ => Or.inl rfl)) p19 | exact pr_tr (pr_val p56 p56a rfl (inv_F hI 0 400 rfl rfl).1 (by rw [← e56, ← e_109_109]; exact n56a) (hF56.2.2.1 109 23 rfl) (hF56.1 190 rfl) (hF56.2.2.1 109 111 rfl) (fun _ => Or.inr ⟨rfl, by decide, by decide⟩)) p60 | exact pr_tr (pr_tr (b := 0) (pr_flt (hF50.1 187 rfl) (hF50.1 188 rfl) (hF50.2.2.1 109 109 rfl) (by rw [← e50]; omega)) (pr_val p56 p56a rfl (inv_F hI50 0 400 rfl rfl).1 (by rw [← e56, ← (show u_109_109 = s50.2.2.1 109 109 from fr_F e_109_109 hF50 rfl)]; exact n56a) (hF56.2.2.1 109 23 rfl) (hF56.1 190 rfl) (hF56.2.2.1 109 111 rfl) (fun h => absurd h (by rw [← e50]; omega)))) p60
    have n23b : (z19a).toInt + (z19b).toInt ≤ (u_109_109).toInt + (u_109_111).toInt + 1 := by have a0 := in_u ro_109_29; have a1 := in_u i5; have a2 := in_u ((inv_F hI 0 200 rfl e_109_111)); have a3 := in_u ((inv_F hI 0 400 rfl e_109_109)); have a4 := in_u i19b; have a5 := in_u i19a; omega
    have n23c : (s19.2.2.1 109 109).toInt + (s19.2.2.1 109 111).toInt ≤ (s.2.2.1 109 109).toInt + (s.2.2.1 109 111).toInt + 1 := by have b0 : z19a = s19.2.2.1 109 109 := e19; have b1 : z19b = s19.2.2.1 109 111 := e19a; first | (rw [← b0, ← b1, ← e_109_109, ← e_109_111]; exact n23b) | (rw [← b0, ← b1]; exact n23b)
    have n23d : (u_109_28).toInt = 0 → (z19a).toInt + (z19b).toInt = (u_109_109).toInt + (u_109_111).toInt := by have a0 := in_u ro_109_29; have a1 := in_u i5; have a2 := in_u ((inv_F hI 0 200 rfl e_109_111)); have a3 := in_u ((inv_F hI 0 400 rfl e_109_109)); have a4 := in_u i19b; have a5 := in_u i19a; omega
    have n23e : (s.2.2.1 109 28).toInt = 0 → (s19.2.2.1 109 109).toInt + (s19.2.2.1 109 111).toInt = (s.2.2.1 109 109).toInt + (s.2.2.1 109 111).toInt := by have b0 : z19a = s19.2.2.1 109 109 := e19; have b1 : z19b = s19.2.2.1 109 111 := e19a; first | (rw [← b0, ← b1, ← e_109_28, ← e_109_109, ← e_109_111]; exact n23d) | (rw [← b0, ← b1]; exact n23d)
    have n23f : (u_109_28).toInt = 0 → 1 ≤ ((s19.2.2.1 109 23)).toInt := by have a0 := in_u ro_109_29; have a1 := in_u i5; have a2 := in_u ((inv_F hI 0 200 rfl e_109_111)); have a3 := in_u ((inv_F hI 0 400 rfl e_109_109)); have a4 := in_u i19b; have a5 := in_u i19a; have a6 := in_u ((show In (s19.2.2.1 109 23) 0 9 from inv_F hI19 0 9 rfl rfl)); omega
    have n23g : (s.2.2.1 109 28).toInt = 0 → 1 ≤ (s19.2.2.1 109 23).toInt := by rw [← e_109_28]; exact n23f
    exact g_ireturn (gd rfl) rfl (nb01 (in_w 0 1 (in_c 1 rfl) rfl)) (hP _ _ ⟨s19, hI19, (fr_tr rfl (fr_tr rfl fr_rf hF15) hF19), n23c, n23e, n23g, (Int32.ofInt 1), rfl, rfl, in_w 0 1 (in_c 1 rfl) rfl, n23, n23a⟩)
