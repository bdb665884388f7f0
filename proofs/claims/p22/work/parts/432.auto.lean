section
/-! methods, by vc.py -/
def fm_401 : FM := ([187, 188, 190], [], [(109, 23), (109, 24), (109, 109), (109, 111), (109, 112)], [])
/-- GraphHouseModel.factor -/
theorem k_401 {Z : AmZ} {A : Nat → Nat} {s : GS} {ex : va_W} {d : Nat} {X : AmX} {u_109_109 : Int32} {u_109_111 : Int32} {u_109_28 : Int32} (hd : 4 ≤ d) (hI : Inv s) (e_109_109 : u_109_109 = s.2.2.1 109 109) (e_109_111 : u_109_111 = s.2.2.1 109 111) (e_109_28 : u_109_28 = s.2.2.1 109 28) (p_0 : (u_109_109).toInt + (u_109_111).toInt ≤ 120) (p_1 : (u_109_28).toInt ≠ 0 → (u_109_109).toInt + (u_109_111).toInt ≤ 119) : GC Z d 401 [.ref (A 109)] (WW Z A s ++ ex) 0 0 (fun v u => ∃ t : GS, Inv t ∧ Fr fm_401 s t ∧ ((t.2.2.1 109 109).toInt + (t.2.2.1 109 111).toInt ≤ (s.2.2.1 109 109).toInt + (s.2.2.1 109 111).toInt + 1) ∧ ((s.2.2.1 109 28).toInt = 0 → (t.2.2.1 109 109).toInt + (t.2.2.1 109 111).toInt = (s.2.2.1 109 109).toInt + (s.2.2.1 109 111).toInt) ∧ ((s.2.2.1 109 28).toInt = 0 → 1 ≤ (t.2.2.1 109 23).toInt) ∧ ∃ z : Int32, v = some (.int z) ∧ u = WW Z A t ++ ex ∧ In z 0 1 ∧ ((z).toInt = 0 → PR s t 0 0) ∧ ((z).toInt ≠ 0 → PR s t 0 1)) X := by
  intro post xp hP hX
  obtain ⟨u_109_29, e_109_29⟩ : ∃ w, w = s.2.2.1 109 29 := ⟨_, rfl⟩
  have ro_109_29 := inv_F hI 0 1000 rfl e_109_29
  obtain ⟨u_109_30, e_109_30⟩ : ∃ w, w = s.2.2.1 109 30 := ⟨_, rfl⟩
  refine g_enter2 (k := 401) (N := 900) (by first | exact dq1 hd rfl | exact dq0 hd rfl | exact dq2 hd rfl | exact dq3 hd rfl | omega) rfl (Nat.le_of_ble_eq_true rfl) ?_
  refine g_aload_n 1 (gd rfl) rfl rfl ?_
  refine g_getI 4 (gd rfl) rfl rfl rfl (fun z1 e1 => ?_)
  have q1 : u_109_28 = z1 := (e_109_28).trans e1.symm
  subst q1
  refine g_iconst 2 5 (gd rfl) rfl rfl ?_
  refine g_cmp_ne 8 24 (gd rfl) rfl rfl (fun c5 => ?_) (fun c5 => ?_)
  · skip
    refine g_aload_n 25 (gd rfl) rfl rfl ?_
    refine g_getI 28 (gd rfl) rfl rfl rfl (fun z25 e25 => ?_)
    have q25 : u_109_28 = z25 := (e_109_28).trans e25.symm
    subst q25
    refine g_iconst 1 29 (gd rfl) rfl rfl ?_
    refine g_cmp_ne 32 65 (gd rfl) rfl rfl (fun c29 => ?_) (fun c29 => ?_)
    · skip
      refine g_aload_n 66 (gd rfl) rfl rfl ?_
      refine g_getI 69 (gd rfl) rfl rfl rfl (fun z66 e66 => ?_)
      have q66 : u_109_28 = z66 := (e_109_28).trans e66.symm
      subst q66
      refine g_iconst 3 70 (gd rfl) rfl rfl ?_
      refine g_cmp_ne 73 91 (gd rfl) rfl rfl (fun c70 => ?_) (fun c70 => ?_)
      · skip
        refine g_aload_n 92 (gd rfl) rfl rfl ?_
        refine g_iconst 2 93 (gd rfl) rfl rfl ?_
        refine g_aload_n 94 (gd rfl) rfl rfl ?_
        refine g_getI 97 (gd rfl) rfl rfl rfl (fun z94 e94 => ?_)
        have q94 : u_109_29 = z94 := (e_109_29).trans e94.symm
        subst q94
        refine g_callv (X := _) (As := [.int (Int32.ofInt 2), .int u_109_29]) (r := []) (b := A 109) (q := 109) 100 (gd rfl) rfl rfl rfl rfl rfl (ww_o rfl) (Nat.le_of_ble_eq_true rfl) (Nat.zero_le _) (Nat.zero_le _) (k_298 (by first | exact dq1 hd rfl | exact dq0 hd rfl | exact dq2 hd rfl | exact dq3 hd rfl | omega) hI (in_w 1 5 (in_c 2 rfl) rfl)) (fun e u h => h) (fun v u h => ?_)
        obtain ⟨s97, hI97, hF97, n97, rfl, rfl⟩ := h
        obtain ⟨z97a, e97⟩ : ∃ w, w = s97.2.2.1 109 23 := ⟨_, rfl⟩
        have i97a := inv_F hI97 0 9 rfl e97
        rw [← (show z97a = s97.2.2.1 109 23 from e97)] at n97
        show GG _ _ _ _ _ _ _ _ [] _ _ _
        refine g_goto 143 (gd rfl) rfl ?_
        refine g_iconst 0 144 (gd rfl) rfl rfl ?_
        have n144 : ((Int32.ofInt 0)).toInt = 0 → PR s s97 0 0 := by intro hR; first | (exfalso; revert hR; decide) | exact pr_hold (hF140.1 187 rfl) (hF140.1 188 rfl) (hF140.2.2.1 109 109 rfl) (hF140.2.2.1 109 23 rfl) p140 (by rw [← e140, ← e_109_111]; exact n140a) (inv_F hI 0 200 rfl rfl).1 (Or.inl ⟨Or.inl rfl, rfl⟩) | exact pr_hold (hF140.1 187 rfl) (hF140.1 188 rfl) (hF140.2.2.1 109 109 rfl) (hF140.2.2.1 109 23 rfl) p140 (by rw [← e140, ← e_109_111]; exact n140a) (inv_F hI 0 200 rfl rfl).1 (Or.inl ⟨Or.inr rfl, rfl⟩) | exact pr_flt (hF97.1 187 rfl) (hF97.1 188 rfl) (hF97.2.2.1 109 109 rfl) (by rw [← e97]; omega) | exact pr_flt (hF118.1 187 rfl) (hF118.1 188 rfl) (hF118.2.2.1 109 109 rfl) (by rw [← e118]; omega)
        have n144a : ((Int32.ofInt 0)).toInt ≠ 0 → PR s s97 0 1 := by exact fun h => absurd rfl h
        have n144b : (u_109_109).toInt + (u_109_111).toInt ≤ (u_109_109).toInt + (u_109_111).toInt + 1 := by have a0 := oa4 ro_109_29 ((inv_F hI 0 200 rfl e_109_111)) ((inv_F hI 0 400 rfl e_109_109)) i97a; omega
        have n144c : (s97.2.2.1 109 109).toInt + (s97.2.2.1 109 111).toInt ≤ (s.2.2.1 109 109).toInt + (s.2.2.1 109 111).toInt + 1 := by have b0 : u_109_109 = s97.2.2.1 109 109 := fr_F (e_109_109) hF97 rfl; have b1 : u_109_111 = s97.2.2.1 109 111 := fr_F (e_109_111) hF97 rfl; first | (rw [← b0, ← b1, ← e_109_109, ← e_109_111]; exact n144b) | (rw [← b0, ← b1]; exact n144b)
        have n144d : (u_109_28).toInt = 0 → (u_109_109).toInt + (u_109_111).toInt = (u_109_109).toInt + (u_109_111).toInt := by have a0 := oa4 ro_109_29 ((inv_F hI 0 200 rfl e_109_111)) ((inv_F hI 0 400 rfl e_109_109)) i97a; omega
        have n144e : (s.2.2.1 109 28).toInt = 0 → (s97.2.2.1 109 109).toInt + (s97.2.2.1 109 111).toInt = (s.2.2.1 109 109).toInt + (s.2.2.1 109 111).toInt := by have b0 : u_109_109 = s97.2.2.1 109 109 := fr_F (e_109_109) hF97 rfl; have b1 : u_109_111 = s97.2.2.1 109 111 := fr_F (e_109_111) hF97 rfl; first | (rw [← b0, ← b1, ← e_109_28, ← e_109_109, ← e_109_111]; exact n144d) | (rw [← b0, ← b1]; exact n144d)
        have n144f : (u_109_28).toInt = 0 → 1 ≤ (z97a).toInt := by have a0 := oa4 ro_109_29 ((inv_F hI 0 200 rfl e_109_111)) ((inv_F hI 0 400 rfl e_109_109)) i97a; omega
        have n144g : (s.2.2.1 109 28).toInt = 0 → 1 ≤ (s97.2.2.1 109 23).toInt := by have b0 : z97a = s97.2.2.1 109 23 := e97; rw [← b0, ← e_109_28]; exact n144f
        exact g_ireturn (gd rfl) rfl (nb01 (in_w 0 1 (in_c 0 rfl) rfl)) (hP _ _ ⟨s97, hI97, (fr_tr rfl fr_rf hF97), n144c, n144e, n144g, (Int32.ofInt 0), rfl, rfl, in_w 0 1 (in_c 0 rfl) rfl, n144, n144a⟩)
      · skip
        have i70 := r_eq1 3 3 c70 (inv_F hI (-2147483648) 2147483647 rfl e_109_28) (in_c 3 rfl) rfl
        refine g_aload_n 74 (gd rfl) rfl rfl ?_
        refine g_getI 77 (gd rfl) rfl rfl rfl (fun z74 e74 => ?_)
        have q74 : u_109_30 = z74 := (e_109_30).trans e74.symm
        subst q74
        refine g_bipush 45 79 (gd rfl) rfl rfl ?_
        refine g_cmp_eq 82 103 (gd rfl) rfl rfl (fun c79 => ?_) (fun c79 => ?_)
        · skip
          have i79 := r_eq1 45 45 c79 (i_rng u_109_30) (in_c 45 rfl) rfl
          refine g_aload_n 104 (gd rfl) rfl rfl ?_
          refine g_getI 107 (gd rfl) rfl rfl rfl (fun z104 e104 => ?_)
          refine g_bipush 10 109 (gd rfl) rfl rfl ?_
          refine g_cmp_lt 112 124 (gd rfl) rfl rfl (fun c109 => ?_) (fun c109 => ?_)
          · skip
            have i109 := r_lt1 (-2147483648) 9 c109 (i_rng z104) (in_c 10 rfl) rfl
            refine g_aload_n 125 (gd rfl) rfl rfl ?_
            refine g_aload_n 126 (gd rfl) rfl rfl ?_
            refine g_getI 129 (gd rfl) rfl rfl rfl (fun z126 e126 => ?_)
            have q126 : u_109_30 = z126 := (e_109_30).trans e126.symm
            subst q126
            refine g_bipush 45 131 (gd rfl) rfl rfl ?_
            refine g_cmp_ne 134 138 (gd rfl) rfl rfl (fun c131 => ?_) (fun c131 => ?_)
            · skip
              exact n_ne c131 i79 (in_c 45 rfl) rfl
            · skip
              refine g_iconst 2 135 (gd rfl) rfl rfl ?_
              refine g_goto 140 (gd rfl) rfl ?_
              have n140 : (u_109_111).toInt ≤ 199 := by have a0 := oa6 i79 ro_109_29 i70 ((inv_F hI 0 200 rfl e_109_111)) ((inv_F hI 0 400 rfl e_109_109)) i109; omega
              refine g_callv (X := _) (As := [.int (Int32.ofInt 2)]) (r := []) (b := A 109) (q := 109) 143 (gd rfl) rfl rfl rfl rfl rfl (ww_o rfl) (Nat.le_of_ble_eq_true rfl) (Nat.zero_le _) (Nat.zero_le _) (k_396 (by first | exact dq1 hd rfl | exact dq0 hd rfl | exact dq2 hd rfl | exact dq3 hd rfl | omega) hI e_109_111 n140) (fun e u h => h) (fun v u h => ?_)
              obtain ⟨s140, hI140, hF140, n140a, rfl, rfl, p140⟩ := h
              obtain ⟨z140a, e140⟩ : ∃ w, w = s140.2.2.1 109 111 := ⟨_, rfl⟩
              have i140a := inv_F hI140 0 200 rfl e140
              rw [← (show u_109_111 = s.2.2.1 109 111 from e_109_111)] at n140a
              rw [← (show z140a = s140.2.2.1 109 111 from e140)] at n140a
              show GG _ _ _ _ _ _ _ _ [] _ _ _
              refine g_iconst 0 144 (gd rfl) rfl rfl ?_
              have n144 : ((Int32.ofInt 0)).toInt = 0 → PR s s140 0 0 := by intro hR; first | (exfalso; revert hR; decide) | exact pr_hold (hF140.1 187 rfl) (hF140.1 188 rfl) (hF140.2.2.1 109 109 rfl) (hF140.2.2.1 109 23 rfl) p140 (by rw [← e140, ← e_109_111]; exact n140a) (inv_F hI 0 200 rfl rfl).1 (Or.inl ⟨Or.inl rfl, rfl⟩) | exact pr_hold (hF140.1 187 rfl) (hF140.1 188 rfl) (hF140.2.2.1 109 109 rfl) (hF140.2.2.1 109 23 rfl) p140 (by rw [← e140, ← e_109_111]; exact n140a) (inv_F hI 0 200 rfl rfl).1 (Or.inl ⟨Or.inr rfl, rfl⟩) | exact pr_flt (hF97.1 187 rfl) (hF97.1 188 rfl) (hF97.2.2.1 109 109 rfl) (by rw [← e97]; omega) | exact pr_flt (hF118.1 187 rfl) (hF118.1 188 rfl) (hF118.2.2.1 109 109 rfl) (by rw [← e118]; omega)
              have n144a : ((Int32.ofInt 0)).toInt ≠ 0 → PR s s140 0 1 := by exact fun h => absurd rfl h
              have n144b : (u_109_109).toInt + (z140a).toInt ≤ (u_109_109).toInt + (u_109_111).toInt + 1 := by have a0 := oa6 i79 ro_109_29 i70 ((inv_F hI 0 200 rfl e_109_111)) ((inv_F hI 0 400 rfl e_109_109)) i140a; omega
              have n144c : (s140.2.2.1 109 109).toInt + (s140.2.2.1 109 111).toInt ≤ (s.2.2.1 109 109).toInt + (s.2.2.1 109 111).toInt + 1 := by have b0 : u_109_109 = s140.2.2.1 109 109 := fr_F (e_109_109) hF140 rfl; have b1 : z140a = s140.2.2.1 109 111 := e140; first | (rw [← b0, ← b1, ← e_109_109, ← e_109_111]; exact n144b) | (rw [← b0, ← b1]; exact n144b)
              have n144d : (u_109_28).toInt = 0 → (u_109_109).toInt + (z140a).toInt = (u_109_109).toInt + (u_109_111).toInt := by have a0 := oa6 i79 ro_109_29 i70 ((inv_F hI 0 200 rfl e_109_111)) ((inv_F hI 0 400 rfl e_109_109)) i140a; omega
              have n144e : (s.2.2.1 109 28).toInt = 0 → (s140.2.2.1 109 109).toInt + (s140.2.2.1 109 111).toInt = (s.2.2.1 109 109).toInt + (s.2.2.1 109 111).toInt := by have b0 : u_109_109 = s140.2.2.1 109 109 := fr_F (e_109_109) hF140 rfl; have b1 : z140a = s140.2.2.1 109 111 := e140; first | (rw [← b0, ← b1, ← e_109_28, ← e_109_109, ← e_109_111]; exact n144d) | (rw [← b0, ← b1]; exact n144d)
              have n144f : (u_109_28).toInt = 0 → 1 ≤ ((s140.2.2.1 109 23)).toInt := by have a0 := oa7 i79 ro_109_29 i70 ((inv_F hI 0 200 rfl e_109_111)) ((inv_F hI 0 400 rfl e_109_109)) i140a ((show In (s140.2.2.1 109 23) 0 9 from inv_F hI140 0 9 rfl rfl)); omega
              have n144g : (s.2.2.1 109 28).toInt = 0 → 1 ≤ (s140.2.2.1 109 23).toInt := by rw [← e_109_28]; exact n144f
              exact g_ireturn (gd rfl) rfl (nb01 (in_w 0 1 (in_c 0 rfl) rfl)) (hP _ _ ⟨s140, hI140, (fr_tr rfl fr_rf hF140), n144c, n144e, n144g, (Int32.ofInt 0), rfl, rfl, in_w 0 1 (in_c 0 rfl) rfl, n144, n144a⟩)
          · skip
            have i109 := r_le2 10 2147483647 c109 (in_c 10 rfl) (i_rng z104) rfl
            refine g_aload_n 113 (gd rfl) rfl rfl ?_
            refine g_iconst 3 114 (gd rfl) rfl rfl ?_
            refine g_aload_n 115 (gd rfl) rfl rfl ?_
            refine g_getI 118 (gd rfl) rfl rfl rfl (fun z115 e115 => ?_)
            have q115 : u_109_29 = z115 := (e_109_29).trans e115.symm
            subst q115
            refine g_callv (X := _) (As := [.int (Int32.ofInt 3), .int u_109_29]) (r := []) (b := A 109) (q := 109) 121 (gd rfl) rfl rfl rfl rfl rfl (ww_o rfl) (Nat.le_of_ble_eq_true rfl) (Nat.zero_le _) (Nat.zero_le _) (k_298 (by first | exact dq1 hd rfl | exact dq0 hd rfl | exact dq2 hd rfl | exact dq3 hd rfl | omega) hI (in_w 1 5 (in_c 3 rfl) rfl)) (fun e u h => h) (fun v u h => ?_)
            obtain ⟨s118, hI118, hF118, n118, rfl, rfl⟩ := h
            obtain ⟨z118a, e118⟩ : ∃ w, w = s118.2.2.1 109 23 := ⟨_, rfl⟩
            have i118a := inv_F hI118 0 9 rfl e118
            rw [← (show z118a = s118.2.2.1 109 23 from e118)] at n118
            show GG _ _ _ _ _ _ _ _ [] _ _ _
            refine g_goto 143 (gd rfl) rfl ?_
            refine g_iconst 0 144 (gd rfl) rfl rfl ?_
            have n144 : ((Int32.ofInt 0)).toInt = 0 → PR s s118 0 0 := by intro hR; first | (exfalso; revert hR; decide) | exact pr_hold (hF140.1 187 rfl) (hF140.1 188 rfl) (hF140.2.2.1 109 109 rfl) (hF140.2.2.1 109 23 rfl) p140 (by rw [← e140, ← e_109_111]; exact n140a) (inv_F hI 0 200 rfl rfl).1 (Or.inl ⟨Or.inl rfl, rfl⟩) | exact pr_hold (hF140.1 187 rfl) (hF140.1 188 rfl) (hF140.2.2.1 109 109 rfl) (hF140.2.2.1 109 23 rfl) p140 (by rw [← e140, ← e_109_111]; exact n140a) (inv_F hI 0 200 rfl rfl).1 (Or.inl ⟨Or.inr rfl, rfl⟩) | exact pr_flt (hF97.1 187 rfl) (hF97.1 188 rfl) (hF97.2.2.1 109 109 rfl) (by rw [← e97]; omega) | exact pr_flt (hF118.1 187 rfl) (hF118.1 188 rfl) (hF118.2.2.1 109 109 rfl) (by rw [← e118]; omega)
            have n144a : ((Int32.ofInt 0)).toInt ≠ 0 → PR s s118 0 1 := by exact fun h => absurd rfl h
            have n144b : (u_109_109).toInt + (u_109_111).toInt ≤ (u_109_109).toInt + (u_109_111).toInt + 1 := by have a0 := oa7 i79 ro_109_29 i70 ((inv_F hI 0 200 rfl e_109_111)) ((inv_F hI 0 400 rfl e_109_109)) i118a i109; omega
            have n144c : (s118.2.2.1 109 109).toInt + (s118.2.2.1 109 111).toInt ≤ (s.2.2.1 109 109).toInt + (s.2.2.1 109 111).toInt + 1 := by have b0 : u_109_109 = s118.2.2.1 109 109 := fr_F (e_109_109) hF118 rfl; have b1 : u_109_111 = s118.2.2.1 109 111 := fr_F (e_109_111) hF118 rfl; first | (rw [← b0, ← b1, ← e_109_109, ← e_109_111]; exact n144b) | (rw [← b0, ← b1]; exact n144b)
            have n144d : (u_109_28).toInt = 0 → (u_109_109).toInt + (u_109_111).toInt = (u_109_109).toInt + (u_109_111).toInt := by have a0 := oa7 i79 ro_109_29 i70 ((inv_F hI 0 200 rfl e_109_111)) ((inv_F hI 0 400 rfl e_109_109)) i118a i109; omega
            have n144e : (s.2.2.1 109 28).toInt = 0 → (s118.2.2.1 109 109).toInt + (s118.2.2.1 109 111).toInt = (s.2.2.1 109 109).toInt + (s.2.2.1 109 111).toInt := by have b0 : u_109_109 = s118.2.2.1 109 109 := fr_F (e_109_109) hF118 rfl; have b1 : u_109_111 = s118.2.2.1 109 111 := fr_F (e_109_111) hF118 rfl; first | (rw [← b0, ← b1, ← e_109_28, ← e_109_109, ← e_109_111]; exact n144d) | (rw [← b0, ← b1]; exact n144d)
            have n144f : (u_109_28).toInt = 0 → 1 ≤ (z118a).toInt := by have a0 := oa7 i79 ro_109_29 i70 ((inv_F hI 0 200 rfl e_109_111)) ((inv_F hI 0 400 rfl e_109_109)) i118a i109; omega
            have n144g : (s.2.2.1 109 28).toInt = 0 → 1 ≤ (s118.2.2.1 109 23).toInt := by have b0 : z118a = s118.2.2.1 109 23 := e118; rw [← b0, ← e_109_28]; exact n144f
            exact g_ireturn (gd rfl) rfl (nb01 (in_w 0 1 (in_c 0 rfl) rfl)) (hP _ _ ⟨s118, hI118, (fr_tr rfl fr_rf hF118), n144c, n144e, n144g, (Int32.ofInt 0), rfl, rfl, in_w 0 1 (in_c 0 rfl) rfl, n144, n144a⟩)
        · skip
          refine g_aload_n 83 (gd rfl) rfl rfl ?_
          refine g_getI 86 (gd rfl) rfl rfl rfl (fun z83 e83 => ?_)
          have q83 : u_109_30 = z83 := (e_109_30).trans e83.symm
          subst q83
          refine g_bipush 40 88 (gd rfl) rfl rfl ?_
          refine g_cmp_eq 91 103 (gd rfl) rfl rfl (fun c88 => ?_) (fun c88 => ?_)
          · skip
            have i88 := r_eq1 40 40 c88 (i_rng u_109_30) (in_c 40 rfl) rfl
            refine g_aload_n 104 (gd rfl) rfl rfl ?_
            refine g_getI 107 (gd rfl) rfl rfl rfl (fun z104 e104 => ?_)
            refine g_bipush 10 109 (gd rfl) rfl rfl ?_
            refine g_cmp_lt 112 124 (gd rfl) rfl rfl (fun c109 => ?_) (fun c109 => ?_)
            · skip
              have i109 := r_lt1 (-2147483648) 9 c109 (i_rng z104) (in_c 10 rfl) rfl
              refine g_aload_n 125 (gd rfl) rfl rfl ?_
              refine g_aload_n 126 (gd rfl) rfl rfl ?_
              refine g_getI 129 (gd rfl) rfl rfl rfl (fun z126 e126 => ?_)
              have q126 : u_109_30 = z126 := (e_109_30).trans e126.symm
              subst q126
              refine g_bipush 45 131 (gd rfl) rfl rfl ?_
              refine g_cmp_ne 134 138 (gd rfl) rfl rfl (fun c131 => ?_) (fun c131 => ?_)
              · skip
                refine g_bipush 40 140 (gd rfl) rfl rfl ?_
                have n140 : (u_109_111).toInt ≤ 199 := by have a0 := oa6 i88 ro_109_29 i70 ((inv_F hI 0 200 rfl e_109_111)) ((inv_F hI 0 400 rfl e_109_109)) i109; omega
                refine g_callv (X := _) (As := [.int (Int32.ofInt 40)]) (r := []) (b := A 109) (q := 109) 143 (gd rfl) rfl rfl rfl rfl rfl (ww_o rfl) (Nat.le_of_ble_eq_true rfl) (Nat.zero_le _) (Nat.zero_le _) (k_396 (by first | exact dq1 hd rfl | exact dq0 hd rfl | exact dq2 hd rfl | exact dq3 hd rfl | omega) hI e_109_111 n140) (fun e u h => h) (fun v u h => ?_)
                obtain ⟨s140, hI140, hF140, n140a, rfl, rfl, p140⟩ := h
                obtain ⟨z140a, e140⟩ : ∃ w, w = s140.2.2.1 109 111 := ⟨_, rfl⟩
                have i140a := inv_F hI140 0 200 rfl e140
                rw [← (show u_109_111 = s.2.2.1 109 111 from e_109_111)] at n140a
                rw [← (show z140a = s140.2.2.1 109 111 from e140)] at n140a
                show GG _ _ _ _ _ _ _ _ [] _ _ _
                refine g_iconst 0 144 (gd rfl) rfl rfl ?_
                have n144 : ((Int32.ofInt 0)).toInt = 0 → PR s s140 0 0 := by intro hR; first | (exfalso; revert hR; decide) | exact pr_hold (hF140.1 187 rfl) (hF140.1 188 rfl) (hF140.2.2.1 109 109 rfl) (hF140.2.2.1 109 23 rfl) p140 (by rw [← e140, ← e_109_111]; exact n140a) (inv_F hI 0 200 rfl rfl).1 (Or.inl ⟨Or.inl rfl, rfl⟩) | exact pr_hold (hF140.1 187 rfl) (hF140.1 188 rfl) (hF140.2.2.1 109 109 rfl) (hF140.2.2.1 109 23 rfl) p140 (by rw [← e140, ← e_109_111]; exact n140a) (inv_F hI 0 200 rfl rfl).1 (Or.inl ⟨Or.inr rfl, rfl⟩) | exact pr_flt (hF97.1 187 rfl) (hF97.1 188 rfl) (hF97.2.2.1 109 109 rfl) (by rw [← e97]; omega) | exact pr_flt (hF118.1 187 rfl) (hF118.1 188 rfl) (hF118.2.2.1 109 109 rfl) (by rw [← e118]; omega)
                have n144a : ((Int32.ofInt 0)).toInt ≠ 0 → PR s s140 0 1 := by exact fun h => absurd rfl h
                have n144b : (u_109_109).toInt + (z140a).toInt ≤ (u_109_109).toInt + (u_109_111).toInt + 1 := by have a0 := oa6 i88 ro_109_29 i70 ((inv_F hI 0 200 rfl e_109_111)) ((inv_F hI 0 400 rfl e_109_109)) i140a; omega
                have n144c : (s140.2.2.1 109 109).toInt + (s140.2.2.1 109 111).toInt ≤ (s.2.2.1 109 109).toInt + (s.2.2.1 109 111).toInt + 1 := by have b0 : u_109_109 = s140.2.2.1 109 109 := fr_F (e_109_109) hF140 rfl; have b1 : z140a = s140.2.2.1 109 111 := e140; first | (rw [← b0, ← b1, ← e_109_109, ← e_109_111]; exact n144b) | (rw [← b0, ← b1]; exact n144b)
                have n144d : (u_109_28).toInt = 0 → (u_109_109).toInt + (z140a).toInt = (u_109_109).toInt + (u_109_111).toInt := by have a0 := oa6 i88 ro_109_29 i70 ((inv_F hI 0 200 rfl e_109_111)) ((inv_F hI 0 400 rfl e_109_109)) i140a; omega
                have n144e : (s.2.2.1 109 28).toInt = 0 → (s140.2.2.1 109 109).toInt + (s140.2.2.1 109 111).toInt = (s.2.2.1 109 109).toInt + (s.2.2.1 109 111).toInt := by have b0 : u_109_109 = s140.2.2.1 109 109 := fr_F (e_109_109) hF140 rfl; have b1 : z140a = s140.2.2.1 109 111 := e140; first | (rw [← b0, ← b1, ← e_109_28, ← e_109_109, ← e_109_111]; exact n144d) | (rw [← b0, ← b1]; exact n144d)
                have n144f : (u_109_28).toInt = 0 → 1 ≤ ((s140.2.2.1 109 23)).toInt := by have a0 := oa7 i88 ro_109_29 i70 ((inv_F hI 0 200 rfl e_109_111)) ((inv_F hI 0 400 rfl e_109_109)) i140a ((show In (s140.2.2.1 109 23) 0 9 from inv_F hI140 0 9 rfl rfl)); omega
                have n144g : (s.2.2.1 109 28).toInt = 0 → 1 ≤ (s140.2.2.1 109 23).toInt := by rw [← e_109_28]; exact n144f
                exact g_ireturn (gd rfl) rfl (nb01 (in_w 0 1 (in_c 0 rfl) rfl)) (hP _ _ ⟨s140, hI140, (fr_tr rfl fr_rf hF140), n144c, n144e, n144g, (Int32.ofInt 0), rfl, rfl, in_w 0 1 (in_c 0 rfl) rfl, n144, n144a⟩)
              · skip
                exact absurd c131 c79
            · skip
              have i109 := r_le2 10 2147483647 c109 (in_c 10 rfl) (i_rng z104) rfl
              refine g_aload_n 113 (gd rfl) rfl rfl ?_
              refine g_iconst 3 114 (gd rfl) rfl rfl ?_
              refine g_aload_n 115 (gd rfl) rfl rfl ?_
              refine g_getI 118 (gd rfl) rfl rfl rfl (fun z115 e115 => ?_)
              have q115 : u_109_29 = z115 := (e_109_29).trans e115.symm
              subst q115
              refine g_callv (X := _) (As := [.int (Int32.ofInt 3), .int u_109_29]) (r := []) (b := A 109) (q := 109) 121 (gd rfl) rfl rfl rfl rfl rfl (ww_o rfl) (Nat.le_of_ble_eq_true rfl) (Nat.zero_le _) (Nat.zero_le _) (k_298 (by first | exact dq1 hd rfl | exact dq0 hd rfl | exact dq2 hd rfl | exact dq3 hd rfl | omega) hI (in_w 1 5 (in_c 3 rfl) rfl)) (fun e u h => h) (fun v u h => ?_)
              obtain ⟨s118, hI118, hF118, n118, rfl, rfl⟩ := h
              obtain ⟨z118a, e118⟩ : ∃ w, w = s118.2.2.1 109 23 := ⟨_, rfl⟩
              have i118a := inv_F hI118 0 9 rfl e118
              rw [← (show z118a = s118.2.2.1 109 23 from e118)] at n118
              show GG _ _ _ _ _ _ _ _ [] _ _ _
              refine g_goto 143 (gd rfl) rfl ?_
              refine g_iconst 0 144 (gd rfl) rfl rfl ?_
              have n144 : ((Int32.ofInt 0)).toInt = 0 → PR s s118 0 0 := by intro hR; first | (exfalso; revert hR; decide) | exact pr_hold (hF140.1 187 rfl) (hF140.1 188 rfl) (hF140.2.2.1 109 109 rfl) (hF140.2.2.1 109 23 rfl) p140 (by rw [← e140, ← e_109_111]; exact n140a) (inv_F hI 0 200 rfl rfl).1 (Or.inl ⟨Or.inl rfl, rfl⟩) | exact pr_hold (hF140.1 187 rfl) (hF140.1 188 rfl) (hF140.2.2.1 109 109 rfl) (hF140.2.2.1 109 23 rfl) p140 (by rw [← e140, ← e_109_111]; exact n140a) (inv_F hI 0 200 rfl rfl).1 (Or.inl ⟨Or.inr rfl, rfl⟩) | exact pr_flt (hF97.1 187 rfl) (hF97.1 188 rfl) (hF97.2.2.1 109 109 rfl) (by rw [← e97]; omega) | exact pr_flt (hF118.1 187 rfl) (hF118.1 188 rfl) (hF118.2.2.1 109 109 rfl) (by rw [← e118]; omega)
              have n144a : ((Int32.ofInt 0)).toInt ≠ 0 → PR s s118 0 1 := by exact fun h => absurd rfl h
              have n144b : (u_109_109).toInt + (u_109_111).toInt ≤ (u_109_109).toInt + (u_109_111).toInt + 1 := by have a0 := oa7 i88 ro_109_29 i70 ((inv_F hI 0 200 rfl e_109_111)) ((inv_F hI 0 400 rfl e_109_109)) i118a i109; omega
              have n144c : (s118.2.2.1 109 109).toInt + (s118.2.2.1 109 111).toInt ≤ (s.2.2.1 109 109).toInt + (s.2.2.1 109 111).toInt + 1 := by have b0 : u_109_109 = s118.2.2.1 109 109 := fr_F (e_109_109) hF118 rfl; have b1 : u_109_111 = s118.2.2.1 109 111 := fr_F (e_109_111) hF118 rfl; first | (rw [← b0, ← b1, ← e_109_109, ← e_109_111]; exact n144b) | (rw [← b0, ← b1]; exact n144b)
              have n144d : (u_109_28).toInt = 0 → (u_109_109).toInt + (u_109_111).toInt = (u_109_109).toInt + (u_109_111).toInt := by have a0 := oa7 i88 ro_109_29 i70 ((inv_F hI 0 200 rfl e_109_111)) ((inv_F hI 0 400 rfl e_109_109)) i118a i109; omega
              have n144e : (s.2.2.1 109 28).toInt = 0 → (s118.2.2.1 109 109).toInt + (s118.2.2.1 109 111).toInt = (s.2.2.1 109 109).toInt + (s.2.2.1 109 111).toInt := by have b0 : u_109_109 = s118.2.2.1 109 109 := fr_F (e_109_109) hF118 rfl; have b1 : u_109_111 = s118.2.2.1 109 111 := fr_F (e_109_111) hF118 rfl; first | (rw [← b0, ← b1, ← e_109_28, ← e_109_109, ← e_109_111]; exact n144d) | (rw [← b0, ← b1]; exact n144d)
              have n144f : (u_109_28).toInt = 0 → 1 ≤ (z118a).toInt := by have a0 := oa7 i88 ro_109_29 i70 ((inv_F hI 0 200 rfl e_109_111)) ((inv_F hI 0 400 rfl e_109_109)) i118a i109; omega
              have n144g : (s.2.2.1 109 28).toInt = 0 → 1 ≤ (s118.2.2.1 109 23).toInt := by have b0 : z118a = s118.2.2.1 109 23 := e118; rw [← b0, ← e_109_28]; exact n144f
              exact g_ireturn (gd rfl) rfl (nb01 (in_w 0 1 (in_c 0 rfl) rfl)) (hP _ _ ⟨s118, hI118, (fr_tr rfl fr_rf hF118), n144c, n144e, n144g, (Int32.ofInt 0), rfl, rfl, in_w 0 1 (in_c 0 rfl) rfl, n144, n144a⟩)
          · skip
            refine g_aload_n 92 (gd rfl) rfl rfl ?_
            refine g_iconst 2 93 (gd rfl) rfl rfl ?_
            refine g_aload_n 94 (gd rfl) rfl rfl ?_
            refine g_getI 97 (gd rfl) rfl rfl rfl (fun z94 e94 => ?_)
            have q94 : u_109_29 = z94 := (e_109_29).trans e94.symm
            subst q94
            refine g_callv (X := _) (As := [.int (Int32.ofInt 2), .int u_109_29]) (r := []) (b := A 109) (q := 109) 100 (gd rfl) rfl rfl rfl rfl rfl (ww_o rfl) (Nat.le_of_ble_eq_true rfl) (Nat.zero_le _) (Nat.zero_le _) (k_298 (by first | exact dq1 hd rfl | exact dq0 hd rfl | exact dq2 hd rfl | exact dq3 hd rfl | omega) hI (in_w 1 5 (in_c 2 rfl) rfl)) (fun e u h => h) (fun v u h => ?_)
            obtain ⟨s97, hI97, hF97, n97, rfl, rfl⟩ := h
            obtain ⟨z97a, e97⟩ : ∃ w, w = s97.2.2.1 109 23 := ⟨_, rfl⟩
            have i97a := inv_F hI97 0 9 rfl e97
            rw [← (show z97a = s97.2.2.1 109 23 from e97)] at n97
            show GG _ _ _ _ _ _ _ _ [] _ _ _
            refine g_goto 143 (gd rfl) rfl ?_
            refine g_iconst 0 144 (gd rfl) rfl rfl ?_
            have n144 : ((Int32.ofInt 0)).toInt = 0 → PR s s97 0 0 := by intro hR; first | (exfalso; revert hR; decide) | exact pr_hold (hF140.1 187 rfl) (hF140.1 188 rfl) (hF140.2.2.1 109 109 rfl) (hF140.2.2.1 109 23 rfl) p140 (by rw [← e140, ← e_109_111]; exact n140a) (inv_F hI 0 200 rfl rfl).1 (Or.inl ⟨Or.inl rfl, rfl⟩) | exact pr_hold (hF140.1 187 rfl) (hF140.1 188 rfl) (hF140.2.2.1 109 109 rfl) (hF140.2.2.1 109 23 rfl) p140 (by rw [← e140, ← e_109_111]; exact n140a) (inv_F hI 0 200 rfl rfl).1 (Or.inl ⟨Or.inr rfl, rfl⟩) | exact pr_flt (hF97.1 187 rfl) (hF97.1 188 rfl) (hF97.2.2.1 109 109 rfl) (by rw [← e97]; omega) | exact pr_flt (hF118.1 187 rfl) (hF118.1 188 rfl) (hF118.2.2.1 109 109 rfl) (by rw [← e118]; omega)
            have n144a : ((Int32.ofInt 0)).toInt ≠ 0 → PR s s97 0 1 := by exact fun h => absurd rfl h
            have n144b : (u_109_109).toInt + (u_109_111).toInt ≤ (u_109_109).toInt + (u_109_111).toInt + 1 := by have a0 := oa5 ro_109_29 i70 ((inv_F hI 0 200 rfl e_109_111)) ((inv_F hI 0 400 rfl e_109_109)) i97a; omega
            have n144c : (s97.2.2.1 109 109).toInt + (s97.2.2.1 109 111).toInt ≤ (s.2.2.1 109 109).toInt + (s.2.2.1 109 111).toInt + 1 := by have b0 : u_109_109 = s97.2.2.1 109 109 := fr_F (e_109_109) hF97 rfl; have b1 : u_109_111 = s97.2.2.1 109 111 := fr_F (e_109_111) hF97 rfl; first | (rw [← b0, ← b1, ← e_109_109, ← e_109_111]; exact n144b) | (rw [← b0, ← b1]; exact n144b)
            have n144d : (u_109_28).toInt = 0 → (u_109_109).toInt + (u_109_111).toInt = (u_109_109).toInt + (u_109_111).toInt := by have a0 := oa5 ro_109_29 i70 ((inv_F hI 0 200 rfl e_109_111)) ((inv_F hI 0 400 rfl e_109_109)) i97a; omega
            have n144e : (s.2.2.1 109 28).toInt = 0 → (s97.2.2.1 109 109).toInt + (s97.2.2.1 109 111).toInt = (s.2.2.1 109 109).toInt + (s.2.2.1 109 111).toInt := by have b0 : u_109_109 = s97.2.2.1 109 109 := fr_F (e_109_109) hF97 rfl; have b1 : u_109_111 = s97.2.2.1 109 111 := fr_F (e_109_111) hF97 rfl; first | (rw [← b0, ← b1, ← e_109_28, ← e_109_109, ← e_109_111]; exact n144d) | (rw [← b0, ← b1]; exact n144d)
            have n144f : (u_109_28).toInt = 0 → 1 ≤ (z97a).toInt := by have a0 := oa5 ro_109_29 i70 ((inv_F hI 0 200 rfl e_109_111)) ((inv_F hI 0 400 rfl e_109_109)) i97a; omega
            have n144g : (s.2.2.1 109 28).toInt = 0 → 1 ≤ (s97.2.2.1 109 23).toInt := by have b0 : z97a = s97.2.2.1 109 23 := e97; rw [← b0, ← e_109_28]; exact n144f
            exact g_ireturn (gd rfl) rfl (nb01 (in_w 0 1 (in_c 0 rfl) rfl)) (hP _ _ ⟨s97, hI97, (fr_tr rfl fr_rf hF97), n144c, n144e, n144g, (Int32.ofInt 0), rfl, rfl, in_w 0 1 (in_c 0 rfl) rfl, n144, n144a⟩)
    · skip
      have i29 := r_eq1 1 1 c29 (inv_F hI (-2147483648) 2147483647 rfl e_109_28) (in_c 1 rfl) rfl
      refine g_aload_n 33 (gd rfl) rfl rfl ?_
      refine g_getI 36 (gd rfl) rfl rfl rfl (fun z33 e33 => ?_)
      have q33 : u_109_30 = z33 := (e_109_30).trans e33.symm
      subst q33
      refine g_calls (As := [.int u_109_30]) (r := []) 39 (gd rfl) rfl rfl rfl rfl rfl (Nat.le_of_ble_eq_true rfl) (mc := 0) (ms := 0) (Nat.zero_le _) (Nat.zero_le _) (P := fun v u => _) ?_ (fun v u h => h)
      intro po36 xx36 hp36 hx36
      refine g_enter2 (k := 394) (N := 300) (by first | exact dq1 hd rfl | exact dq0 hd rfl | exact dq2 hd rfl | exact dq3 hd rfl | omega) rfl (Nat.le_of_ble_eq_true rfl) ?_
      refine g_iload_n 1 (gd rfl) rfl rfl ?_
      refine g_tsw [106, 121, 121, 118, 121, 108, 121, 121, 104, 115, 102, 121, 121, 121, 110, 112, 121, 121, 121, 121, 100] 121 (gd rfl) rfl rfl rfl ⟨fun c36x1 => ?_, fun c36x1 => ?_, fun c36x1 => ?_, fun c36x1 => ?_, fun c36x1 => ?_, fun c36x1 => ?_, fun c36x1 => ?_, fun c36x1 => ?_, fun c36x1 => ?_, fun c36x1 => ?_, fun c36x1 => ?_, fun c36x1 => ?_, fun c36x1 => ?_, fun c36x1 => ?_, fun c36x1 => ?_, fun c36x1 => ?_, fun c36x1 => ?_, fun c36x1 => ?_, fun c36x1 => ?_, fun c36x1 => ?_, fun c36x1 => ?_, trivial⟩ (fun c36x1 => ?_)
      · skip
        have i36x1 := sw_eq c36x1
        refine g_iconst 3 107 (gd rfl) rfl rfl ?_
        refine g_ireturn (gd rfl) rfl rfl (hp36 _ _ ?_)
        show GG _ _ _ _ _ _ _ _ [.int (Int32.ofInt 3)] _ _ _
        refine g_istore_n 40 (gd rfl) rfl (Nat.le_of_ble_eq_true rfl) ?_
        refine g_iload_n 41 (gd rfl) rfl rfl ?_
        refine g_if_ge 44 53 (gd rfl) rfl rfl (fun c41 => ?_) (fun c41 => ?_)
        · skip
          refine g_aload_n 54 (gd rfl) rfl rfl ?_
          refine g_iconst 1 55 (gd rfl) rfl rfl ?_
          refine g_iload_n 56 (gd rfl) rfl rfl ?_
          have n56 : (u_109_109).toInt ≤ 399 := by have a0 := oa6 i36x1 ro_109_29 i29 ((inv_F hI 0 200 rfl e_109_111)) ((inv_F hI 0 400 rfl e_109_109)) ((in_c 3 rfl)); omega
          refine g_callv (X := _) (As := [.int (Int32.ofInt 1), .int (Int32.ofInt 3)]) (r := []) (b := A 109) (q := 109) 59 (gd rfl) rfl rfl rfl rfl rfl (ww_o rfl) (Nat.le_of_ble_eq_true rfl) (Nat.zero_le _) (Nat.zero_le _) (k_393 (by first | exact dq1 hd rfl | exact dq0 hd rfl | exact dq2 hd rfl | exact dq3 hd rfl | omega) hI e_109_109 n56) (fun e u h => h) (fun v u h => ?_)
          obtain ⟨s56, hI56, hF56, n56a, rfl, rfl, p56, p56a⟩ := h
          obtain ⟨z56a, e56⟩ : ∃ w, w = s56.2.2.1 109 109 := ⟨_, rfl⟩
          have i56a := inv_F hI56 0 400 rfl e56
          rw [← (show u_109_109 = s.2.2.1 109 109 from e_109_109)] at n56a
          rw [← (show z56a = s56.2.2.1 109 109 from e56)] at n56a
          show GG _ _ _ _ _ _ _ _ [] _ _ _
          refine g_aload_n 60 (gd rfl) rfl rfl ?_
          have v60 : u_109_111 = s56.2.2.1 109 111 := fr_F (e_109_111) hF56 rfl
          have n60 : (z56a).toInt + (u_109_111).toInt ≤ 120 := by have a0 := oa7 i36x1 ro_109_29 i29 ((inv_F hI 0 200 rfl e_109_111)) ((inv_F hI 0 400 rfl e_109_109)) ((in_c 3 rfl)) i56a; omega
          refine g_callv (X := _) (As := []) (r := []) (b := A 109) (q := 109) 63 (gd rfl) rfl rfl rfl rfl rfl (ww_o rfl) (Nat.le_of_ble_eq_true rfl) (Nat.zero_le _) (Nat.zero_le _) (k_400 (by first | exact dq1 hd rfl | exact dq0 hd rfl | exact dq2 hd rfl | exact dq3 hd rfl | omega) hI56 e56 v60 n60) (fun e u h => h) (fun v u h => ?_)
          obtain ⟨s60, hI60, hF60, n60a, rfl, rfl, p60⟩ := h
          obtain ⟨z60a, e60⟩ : ∃ w, w = s60.2.2.1 109 109 := ⟨_, rfl⟩
          have i60a := inv_F hI60 0 400 rfl e60
          obtain ⟨z60b, e60a⟩ : ∃ w, w = s60.2.2.1 109 111 := ⟨_, rfl⟩
          have i60b := inv_F hI60 0 200 rfl e60a
          rw [← (show z56a = s56.2.2.1 109 109 from e56)] at n60a
          rw [← (show u_109_111 = s56.2.2.1 109 111 from fr_F (e_109_111) hF56 rfl)] at n60a
          rw [← (show z60a = s60.2.2.1 109 109 from e60)] at n60a
          rw [← (show z60b = s60.2.2.1 109 111 from e60a)] at n60a
          show GG _ _ _ _ _ _ _ _ [] _ _ _
          refine g_iconst 1 64 (gd rfl) rfl rfl ?_
          have n64 : ((Int32.ofInt 1)).toInt = 0 → PR s s60 0 0 := by exact fun h => absurd h (by decide)
          have n64a : ((Int32.ofInt 1)).toInt ≠ 0 → PR s s60 0 1 := by intro hR; first | (exact absurd rfl hR) | exact pr_tr (pr_val p15 p15a rfl (inv_F hI 0 400 rfl rfl).1 (by rw [← e15, ← e_109_109]; exact n15a) (hF15.2.2.1 109 23 rfl) (hF15.1 190 rfl) (hF15.2.2.1 109 111 rfl) (fun _ => Or.inl rfl)) p19 | exact pr_tr (pr_val p56 p56a rfl (inv_F hI 0 400 rfl rfl).1 (by rw [← e56, ← e_109_109]; exact n56a) (hF56.2.2.1 109 23 rfl) (hF56.1 190 rfl) (hF56.2.2.1 109 111 rfl) (fun _ => Or.inr ⟨rfl, by decide, by decide⟩)) p60 | exact pr_tr (pr_tr (b := 0) (pr_flt (hF50.1 187 rfl) (hF50.1 188 rfl) (hF50.2.2.1 109 109 rfl) (by rw [← e50]; omega)) (pr_val p56 p56a rfl (inv_F hI50 0 400 rfl rfl).1 (by rw [← e56, ← (show u_109_109 = s50.2.2.1 109 109 from fr_F e_109_109 hF50 rfl)]; exact n56a) (hF56.2.2.1 109 23 rfl) (hF56.1 190 rfl) (hF56.2.2.1 109 111 rfl) (fun h => absurd h (by rw [← e50]; omega)))) p60
          have n64b : (z60a).toInt + (z60b).toInt ≤ (u_109_109).toInt + (u_109_111).toInt + 1 := by have a0 := oa8 i36x1 ro_109_29 i29 ((inv_F hI 0 200 rfl e_109_111)) ((inv_F hI 0 400 rfl e_109_109)) ((in_c 3 rfl)) i60b i60a; omega
          have n64c : (s60.2.2.1 109 109).toInt + (s60.2.2.1 109 111).toInt ≤ (s.2.2.1 109 109).toInt + (s.2.2.1 109 111).toInt + 1 := by have b0 : z60a = s60.2.2.1 109 109 := e60; have b1 : z60b = s60.2.2.1 109 111 := e60a; first | (rw [← b0, ← b1, ← e_109_109, ← e_109_111]; exact n64b) | (rw [← b0, ← b1]; exact n64b)
          have n64d : (u_109_28).toInt = 0 → (z60a).toInt + (z60b).toInt = (u_109_109).toInt + (u_109_111).toInt := by have a0 := oa8 i36x1 ro_109_29 i29 ((inv_F hI 0 200 rfl e_109_111)) ((inv_F hI 0 400 rfl e_109_109)) ((in_c 3 rfl)) i60b i60a; omega
          have n64e : (s.2.2.1 109 28).toInt = 0 → (s60.2.2.1 109 109).toInt + (s60.2.2.1 109 111).toInt = (s.2.2.1 109 109).toInt + (s.2.2.1 109 111).toInt := by have b0 : z60a = s60.2.2.1 109 109 := e60; have b1 : z60b = s60.2.2.1 109 111 := e60a; first | (rw [← b0, ← b1, ← e_109_28, ← e_109_109, ← e_109_111]; exact n64d) | (rw [← b0, ← b1]; exact n64d)
          have n64f : (u_109_28).toInt = 0 → 1 ≤ ((s60.2.2.1 109 23)).toInt := by have a0 := oa9 i36x1 ro_109_29 i29 ((inv_F hI 0 200 rfl e_109_111)) ((inv_F hI 0 400 rfl e_109_109)) ((in_c 3 rfl)) i60b i60a ((show In (s60.2.2.1 109 23) 0 9 from inv_F hI60 0 9 rfl rfl)); omega
          have n64g : (s.2.2.1 109 28).toInt = 0 → 1 ≤ (s60.2.2.1 109 23).toInt := by rw [← e_109_28]; exact n64f
          exact g_ireturn (gd rfl) rfl (nb01 (in_w 0 1 (in_c 1 rfl) rfl)) (hP _ _ ⟨s60, hI60, (fr_tr rfl (fr_tr rfl fr_rf hF56) hF60), n64c, n64e, n64g, (Int32.ofInt 1), rfl, rfl, in_w 0 1 (in_c 1 rfl) rfl, n64, n64a⟩)
        · skip
          exact zn_lt c41 (in_c 3 rfl) rfl
      · skip
        have i36x1 := sw_eq c36x1
        refine g_iconst (-1) 122 (gd rfl) rfl rfl ?_
        refine g_ireturn (gd rfl) rfl rfl (hp36 _ _ ?_)
        show GG _ _ _ _ _ _ _ _ [.int (Int32.ofInt (-1))] _ _ _
        refine g_istore_n 40 (gd rfl) rfl (Nat.le_of_ble_eq_true rfl) ?_
        refine g_iload_n 41 (gd rfl) rfl rfl ?_
        refine g_if_ge 44 53 (gd rfl) rfl rfl (fun c41 => ?_) (fun c41 => ?_)
        · skip
          exact zn_ge c41 (in_c (-1) rfl) rfl
        · skip
          refine g_aload_n 45 (gd rfl) rfl rfl ?_
          refine g_iconst 5 46 (gd rfl) rfl rfl ?_
          refine g_aload_n 47 (gd rfl) rfl rfl ?_
          refine g_getI 50 (gd rfl) rfl rfl rfl (fun z47 e47 => ?_)
          have q47 : u_109_29 = z47 := (e_109_29).trans e47.symm
          subst q47
          refine g_callv (X := _) (As := [.int (Int32.ofInt 5), .int u_109_29]) (r := []) (b := A 109) (q := 109) 53 (gd rfl) rfl rfl rfl rfl rfl (ww_o rfl) (Nat.le_of_ble_eq_true rfl) (Nat.zero_le _) (Nat.zero_le _) (k_298 (by first | exact dq1 hd rfl | exact dq0 hd rfl | exact dq2 hd rfl | exact dq3 hd rfl | omega) hI (in_w 1 5 (in_c 5 rfl) rfl)) (fun e u h => h) (fun v u h => ?_)
          obtain ⟨s50, hI50, hF50, n50, rfl, rfl⟩ := h
          obtain ⟨z50a, e50⟩ : ∃ w, w = s50.2.2.1 109 23 := ⟨_, rfl⟩
          have i50a := inv_F hI50 0 9 rfl e50
          rw [← (show z50a = s50.2.2.1 109 23 from e50)] at n50
          show GG _ _ _ _ _ _ _ _ [] _ _ _
          refine g_aload_n 54 (gd rfl) rfl rfl ?_
          refine g_iconst 1 55 (gd rfl) rfl rfl ?_
          refine g_iload_n 56 (gd rfl) rfl rfl ?_
          have v56 : u_109_109 = s50.2.2.1 109 109 := fr_F (e_109_109) hF50 rfl
          have n56 : (u_109_109).toInt ≤ 399 := by have a0 := oa7 i36x1 ro_109_29 i29 ((inv_F hI 0 200 rfl e_109_111)) ((inv_F hI 0 400 rfl e_109_109)) ((in_c (-1) rfl)) i50a; omega
          refine g_callv (X := _) (As := [.int (Int32.ofInt 1), .int (Int32.ofInt (-1))]) (r := []) (b := A 109) (q := 109) 59 (gd rfl) rfl rfl rfl rfl rfl (ww_o rfl) (Nat.le_of_ble_eq_true rfl) (Nat.zero_le _) (Nat.zero_le _) (k_393 (by first | exact dq1 hd rfl | exact dq0 hd rfl | exact dq2 hd rfl | exact dq3 hd rfl | omega) hI50 v56 n56) (fun e u h => h) (fun v u h => ?_)
          obtain ⟨s56, hI56, hF56, n56a, rfl, rfl, p56, p56a⟩ := h
          obtain ⟨z56a, e56⟩ : ∃ w, w = s56.2.2.1 109 109 := ⟨_, rfl⟩
          have i56a := inv_F hI56 0 400 rfl e56
          rw [← (show u_109_109 = s50.2.2.1 109 109 from fr_F (e_109_109) hF50 rfl)] at n56a
          rw [← (show z56a = s56.2.2.1 109 109 from e56)] at n56a
          show GG _ _ _ _ _ _ _ _ [] _ _ _
          refine g_aload_n 60 (gd rfl) rfl rfl ?_
          have v60 : u_109_111 = s56.2.2.1 109 111 := fr_F (fr_F (e_109_111) hF50 rfl) hF56 rfl
          have n60 : (z56a).toInt + (u_109_111).toInt ≤ 120 := by have a0 := oa8 i36x1 ro_109_29 i29 ((inv_F hI 0 200 rfl e_109_111)) ((inv_F hI 0 400 rfl e_109_109)) ((in_c (-1) rfl)) i56a i50a; omega
          refine g_callv (X := _) (As := []) (r := []) (b := A 109) (q := 109) 63 (gd rfl) rfl rfl rfl rfl rfl (ww_o rfl) (Nat.le_of_ble_eq_true rfl) (Nat.zero_le _) (Nat.zero_le _) (k_400 (by first | exact dq1 hd rfl | exact dq0 hd rfl | exact dq2 hd rfl | exact dq3 hd rfl | omega) hI56 e56 v60 n60) (fun e u h => h) (fun v u h => ?_)
          obtain ⟨s60, hI60, hF60, n60a, rfl, rfl, p60⟩ := h
          obtain ⟨z60a, e60⟩ : ∃ w, w = s60.2.2.1 109 109 := ⟨_, rfl⟩
          have i60a := inv_F hI60 0 400 rfl e60
          obtain ⟨z60b, e60a⟩ : ∃ w, w = s60.2.2.1 109 111 := ⟨_, rfl⟩
          have i60b := inv_F hI60 0 200 rfl e60a
          rw [← (show z56a = s56.2.2.1 109 109 from e56)] at n60a
          rw [← (show u_109_111 = s56.2.2.1 109 111 from fr_F (fr_F (e_109_111) hF50 rfl) hF56 rfl)] at n60a
          rw [← (show z60a = s60.2.2.1 109 109 from e60)] at n60a
          rw [← (show z60b = s60.2.2.1 109 111 from e60a)] at n60a
          show GG _ _ _ _ _ _ _ _ [] _ _ _
          refine g_iconst 1 64 (gd rfl) rfl rfl ?_
          have n64 : ((Int32.ofInt 1)).toInt = 0 → PR s s60 0 0 := by exact fun h => absurd h (by decide)
          have n64a : ((Int32.ofInt 1)).toInt ≠ 0 → PR s s60 0 1 := by intro hR; first | (exact absurd rfl hR) | exact pr_tr (pr_val p15 p15a rfl (inv_F hI 0 400 rfl rfl).1 (by rw [← e15, ← e_109_109]; exact n15a) (hF15.2.2.1 109 23 rfl) (hF15.1 190 rfl) (hF15.2.2.1 109 111 rfl) (fun _ => Or.inl rfl)) p19 | exact pr_tr (pr_val p56 p56a rfl (inv_F hI 0 400 rfl rfl).1 (by rw [← e56, ← e_109_109]; exact n56a) (hF56.2.2.1 109 23 rfl) (hF56.1 190 rfl) (hF56.2.2.1 109 111 rfl) (fun _ => Or.inr ⟨rfl, by decide, by decide⟩)) p60 | exact pr_tr (pr_tr (b := 0) (pr_flt (hF50.1 187 rfl) (hF50.1 188 rfl) (hF50.2.2.1 109 109 rfl) (by rw [← e50]; omega)) (pr_val p56 p56a rfl (inv_F hI50 0 400 rfl rfl).1 (by rw [← e56, ← (show u_109_109 = s50.2.2.1 109 109 from fr_F e_109_109 hF50 rfl)]; exact n56a) (hF56.2.2.1 109 23 rfl) (hF56.1 190 rfl) (hF56.2.2.1 109 111 rfl) (fun h => absurd h (by rw [← e50]; omega)))) p60
          have n64b : (z60a).toInt + (z60b).toInt ≤ (u_109_109).toInt + (u_109_111).toInt + 1 := by have a0 := oa9 i36x1 ro_109_29 i29 ((inv_F hI 0 200 rfl e_109_111)) ((inv_F hI 0 400 rfl e_109_109)) ((in_c (-1) rfl)) i60b i60a i50a; omega
          have n64c : (s60.2.2.1 109 109).toInt + (s60.2.2.1 109 111).toInt ≤ (s.2.2.1 109 109).toInt + (s.2.2.1 109 111).toInt + 1 := by have b0 : z60a = s60.2.2.1 109 109 := e60; have b1 : z60b = s60.2.2.1 109 111 := e60a; first | (rw [← b0, ← b1, ← e_109_109, ← e_109_111]; exact n64b) | (rw [← b0, ← b1]; exact n64b)
          have n64d : (u_109_28).toInt = 0 → (z60a).toInt + (z60b).toInt = (u_109_109).toInt + (u_109_111).toInt := by have a0 := oa9 i36x1 ro_109_29 i29 ((inv_F hI 0 200 rfl e_109_111)) ((inv_F hI 0 400 rfl e_109_109)) ((in_c (-1) rfl)) i60b i60a i50a; omega
          have n64e : (s.2.2.1 109 28).toInt = 0 → (s60.2.2.1 109 109).toInt + (s60.2.2.1 109 111).toInt = (s.2.2.1 109 109).toInt + (s.2.2.1 109 111).toInt := by have b0 : z60a = s60.2.2.1 109 109 := e60; have b1 : z60b = s60.2.2.1 109 111 := e60a; first | (rw [← b0, ← b1, ← e_109_28, ← e_109_109, ← e_109_111]; exact n64d) | (rw [← b0, ← b1]; exact n64d)
          have n64f : (u_109_28).toInt = 0 → 1 ≤ (z50a).toInt := by have a0 := oa9 i36x1 ro_109_29 i29 ((inv_F hI 0 200 rfl e_109_111)) ((inv_F hI 0 400 rfl e_109_109)) ((in_c (-1) rfl)) i60b i60a i50a; omega
          have n64g : (s.2.2.1 109 28).toInt = 0 → 1 ≤ (s60.2.2.1 109 23).toInt := by have b0 : z50a = s60.2.2.1 109 23 := fr_F (fr_F (e50) hF56 rfl) hF60 rfl; rw [← b0, ← e_109_28]; exact n64f
          exact g_ireturn (gd rfl) rfl (nb01 (in_w 0 1 (in_c 1 rfl) rfl)) (hP _ _ ⟨s60, hI60, (fr_tr rfl (fr_tr rfl (fr_tr rfl fr_rf hF50) hF56) hF60), n64c, n64e, n64g, (Int32.ofInt 1), rfl, rfl, in_w 0 1 (in_c 1 rfl) rfl, n64, n64a⟩)
      · skip
        have i36x1 := sw_eq c36x1
        refine g_iconst (-1) 122 (gd rfl) rfl rfl ?_
        refine g_ireturn (gd rfl) rfl rfl (hp36 _ _ ?_)
        show GG _ _ _ _ _ _ _ _ [.int (Int32.ofInt (-1))] _ _ _
        refine g_istore_n 40 (gd rfl) rfl (Nat.le_of_ble_eq_true rfl) ?_
        refine g_iload_n 41 (gd rfl) rfl rfl ?_
        refine g_if_ge 44 53 (gd rfl) rfl rfl (fun c41 => ?_) (fun c41 => ?_)
        · skip
          exact zn_ge c41 (in_c (-1) rfl) rfl
        · skip
          refine g_aload_n 45 (gd rfl) rfl rfl ?_
          refine g_iconst 5 46 (gd rfl) rfl rfl ?_
          refine g_aload_n 47 (gd rfl) rfl rfl ?_
          refine g_getI 50 (gd rfl) rfl rfl rfl (fun z47 e47 => ?_)
          have q47 : u_109_29 = z47 := (e_109_29).trans e47.symm
          subst q47
          refine g_callv (X := _) (As := [.int (Int32.ofInt 5), .int u_109_29]) (r := []) (b := A 109) (q := 109) 53 (gd rfl) rfl rfl rfl rfl rfl (ww_o rfl) (Nat.le_of_ble_eq_true rfl) (Nat.zero_le _) (Nat.zero_le _) (k_298 (by first | exact dq1 hd rfl | exact dq0 hd rfl | exact dq2 hd rfl | exact dq3 hd rfl | omega) hI (in_w 1 5 (in_c 5 rfl) rfl)) (fun e u h => h) (fun v u h => ?_)
          obtain ⟨s50, hI50, hF50, n50, rfl, rfl⟩ := h
          obtain ⟨z50a, e50⟩ : ∃ w, w = s50.2.2.1 109 23 := ⟨_, rfl⟩
          have i50a := inv_F hI50 0 9 rfl e50
          rw [← (show z50a = s50.2.2.1 109 23 from e50)] at n50
          show GG _ _ _ _ _ _ _ _ [] _ _ _
          refine g_aload_n 54 (gd rfl) rfl rfl ?_
          refine g_iconst 1 55 (gd rfl) rfl rfl ?_
          refine g_iload_n 56 (gd rfl) rfl rfl ?_
          have v56 : u_109_109 = s50.2.2.1 109 109 := fr_F (e_109_109) hF50 rfl
          have n56 : (u_109_109).toInt ≤ 399 := by have a0 := oa7 i36x1 ro_109_29 i29 ((inv_F hI 0 200 rfl e_109_111)) ((inv_F hI 0 400 rfl e_109_109)) ((in_c (-1) rfl)) i50a; omega
          refine g_callv (X := _) (As := [.int (Int32.ofInt 1), .int (Int32.ofInt (-1))]) (r := []) (b := A 109) (q := 109) 59 (gd rfl) rfl rfl rfl rfl rfl (ww_o rfl) (Nat.le_of_ble_eq_true rfl) (Nat.zero_le _) (Nat.zero_le _) (k_393 (by first | exact dq1 hd rfl | exact dq0 hd rfl | exact dq2 hd rfl | exact dq3 hd rfl | omega) hI50 v56 n56) (fun e u h => h) (fun v u h => ?_)
          obtain ⟨s56, hI56, hF56, n56a, rfl, rfl, p56, p56a⟩ := h
          obtain ⟨z56a, e56⟩ : ∃ w, w = s56.2.2.1 109 109 := ⟨_, rfl⟩
          have i56a := inv_F hI56 0 400 rfl e56
          rw [← (show u_109_109 = s50.2.2.1 109 109 from fr_F (e_109_109) hF50 rfl)] at n56a
          rw [← (show z56a = s56.2.2.1 109 109 from e56)] at n56a
          show GG _ _ _ _ _ _ _ _ [] _ _ _
          refine g_aload_n 60 (gd rfl) rfl rfl ?_
          have v60 : u_109_111 = s56.2.2.1 109 111 := fr_F (fr_F (e_109_111) hF50 rfl) hF56 rfl
          have n60 : (z56a).toInt + (u_109_111).toInt ≤ 120 := by have a0 := oa8 i36x1 ro_109_29 i29 ((inv_F hI 0 200 rfl e_109_111)) ((inv_F hI 0 400 rfl e_109_109)) ((in_c (-1) rfl)) i56a i50a; omega
          refine g_callv (X := _) (As := []) (r := []) (b := A 109) (q := 109) 63 (gd rfl) rfl rfl rfl rfl rfl (ww_o rfl) (Nat.le_of_ble_eq_true rfl) (Nat.zero_le _) (Nat.zero_le _) (k_400 (by first | exact dq1 hd rfl | exact dq0 hd rfl | exact dq2 hd rfl | exact dq3 hd rfl | omega) hI56 e56 v60 n60) (fun e u h => h) (fun v u h => ?_)
          obtain ⟨s60, hI60, hF60, n60a, rfl, rfl, p60⟩ := h
          obtain ⟨z60a, e60⟩ : ∃ w, w = s60.2.2.1 109 109 := ⟨_, rfl⟩
          have i60a := inv_F hI60 0 400 rfl e60
          obtain ⟨z60b, e60a⟩ : ∃ w, w = s60.2.2.1 109 111 := ⟨_, rfl⟩
          have i60b := inv_F hI60 0 200 rfl e60a
          rw [← (show z56a = s56.2.2.1 109 109 from e56)] at n60a
          rw [← (show u_109_111 = s56.2.2.1 109 111 from fr_F (fr_F (e_109_111) hF50 rfl) hF56 rfl)] at n60a
          rw [← (show z60a = s60.2.2.1 109 109 from e60)] at n60a
          rw [← (show z60b = s60.2.2.1 109 111 from e60a)] at n60a
          show GG _ _ _ _ _ _ _ _ [] _ _ _
          refine g_iconst 1 64 (gd rfl) rfl rfl ?_
          have n64 : ((Int32.ofInt 1)).toInt = 0 → PR s s60 0 0 := by exact fun h => absurd h (by decide)
          have n64a : ((Int32.ofInt 1)).toInt ≠ 0 → PR s s60 0 1 := by intro hR; first | (exact absurd rfl hR) | exact pr_tr (pr_val p15 p15a rfl (inv_F hI 0 400 rfl rfl).1 (by rw [← e15, ← e_109_109]; exact n15a) (hF15.2.2.1 109 23 rfl) (hF15.1 190 rfl) (hF15.2.2.1 109 111 rfl) (fun _ => Or.inl rfl)) p19 | exact pr_tr (pr_val p56 p56a rfl (inv_F hI 0 400 rfl rfl).1 (by rw [← e56, ← e_109_109]; exact n56a) (hF56.2.2.1 109 23 rfl) (hF56.1 190 rfl) (hF56.2.2.1 109 111 rfl) (fun _ => Or.inr ⟨rfl, by decide, by decide⟩)) p60 | exact pr_tr (pr_tr (b := 0) (pr_flt (hF50.1 187 rfl) (hF50.1 188 rfl) (hF50.2.2.1 109 109 rfl) (by rw [← e50]; omega)) (pr_val p56 p56a rfl (inv_F hI50 0 400 rfl rfl).1 (by rw [← e56, ← (show u_109_109 = s50.2.2.1 109 109 from fr_F e_109_109 hF50 rfl)]; exact n56a) (hF56.2.2.1 109 23 rfl) (hF56.1 190 rfl) (hF56.2.2.1 109 111 rfl) (fun h => absurd h (by rw [← e50]; omega)))) p60
          have n64b : (z60a).toInt + (z60b).toInt ≤ (u_109_109).toInt + (u_109_111).toInt + 1 := by have a0 := oa9 i36x1 ro_109_29 i29 ((inv_F hI 0 200 rfl e_109_111)) ((inv_F hI 0 400 rfl e_109_109)) ((in_c (-1) rfl)) i60b i60a i50a; omega
          have n64c : (s60.2.2.1 109 109).toInt + (s60.2.2.1 109 111).toInt ≤ (s.2.2.1 109 109).toInt + (s.2.2.1 109 111).toInt + 1 := by have b0 : z60a = s60.2.2.1 109 109 := e60; have b1 : z60b = s60.2.2.1 109 111 := e60a; first | (rw [← b0, ← b1, ← e_109_109, ← e_109_111]; exact n64b) | (rw [← b0, ← b1]; exact n64b)
          have n64d : (u_109_28).toInt = 0 → (z60a).toInt + (z60b).toInt = (u_109_109).toInt + (u_109_111).toInt := by have a0 := oa9 i36x1 ro_109_29 i29 ((inv_F hI 0 200 rfl e_109_111)) ((inv_F hI 0 400 rfl e_109_109)) ((in_c (-1) rfl)) i60b i60a i50a; omega
          have n64e : (s.2.2.1 109 28).toInt = 0 → (s60.2.2.1 109 109).toInt + (s60.2.2.1 109 111).toInt = (s.2.2.1 109 109).toInt + (s.2.2.1 109 111).toInt := by have b0 : z60a = s60.2.2.1 109 109 := e60; have b1 : z60b = s60.2.2.1 109 111 := e60a; first | (rw [← b0, ← b1, ← e_109_28, ← e_109_109, ← e_109_111]; exact n64d) | (rw [← b0, ← b1]; exact n64d)
          have n64f : (u_109_28).toInt = 0 → 1 ≤ (z50a).toInt := by have a0 := oa9 i36x1 ro_109_29 i29 ((inv_F hI 0 200 rfl e_109_111)) ((inv_F hI 0 400 rfl e_109_109)) ((in_c (-1) rfl)) i60b i60a i50a; omega
          have n64g : (s.2.2.1 109 28).toInt = 0 → 1 ≤ (s60.2.2.1 109 23).toInt := by have b0 : z50a = s60.2.2.1 109 23 := fr_F (fr_F (e50) hF56 rfl) hF60 rfl; rw [← b0, ← e_109_28]; exact n64f
          exact g_ireturn (gd rfl) rfl (nb01 (in_w 0 1 (in_c 1 rfl) rfl)) (hP _ _ ⟨s60, hI60, (fr_tr rfl (fr_tr rfl (fr_tr rfl fr_rf hF50) hF56) hF60), n64c, n64e, n64g, (Int32.ofInt 1), rfl, rfl, in_w 0 1 (in_c 1 rfl) rfl, n64, n64a⟩)
      · skip
        have i36x1 := sw_eq c36x1
        refine g_bipush 8 120 (gd rfl) rfl rfl ?_
        refine g_ireturn (gd rfl) rfl rfl (hp36 _ _ ?_)
        show GG _ _ _ _ _ _ _ _ [.int (Int32.ofInt 8)] _ _ _
        refine g_istore_n 40 (gd rfl) rfl (Nat.le_of_ble_eq_true rfl) ?_
        refine g_iload_n 41 (gd rfl) rfl rfl ?_
        refine g_if_ge 44 53 (gd rfl) rfl rfl (fun c41 => ?_) (fun c41 => ?_)
        · skip
          refine g_aload_n 54 (gd rfl) rfl rfl ?_
          refine g_iconst 1 55 (gd rfl) rfl rfl ?_
          refine g_iload_n 56 (gd rfl) rfl rfl ?_
          have n56 : (u_109_109).toInt ≤ 399 := by have a0 := oa6 i36x1 ro_109_29 i29 ((inv_F hI 0 200 rfl e_109_111)) ((inv_F hI 0 400 rfl e_109_109)) ((in_c 8 rfl)); omega
          refine g_callv (X := _) (As := [.int (Int32.ofInt 1), .int (Int32.ofInt 8)]) (r := []) (b := A 109) (q := 109) 59 (gd rfl) rfl rfl rfl rfl rfl (ww_o rfl) (Nat.le_of_ble_eq_true rfl) (Nat.zero_le _) (Nat.zero_le _) (k_393 (by first | exact dq1 hd rfl | exact dq0 hd rfl | exact dq2 hd rfl | exact dq3 hd rfl | omega) hI e_109_109 n56) (fun e u h => h) (fun v u h => ?_)
          obtain ⟨s56, hI56, hF56, n56a, rfl, rfl, p56, p56a⟩ := h
          obtain ⟨z56a, e56⟩ : ∃ w, w = s56.2.2.1 109 109 := ⟨_, rfl⟩
          have i56a := inv_F hI56 0 400 rfl e56
          rw [← (show u_109_109 = s.2.2.1 109 109 from e_109_109)] at n56a
          rw [← (show z56a = s56.2.2.1 109 109 from e56)] at n56a
          show GG _ _ _ _ _ _ _ _ [] _ _ _
          refine g_aload_n 60 (gd rfl) rfl rfl ?_
          have v60 : u_109_111 = s56.2.2.1 109 111 := fr_F (e_109_111) hF56 rfl
          have n60 : (z56a).toInt + (u_109_111).toInt ≤ 120 := by have a0 := oa7 i36x1 ro_109_29 i29 ((inv_F hI 0 200 rfl e_109_111)) ((inv_F hI 0 400 rfl e_109_109)) ((in_c 8 rfl)) i56a; omega
          refine g_callv (X := _) (As := []) (r := []) (b := A 109) (q := 109) 63 (gd rfl) rfl rfl rfl rfl rfl (ww_o rfl) (Nat.le_of_ble_eq_true rfl) (Nat.zero_le _) (Nat.zero_le _) (k_400 (by first | exact dq1 hd rfl | exact dq0 hd rfl | exact dq2 hd rfl | exact dq3 hd rfl | omega) hI56 e56 v60 n60) (fun e u h => h) (fun v u h => ?_)
          obtain ⟨s60, hI60, hF60, n60a, rfl, rfl, p60⟩ := h
          obtain ⟨z60a, e60⟩ : ∃ w, w = s60.2.2.1 109 109 := ⟨_, rfl⟩
          have i60a := inv_F hI60 0 400 rfl e60
          obtain ⟨z60b, e60a⟩ : ∃ w, w = s60.2.2.1 109 111 := ⟨_, rfl⟩
          have i60b := inv_F hI60 0 200 rfl e60a
          rw [← (show z56a = s56.2.2.1 109 109 from e56)] at n60a
          rw [← (show u_109_111 = s56.2.2.1 109 111 from fr_F (e_109_111) hF56 rfl)] at n60a
          rw [← (show z60a = s60.2.2.1 109 109 from e60)] at n60a
          rw [← (show z60b = s60.2.2.1 109 111 from e60a)] at n60a
          show GG _ _ _ _ _ _ _ _ [] _ _ _
          refine g_iconst 1 64 (gd rfl) rfl rfl ?_
          have n64 : ((Int32.ofInt 1)).toInt = 0 → PR s s60 0 0 := by exact fun h => absurd h (by decide)
          have n64a : ((Int32.ofInt 1)).toInt ≠ 0 → PR s s60 0 1 := by intro hR; first | (exact absurd rfl hR) | exact pr_tr (pr_val p15 p15a rfl (inv_F hI 0 400 rfl rfl).1 (by rw [← e15, ← e_109_109]; exact n15a) (hF15.2.2.1 109 23 rfl) (hF15.1 190 rfl) (hF15.2.2.1 109 111 rfl) (fun _ => Or.inl rfl)) p19 | exact pr_tr (pr_val p56 p56a rfl (inv_F hI 0 400 rfl rfl).1 (by rw [← e56, ← e_109_109]; exact n56a) (hF56.2.2.1 109 23 rfl) (hF56.1 190 rfl) (hF56.2.2.1 109 111 rfl) (fun _ => Or.inr ⟨rfl, by decide, by decide⟩)) p60 | exact pr_tr (pr_tr (b := 0) (pr_flt (hF50.1 187 rfl) (hF50.1 188 rfl) (hF50.2.2.1 109 109 rfl) (by rw [← e50]; omega)) (pr_val p56 p56a rfl (inv_F hI50 0 400 rfl rfl).1 (by rw [← e56, ← (show u_109_109 = s50.2.2.1 109 109 from fr_F e_109_109 hF50 rfl)]; exact n56a) (hF56.2.2.1 109 23 rfl) (hF56.1 190 rfl) (hF56.2.2.1 109 111 rfl) (fun h => absurd h (by rw [← e50]; omega)))) p60
          have n64b : (z60a).toInt + (z60b).toInt ≤ (u_109_109).toInt + (u_109_111).toInt + 1 := by have a0 := oa8 i36x1 ro_109_29 i29 ((inv_F hI 0 200 rfl e_109_111)) ((inv_F hI 0 400 rfl e_109_109)) ((in_c 8 rfl)) i60b i60a; omega
          have n64c : (s60.2.2.1 109 109).toInt + (s60.2.2.1 109 111).toInt ≤ (s.2.2.1 109 109).toInt + (s.2.2.1 109 111).toInt + 1 := by have b0 : z60a = s60.2.2.1 109 109 := e60; have b1 : z60b = s60.2.2.1 109 111 := e60a; first | (rw [← b0, ← b1, ← e_109_109, ← e_109_111]; exact n64b) | (rw [← b0, ← b1]; exact n64b)
          have n64d : (u_109_28).toInt = 0 → (z60a).toInt + (z60b).toInt = (u_109_109).toInt + (u_109_111).toInt := by have a0 := oa8 i36x1 ro_109_29 i29 ((inv_F hI 0 200 rfl e_109_111)) ((inv_F hI 0 400 rfl e_109_109)) ((in_c 8 rfl)) i60b i60a; omega
          have n64e : (s.2.2.1 109 28).toInt = 0 → (s60.2.2.1 109 109).toInt + (s60.2.2.1 109 111).toInt = (s.2.2.1 109 109).toInt + (s.2.2.1 109 111).toInt := by have b0 : z60a = s60.2.2.1 109 109 := e60; have b1 : z60b = s60.2.2.1 109 111 := e60a; first | (rw [← b0, ← b1, ← e_109_28, ← e_109_109, ← e_109_111]; exact n64d) | (rw [← b0, ← b1]; exact n64d)
          have n64f : (u_109_28).toInt = 0 → 1 ≤ ((s60.2.2.1 109 23)).toInt := by have a0 := oa9 i36x1 ro_109_29 i29 ((inv_F hI 0 200 rfl e_109_111)) ((inv_F hI 0 400 rfl e_109_109)) ((in_c 8 rfl)) i60b i60a ((show In (s60.2.2.1 109 23) 0 9 from inv_F hI60 0 9 rfl rfl)); omega
          have n64g : (s.2.2.1 109 28).toInt = 0 → 1 ≤ (s60.2.2.1 109 23).toInt := by rw [← e_109_28]; exact n64f
          exact g_ireturn (gd rfl) rfl (nb01 (in_w 0 1 (in_c 1 rfl) rfl)) (hP _ _ ⟨s60, hI60, (fr_tr rfl (fr_tr rfl fr_rf hF56) hF60), n64c, n64e, n64g, (Int32.ofInt 1), rfl, rfl, in_w 0 1 (in_c 1 rfl) rfl, n64, n64a⟩)
        · skip
          exact zn_lt c41 (in_c 8 rfl) rfl
      · skip
        have i36x1 := sw_eq c36x1
        refine g_iconst (-1) 122 (gd rfl) rfl rfl ?_
        refine g_ireturn (gd rfl) rfl rfl (hp36 _ _ ?_)
        show GG _ _ _ _ _ _ _ _ [.int (Int32.ofInt (-1))] _ _ _
        refine g_istore_n 40 (gd rfl) rfl (Nat.le_of_ble_eq_true rfl) ?_
        refine g_iload_n 41 (gd rfl) rfl rfl ?_
        refine g_if_ge 44 53 (gd rfl) rfl rfl (fun c41 => ?_) (fun c41 => ?_)
        · skip
          exact zn_ge c41 (in_c (-1) rfl) rfl
        · skip
          refine g_aload_n 45 (gd rfl) rfl rfl ?_
          refine g_iconst 5 46 (gd rfl) rfl rfl ?_
          refine g_aload_n 47 (gd rfl) rfl rfl ?_
          refine g_getI 50 (gd rfl) rfl rfl rfl (fun z47 e47 => ?_)
          have q47 : u_109_29 = z47 := (e_109_29).trans e47.symm
          subst q47
          refine g_callv (X := _) (As := [.int (Int32.ofInt 5), .int u_109_29]) (r := []) (b := A 109) (q := 109) 53 (gd rfl) rfl rfl rfl rfl rfl (ww_o rfl) (Nat.le_of_ble_eq_true rfl) (Nat.zero_le _) (Nat.zero_le _) (k_298 (by first | exact dq1 hd rfl | exact dq0 hd rfl | exact dq2 hd rfl | exact dq3 hd rfl | omega) hI (in_w 1 5 (in_c 5 rfl) rfl)) (fun e u h => h) (fun v u h => ?_)
          obtain ⟨s50, hI50, hF50, n50, rfl, rfl⟩ := h
          obtain ⟨z50a, e50⟩ : ∃ w, w = s50.2.2.1 109 23 := ⟨_, rfl⟩
          have i50a := inv_F hI50 0 9 rfl e50
          rw [← (show z50a = s50.2.2.1 109 23 from e50)] at n50
          show GG _ _ _ _ _ _ _ _ [] _ _ _
          refine g_aload_n 54 (gd rfl) rfl rfl ?_
          refine g_iconst 1 55 (gd rfl) rfl rfl ?_
          refine g_iload_n 56 (gd rfl) rfl rfl ?_
          have v56 : u_109_109 = s50.2.2.1 109 109 := fr_F (e_109_109) hF50 rfl
          have n56 : (u_109_109).toInt ≤ 399 := by have a0 := oa7 i36x1 ro_109_29 i29 ((inv_F hI 0 200 rfl e_109_111)) ((inv_F hI 0 400 rfl e_109_109)) ((in_c (-1) rfl)) i50a; omega
          refine g_callv (X := _) (As := [.int (Int32.ofInt 1), .int (Int32.ofInt (-1))]) (r := []) (b := A 109) (q := 109) 59 (gd rfl) rfl rfl rfl rfl rfl (ww_o rfl) (Nat.le_of_ble_eq_true rfl) (Nat.zero_le _) (Nat.zero_le _) (k_393 (by first | exact dq1 hd rfl | exact dq0 hd rfl | exact dq2 hd rfl | exact dq3 hd rfl | omega) hI50 v56 n56) (fun e u h => h) (fun v u h => ?_)
          obtain ⟨s56, hI56, hF56, n56a, rfl, rfl, p56, p56a⟩ := h
          obtain ⟨z56a, e56⟩ : ∃ w, w = s56.2.2.1 109 109 := ⟨_, rfl⟩
          have i56a := inv_F hI56 0 400 rfl e56
          rw [← (show u_109_109 = s50.2.2.1 109 109 from fr_F (e_109_109) hF50 rfl)] at n56a
          rw [← (show z56a = s56.2.2.1 109 109 from e56)] at n56a
          show GG _ _ _ _ _ _ _ _ [] _ _ _
          refine g_aload_n 60 (gd rfl) rfl rfl ?_
          have v60 : u_109_111 = s56.2.2.1 109 111 := fr_F (fr_F (e_109_111) hF50 rfl) hF56 rfl
          have n60 : (z56a).toInt + (u_109_111).toInt ≤ 120 := by have a0 := oa8 i36x1 ro_109_29 i29 ((inv_F hI 0 200 rfl e_109_111)) ((inv_F hI 0 400 rfl e_109_109)) ((in_c (-1) rfl)) i56a i50a; omega
          refine g_callv (X := _) (As := []) (r := []) (b := A 109) (q := 109) 63 (gd rfl) rfl rfl rfl rfl rfl (ww_o rfl) (Nat.le_of_ble_eq_true rfl) (Nat.zero_le _) (Nat.zero_le _) (k_400 (by first | exact dq1 hd rfl | exact dq0 hd rfl | exact dq2 hd rfl | exact dq3 hd rfl | omega) hI56 e56 v60 n60) (fun e u h => h) (fun v u h => ?_)
          obtain ⟨s60, hI60, hF60, n60a, rfl, rfl, p60⟩ := h
          obtain ⟨z60a, e60⟩ : ∃ w, w = s60.2.2.1 109 109 := ⟨_, rfl⟩
          have i60a := inv_F hI60 0 400 rfl e60
          obtain ⟨z60b, e60a⟩ : ∃ w, w = s60.2.2.1 109 111 := ⟨_, rfl⟩
          have i60b := inv_F hI60 0 200 rfl e60a
          rw [← (show z56a = s56.2.2.1 109 109 from e56)] at n60a
          rw [← (show u_109_111 = s56.2.2.1 109 111 from fr_F (fr_F (e_109_111) hF50 rfl) hF56 rfl)] at n60a
          rw [← (show z60a = s60.2.2.1 109 109 from e60)] at n60a
          rw [← (show z60b = s60.2.2.1 109 111 from e60a)] at n60a
          show GG _ _ _ _ _ _ _ _ [] _ _ _
          refine g_iconst 1 64 (gd rfl) rfl rfl ?_
          have n64 : ((Int32.ofInt 1)).toInt = 0 → PR s s60 0 0 := by exact fun h => absurd h (by decide)
          have n64a : ((Int32.ofInt 1)).toInt ≠ 0 → PR s s60 0 1 := by intro hR; first | (exact absurd rfl hR) | exact pr_tr (pr_val p15 p15a rfl (inv_F hI 0 400 rfl rfl).1 (by rw [← e15, ← e_109_109]; exact n15a) (hF15.2.2.1 109 23 rfl) (hF15.1 190 rfl) (hF15.2.2.1 109 111 rfl) (fun _ => Or.inl rfl)) p19 | exact pr_tr (pr_val p56 p56a rfl (inv_F hI 0 400 rfl rfl).1 (by rw [← e56, ← e_109_109]; exact n56a) (hF56.2.2.1 109 23 rfl) (hF56.1 190 rfl) (hF56.2.2.1 109 111 rfl) (fun _ => Or.inr ⟨rfl, by decide, by decide⟩)) p60 | exact pr_tr (pr_tr (b := 0) (pr_flt (hF50.1 187 rfl) (hF50.1 188 rfl) (hF50.2.2.1 109 109 rfl) (by rw [← e50]; omega)) (pr_val p56 p56a rfl (inv_F hI50 0 400 rfl rfl).1 (by rw [← e56, ← (show u_109_109 = s50.2.2.1 109 109 from fr_F e_109_109 hF50 rfl)]; exact n56a) (hF56.2.2.1 109 23 rfl) (hF56.1 190 rfl) (hF56.2.2.1 109 111 rfl) (fun h => absurd h (by rw [← e50]; omega)))) p60
          have n64b : (z60a).toInt + (z60b).toInt ≤ (u_109_109).toInt + (u_109_111).toInt + 1 := by have a0 := oa9 i36x1 ro_109_29 i29 ((inv_F hI 0 200 rfl e_109_111)) ((inv_F hI 0 400 rfl e_109_109)) ((in_c (-1) rfl)) i60b i60a i50a; omega
          have n64c : (s60.2.2.1 109 109).toInt + (s60.2.2.1 109 111).toInt ≤ (s.2.2.1 109 109).toInt + (s.2.2.1 109 111).toInt + 1 := by have b0 : z60a = s60.2.2.1 109 109 := e60; have b1 : z60b = s60.2.2.1 109 111 := e60a; first | (rw [← b0, ← b1, ← e_109_109, ← e_109_111]; exact n64b) | (rw [← b0, ← b1]; exact n64b)
          have n64d : (u_109_28).toInt = 0 → (z60a).toInt + (z60b).toInt = (u_109_109).toInt + (u_109_111).toInt := by have a0 := oa9 i36x1 ro_109_29 i29 ((inv_F hI 0 200 rfl e_109_111)) ((inv_F hI 0 400 rfl e_109_109)) ((in_c (-1) rfl)) i60b i60a i50a; omega
          have n64e : (s.2.2.1 109 28).toInt = 0 → (s60.2.2.1 109 109).toInt + (s60.2.2.1 109 111).toInt = (s.2.2.1 109 109).toInt + (s.2.2.1 109 111).toInt := by have b0 : z60a = s60.2.2.1 109 109 := e60; have b1 : z60b = s60.2.2.1 109 111 := e60a; first | (rw [← b0, ← b1, ← e_109_28, ← e_109_109, ← e_109_111]; exact n64d) | (rw [← b0, ← b1]; exact n64d)
          have n64f : (u_109_28).toInt = 0 → 1 ≤ (z50a).toInt := by have a0 := oa9 i36x1 ro_109_29 i29 ((inv_F hI 0 200 rfl e_109_111)) ((inv_F hI 0 400 rfl e_109_109)) ((in_c (-1) rfl)) i60b i60a i50a; omega
          have n64g : (s.2.2.1 109 28).toInt = 0 → 1 ≤ (s60.2.2.1 109 23).toInt := by have b0 : z50a = s60.2.2.1 109 23 := fr_F (fr_F (e50) hF56 rfl) hF60 rfl; rw [← b0, ← e_109_28]; exact n64f
          exact g_ireturn (gd rfl) rfl (nb01 (in_w 0 1 (in_c 1 rfl) rfl)) (hP _ _ ⟨s60, hI60, (fr_tr rfl (fr_tr rfl (fr_tr rfl fr_rf hF50) hF56) hF60), n64c, n64e, n64g, (Int32.ofInt 1), rfl, rfl, in_w 0 1 (in_c 1 rfl) rfl, n64, n64a⟩)
      · skip
        have i36x1 := sw_eq c36x1
        refine g_iconst 4 109 (gd rfl) rfl rfl ?_
        refine g_ireturn (gd rfl) rfl rfl (hp36 _ _ ?_)
        show GG _ _ _ _ _ _ _ _ [.int (Int32.ofInt 4)] _ _ _
        refine g_istore_n 40 (gd rfl) rfl (Nat.le_of_ble_eq_true rfl) ?_
        refine g_iload_n 41 (gd rfl) rfl rfl ?_
        refine g_if_ge 44 53 (gd rfl) rfl rfl (fun c41 => ?_) (fun c41 => ?_)
        · skip
          refine g_aload_n 54 (gd rfl) rfl rfl ?_
          refine g_iconst 1 55 (gd rfl) rfl rfl ?_
          refine g_iload_n 56 (gd rfl) rfl rfl ?_
          have n56 : (u_109_109).toInt ≤ 399 := by have a0 := oa6 i36x1 ro_109_29 i29 ((inv_F hI 0 200 rfl e_109_111)) ((inv_F hI 0 400 rfl e_109_109)) ((in_c 4 rfl)); omega
          refine g_callv (X := _) (As := [.int (Int32.ofInt 1), .int (Int32.ofInt 4)]) (r := []) (b := A 109) (q := 109) 59 (gd rfl) rfl rfl rfl rfl rfl (ww_o rfl) (Nat.le_of_ble_eq_true rfl) (Nat.zero_le _) (Nat.zero_le _) (k_393 (by first | exact dq1 hd rfl | exact dq0 hd rfl | exact dq2 hd rfl | exact dq3 hd rfl | omega) hI e_109_109 n56) (fun e u h => h) (fun v u h => ?_)
          obtain ⟨s56, hI56, hF56, n56a, rfl, rfl, p56, p56a⟩ := h
          obtain ⟨z56a, e56⟩ : ∃ w, w = s56.2.2.1 109 109 := ⟨_, rfl⟩
          have i56a := inv_F hI56 0 400 rfl e56
          rw [← (show u_109_109 = s.2.2.1 109 109 from e_109_109)] at n56a
          rw [← (show z56a = s56.2.2.1 109 109 from e56)] at n56a
          show GG _ _ _ _ _ _ _ _ [] _ _ _
          refine g_aload_n 60 (gd rfl) rfl rfl ?_
          have v60 : u_109_111 = s56.2.2.1 109 111 := fr_F (e_109_111) hF56 rfl
          have n60 : (z56a).toInt + (u_109_111).toInt ≤ 120 := by have a0 := oa7 i36x1 ro_109_29 i29 ((inv_F hI 0 200 rfl e_109_111)) ((inv_F hI 0 400 rfl e_109_109)) ((in_c 4 rfl)) i56a; omega
          refine g_callv (X := _) (As := []) (r := []) (b := A 109) (q := 109) 63 (gd rfl) rfl rfl rfl rfl rfl (ww_o rfl) (Nat.le_of_ble_eq_true rfl) (Nat.zero_le _) (Nat.zero_le _) (k_400 (by first | exact dq1 hd rfl | exact dq0 hd rfl | exact dq2 hd rfl | exact dq3 hd rfl | omega) hI56 e56 v60 n60) (fun e u h => h) (fun v u h => ?_)
          obtain ⟨s60, hI60, hF60, n60a, rfl, rfl, p60⟩ := h
          obtain ⟨z60a, e60⟩ : ∃ w, w = s60.2.2.1 109 109 := ⟨_, rfl⟩
          have i60a := inv_F hI60 0 400 rfl e60
          obtain ⟨z60b, e60a⟩ : ∃ w, w = s60.2.2.1 109 111 := ⟨_, rfl⟩
          have i60b := inv_F hI60 0 200 rfl e60a
          rw [← (show z56a = s56.2.2.1 109 109 from e56)] at n60a
          rw [← (show u_109_111 = s56.2.2.1 109 111 from fr_F (e_109_111) hF56 rfl)] at n60a
          rw [← (show z60a = s60.2.2.1 109 109 from e60)] at n60a
          rw [← (show z60b = s60.2.2.1 109 111 from e60a)] at n60a
          show GG _ _ _ _ _ _ _ _ [] _ _ _
          refine g_iconst 1 64 (gd rfl) rfl rfl ?_
          have n64 : ((Int32.ofInt 1)).toInt = 0 → PR s s60 0 0 := by exact fun h => absurd h (by decide)
          have n64a : ((Int32.ofInt 1)).toInt ≠ 0 → PR s s60 0 1 := by intro hR; first | (exact absurd rfl hR) | exact pr_tr (pr_val p15 p15a rfl (inv_F hI 0 400 rfl rfl).1 (by rw [← e15, ← e_109_109]; exact n15a) (hF15.2.2.1 109 23 rfl) (hF15.1 190 rfl) (hF15.2.2.1 109 111 rfl) (fun _ => Or.inl rfl)) p19 | exact pr_tr (pr_val p56 p56a rfl (inv_F hI 0 400 rfl rfl).1 (by rw [← e56, ← e_109_109]; exact n56a) (hF56.2.2.1 109 23 rfl) (hF56.1 190 rfl) (hF56.2.2.1 109 111 rfl) (fun _ => Or.inr ⟨rfl, by decide, by decide⟩)) p60 | exact pr_tr (pr_tr (b := 0) (pr_flt (hF50.1 187 rfl) (hF50.1 188 rfl) (hF50.2.2.1 109 109 rfl) (by rw [← e50]; omega)) (pr_val p56 p56a rfl (inv_F hI50 0 400 rfl rfl).1 (by rw [← e56, ← (show u_109_109 = s50.2.2.1 109 109 from fr_F e_109_109 hF50 rfl)]; exact n56a) (hF56.2.2.1 109 23 rfl) (hF56.1 190 rfl) (hF56.2.2.1 109 111 rfl) (fun h => absurd h (by rw [← e50]; omega)))) p60
          have n64b : (z60a).toInt + (z60b).toInt ≤ (u_109_109).toInt + (u_109_111).toInt + 1 := by have a0 := oa8 i36x1 ro_109_29 i29 ((inv_F hI 0 200 rfl e_109_111)) ((inv_F hI 0 400 rfl e_109_109)) ((in_c 4 rfl)) i60b i60a; omega
          have n64c : (s60.2.2.1 109 109).toInt + (s60.2.2.1 109 111).toInt ≤ (s.2.2.1 109 109).toInt + (s.2.2.1 109 111).toInt + 1 := by have b0 : z60a = s60.2.2.1 109 109 := e60; have b1 : z60b = s60.2.2.1 109 111 := e60a; first | (rw [← b0, ← b1, ← e_109_109, ← e_109_111]; exact n64b) | (rw [← b0, ← b1]; exact n64b)
          have n64d : (u_109_28).toInt = 0 → (z60a).toInt + (z60b).toInt = (u_109_109).toInt + (u_109_111).toInt := by have a0 := oa8 i36x1 ro_109_29 i29 ((inv_F hI 0 200 rfl e_109_111)) ((inv_F hI 0 400 rfl e_109_109)) ((in_c 4 rfl)) i60b i60a; omega
          have n64e : (s.2.2.1 109 28).toInt = 0 → (s60.2.2.1 109 109).toInt + (s60.2.2.1 109 111).toInt = (s.2.2.1 109 109).toInt + (s.2.2.1 109 111).toInt := by have b0 : z60a = s60.2.2.1 109 109 := e60; have b1 : z60b = s60.2.2.1 109 111 := e60a; first | (rw [← b0, ← b1, ← e_109_28, ← e_109_109, ← e_109_111]; exact n64d) | (rw [← b0, ← b1]; exact n64d)
          have n64f : (u_109_28).toInt = 0 → 1 ≤ ((s60.2.2.1 109 23)).toInt := by have a0 := oa9 i36x1 ro_109_29 i29 ((inv_F hI 0 200 rfl e_109_111)) ((inv_F hI 0 400 rfl e_109_109)) ((in_c 4 rfl)) i60b i60a ((show In (s60.2.2.1 109 23) 0 9 from inv_F hI60 0 9 rfl rfl)); omega
          have n64g : (s.2.2.1 109 28).toInt = 0 → 1 ≤ (s60.2.2.1 109 23).toInt := by rw [← e_109_28]; exact n64f
          exact g_ireturn (gd rfl) rfl (nb01 (in_w 0 1 (in_c 1 rfl) rfl)) (hP _ _ ⟨s60, hI60, (fr_tr rfl (fr_tr rfl fr_rf hF56) hF60), n64c, n64e, n64g, (Int32.ofInt 1), rfl, rfl, in_w 0 1 (in_c 1 rfl) rfl, n64, n64a⟩)
        · skip
          exact zn_lt c41 (in_c 4 rfl) rfl
      · skip
        have i36x1 := sw_eq c36x1
        refine g_iconst (-1) 122 (gd rfl) rfl rfl ?_
        refine g_ireturn (gd rfl) rfl rfl (hp36 _ _ ?_)
        show GG _ _ _ _ _ _ _ _ [.int (Int32.ofInt (-1))] _ _ _
        refine g_istore_n 40 (gd rfl) rfl (Nat.le_of_ble_eq_true rfl) ?_
        refine g_iload_n 41 (gd rfl) rfl rfl ?_
        refine g_if_ge 44 53 (gd rfl) rfl rfl (fun c41 => ?_) (fun c41 => ?_)
        · skip
          exact zn_ge c41 (in_c (-1) rfl) rfl
        · skip
          refine g_aload_n 45 (gd rfl) rfl rfl ?_
          refine g_iconst 5 46 (gd rfl) rfl rfl ?_
          refine g_aload_n 47 (gd rfl) rfl rfl ?_
          refine g_getI 50 (gd rfl) rfl rfl rfl (fun z47 e47 => ?_)
          have q47 : u_109_29 = z47 := (e_109_29).trans e47.symm
          subst q47
          refine g_callv (X := _) (As := [.int (Int32.ofInt 5), .int u_109_29]) (r := []) (b := A 109) (q := 109) 53 (gd rfl) rfl rfl rfl rfl rfl (ww_o rfl) (Nat.le_of_ble_eq_true rfl) (Nat.zero_le _) (Nat.zero_le _) (k_298 (by first | exact dq1 hd rfl | exact dq0 hd rfl | exact dq2 hd rfl | exact dq3 hd rfl | omega) hI (in_w 1 5 (in_c 5 rfl) rfl)) (fun e u h => h) (fun v u h => ?_)
          obtain ⟨s50, hI50, hF50, n50, rfl, rfl⟩ := h
          obtain ⟨z50a, e50⟩ : ∃ w, w = s50.2.2.1 109 23 := ⟨_, rfl⟩
          have i50a := inv_F hI50 0 9 rfl e50
          rw [← (show z50a = s50.2.2.1 109 23 from e50)] at n50
          show GG _ _ _ _ _ _ _ _ [] _ _ _
          refine g_aload_n 54 (gd rfl) rfl rfl ?_
          refine g_iconst 1 55 (gd rfl) rfl rfl ?_
          refine g_iload_n 56 (gd rfl) rfl rfl ?_
          have v56 : u_109_109 = s50.2.2.1 109 109 := fr_F (e_109_109) hF50 rfl
          have n56 : (u_109_109).toInt ≤ 399 := by have a0 := oa7 i36x1 ro_109_29 i29 ((inv_F hI 0 200 rfl e_109_111)) ((inv_F hI 0 400 rfl e_109_109)) ((in_c (-1) rfl)) i50a; omega
          refine g_callv (X := _) (As := [.int (Int32.ofInt 1), .int (Int32.ofInt (-1))]) (r := []) (b := A 109) (q := 109) 59 (gd rfl) rfl rfl rfl rfl rfl (ww_o rfl) (Nat.le_of_ble_eq_true rfl) (Nat.zero_le _) (Nat.zero_le _) (k_393 (by first | exact dq1 hd rfl | exact dq0 hd rfl | exact dq2 hd rfl | exact dq3 hd rfl | omega) hI50 v56 n56) (fun e u h => h) (fun v u h => ?_)
          obtain ⟨s56, hI56, hF56, n56a, rfl, rfl, p56, p56a⟩ := h
          obtain ⟨z56a, e56⟩ : ∃ w, w = s56.2.2.1 109 109 := ⟨_, rfl⟩
          have i56a := inv_F hI56 0 400 rfl e56
          rw [← (show u_109_109 = s50.2.2.1 109 109 from fr_F (e_109_109) hF50 rfl)] at n56a
          rw [← (show z56a = s56.2.2.1 109 109 from e56)] at n56a
          show GG _ _ _ _ _ _ _ _ [] _ _ _
          refine g_aload_n 60 (gd rfl) rfl rfl ?_
          have v60 : u_109_111 = s56.2.2.1 109 111 := fr_F (fr_F (e_109_111) hF50 rfl) hF56 rfl
          have n60 : (z56a).toInt + (u_109_111).toInt ≤ 120 := by have a0 := oa8 i36x1 ro_109_29 i29 ((inv_F hI 0 200 rfl e_109_111)) ((inv_F hI 0 400 rfl e_109_109)) ((in_c (-1) rfl)) i56a i50a; omega
          refine g_callv (X := _) (As := []) (r := []) (b := A 109) (q := 109) 63 (gd rfl) rfl rfl rfl rfl rfl (ww_o rfl) (Nat.le_of_ble_eq_true rfl) (Nat.zero_le _) (Nat.zero_le _) (k_400 (by first | exact dq1 hd rfl | exact dq0 hd rfl | exact dq2 hd rfl | exact dq3 hd rfl | omega) hI56 e56 v60 n60) (fun e u h => h) (fun v u h => ?_)
          obtain ⟨s60, hI60, hF60, n60a, rfl, rfl, p60⟩ := h
          obtain ⟨z60a, e60⟩ : ∃ w, w = s60.2.2.1 109 109 := ⟨_, rfl⟩
          have i60a := inv_F hI60 0 400 rfl e60
          obtain ⟨z60b, e60a⟩ : ∃ w, w = s60.2.2.1 109 111 := ⟨_, rfl⟩
          have i60b := inv_F hI60 0 200 rfl e60a
          rw [← (show z56a = s56.2.2.1 109 109 from e56)] at n60a
          rw [← (show u_109_111 = s56.2.2.1 109 111 from fr_F (fr_F (e_109_111) hF50 rfl) hF56 rfl)] at n60a
          rw [← (show z60a = s60.2.2.1 109 109 from e60)] at n60a
          rw [← (show z60b = s60.2.2.1 109 111 from e60a)] at n60a
          show GG _ _ _ _ _ _ _ _ [] _ _ _
          refine g_iconst 1 64 (gd rfl) rfl rfl ?_
          have n64 : ((Int32.ofInt 1)).toInt = 0 → PR s s60 0 0 := by exact fun h => absurd h (by decide)
          have n64a : ((Int32.ofInt 1)).toInt ≠ 0 → PR s s60 0 1 := by intro hR; first | (exact absurd rfl hR) | exact pr_tr (pr_val p15 p15a rfl (inv_F hI 0 400 rfl rfl).1 (by rw [← e15, ← e_109_109]; exact n15a) (hF15.2.2.1 109 23 rfl) (hF15.1 190 rfl) (hF15.2.2.1 109 111 rfl) (fun _ => Or.inl rfl)) p19 | exact pr_tr (pr_val p56 p56a rfl (inv_F hI 0 400 rfl rfl).1 (by rw [← e56, ← e_109_109]; exact n56a) (hF56.2.2.1 109 23 rfl) (hF56.1 190 rfl) (hF56.2.2.1 109 111 rfl) (fun _ => Or.inr ⟨rfl, by decide, by decide⟩)) p60 | exact pr_tr (pr_tr (b := 0) (pr_flt (hF50.1 187 rfl) (hF50.1 188 rfl) (hF50.2.2.1 109 109 rfl) (by rw [← e50]; omega)) (pr_val p56 p56a rfl (inv_F hI50 0 400 rfl rfl).1 (by rw [← e56, ← (show u_109_109 = s50.2.2.1 109 109 from fr_F e_109_109 hF50 rfl)]; exact n56a) (hF56.2.2.1 109 23 rfl) (hF56.1 190 rfl) (hF56.2.2.1 109 111 rfl) (fun h => absurd h (by rw [← e50]; omega)))) p60
          have n64b : (z60a).toInt + (z60b).toInt ≤ (u_109_109).toInt + (u_109_111).toInt + 1 := by have a0 := oa9 i36x1 ro_109_29 i29 ((inv_F hI 0 200 rfl e_109_111)) ((inv_F hI 0 400 rfl e_109_109)) ((in_c (-1) rfl)) i60b i60a i50a; omega
          have n64c : (s60.2.2.1 109 109).toInt + (s60.2.2.1 109 111).toInt ≤ (s.2.2.1 109 109).toInt + (s.2.2.1 109 111).toInt + 1 := by have b0 : z60a = s60.2.2.1 109 109 := e60; have b1 : z60b = s60.2.2.1 109 111 := e60a; first | (rw [← b0, ← b1, ← e_109_109, ← e_109_111]; exact n64b) | (rw [← b0, ← b1]; exact n64b)
          have n64d : (u_109_28).toInt = 0 → (z60a).toInt + (z60b).toInt = (u_109_109).toInt + (u_109_111).toInt := by have a0 := oa9 i36x1 ro_109_29 i29 ((inv_F hI 0 200 rfl e_109_111)) ((inv_F hI 0 400 rfl e_109_109)) ((in_c (-1) rfl)) i60b i60a i50a; omega
          have n64e : (s.2.2.1 109 28).toInt = 0 → (s60.2.2.1 109 109).toInt + (s60.2.2.1 109 111).toInt = (s.2.2.1 109 109).toInt + (s.2.2.1 109 111).toInt := by have b0 : z60a = s60.2.2.1 109 109 := e60; have b1 : z60b = s60.2.2.1 109 111 := e60a; first | (rw [← b0, ← b1, ← e_109_28, ← e_109_109, ← e_109_111]; exact n64d) | (rw [← b0, ← b1]; exact n64d)
          have n64f : (u_109_28).toInt = 0 → 1 ≤ (z50a).toInt := by have a0 := oa9 i36x1 ro_109_29 i29 ((inv_F hI 0 200 rfl e_109_111)) ((inv_F hI 0 400 rfl e_109_109)) ((in_c (-1) rfl)) i60b i60a i50a; omega
          have n64g : (s.2.2.1 109 28).toInt = 0 → 1 ≤ (s60.2.2.1 109 23).toInt := by have b0 : z50a = s60.2.2.1 109 23 := fr_F (fr_F (e50) hF56 rfl) hF60 rfl; rw [← b0, ← e_109_28]; exact n64f
          exact g_ireturn (gd rfl) rfl (nb01 (in_w 0 1 (in_c 1 rfl) rfl)) (hP _ _ ⟨s60, hI60, (fr_tr rfl (fr_tr rfl (fr_tr rfl fr_rf hF50) hF56) hF60), n64c, n64e, n64g, (Int32.ofInt 1), rfl, rfl, in_w 0 1 (in_c 1 rfl) rfl, n64, n64a⟩)
      · skip
        have i36x1 := sw_eq c36x1
        refine g_iconst (-1) 122 (gd rfl) rfl rfl ?_
        refine g_ireturn (gd rfl) rfl rfl (hp36 _ _ ?_)
        show GG _ _ _ _ _ _ _ _ [.int (Int32.ofInt (-1))] _ _ _
        refine g_istore_n 40 (gd rfl) rfl (Nat.le_of_ble_eq_true rfl) ?_
        refine g_iload_n 41 (gd rfl) rfl rfl ?_
        refine g_if_ge 44 53 (gd rfl) rfl rfl (fun c41 => ?_) (fun c41 => ?_)
        · skip
          exact zn_ge c41 (in_c (-1) rfl) rfl
        · skip
          refine g_aload_n 45 (gd rfl) rfl rfl ?_
          refine g_iconst 5 46 (gd rfl) rfl rfl ?_
          refine g_aload_n 47 (gd rfl) rfl rfl ?_
          refine g_getI 50 (gd rfl) rfl rfl rfl (fun z47 e47 => ?_)
          have q47 : u_109_29 = z47 := (e_109_29).trans e47.symm
          subst q47
          refine g_callv (X := _) (As := [.int (Int32.ofInt 5), .int u_109_29]) (r := []) (b := A 109) (q := 109) 53 (gd rfl) rfl rfl rfl rfl rfl (ww_o rfl) (Nat.le_of_ble_eq_true rfl) (Nat.zero_le _) (Nat.zero_le _) (k_298 (by first | exact dq1 hd rfl | exact dq0 hd rfl | exact dq2 hd rfl | exact dq3 hd rfl | omega) hI (in_w 1 5 (in_c 5 rfl) rfl)) (fun e u h => h) (fun v u h => ?_)
          obtain ⟨s50, hI50, hF50, n50, rfl, rfl⟩ := h
          obtain ⟨z50a, e50⟩ : ∃ w, w = s50.2.2.1 109 23 := ⟨_, rfl⟩
          have i50a := inv_F hI50 0 9 rfl e50
          rw [← (show z50a = s50.2.2.1 109 23 from e50)] at n50
          show GG _ _ _ _ _ _ _ _ [] _ _ _
          refine g_aload_n 54 (gd rfl) rfl rfl ?_
          refine g_iconst 1 55 (gd rfl) rfl rfl ?_
          refine g_iload_n 56 (gd rfl) rfl rfl ?_
          have v56 : u_109_109 = s50.2.2.1 109 109 := fr_F (e_109_109) hF50 rfl
          have n56 : (u_109_109).toInt ≤ 399 := by have a0 := oa7 i36x1 ro_109_29 i29 ((inv_F hI 0 200 rfl e_109_111)) ((inv_F hI 0 400 rfl e_109_109)) ((in_c (-1) rfl)) i50a; omega
          refine g_callv (X := _) (As := [.int (Int32.ofInt 1), .int (Int32.ofInt (-1))]) (r := []) (b := A 109) (q := 109) 59 (gd rfl) rfl rfl rfl rfl rfl (ww_o rfl) (Nat.le_of_ble_eq_true rfl) (Nat.zero_le _) (Nat.zero_le _) (k_393 (by first | exact dq1 hd rfl | exact dq0 hd rfl | exact dq2 hd rfl | exact dq3 hd rfl | omega) hI50 v56 n56) (fun e u h => h) (fun v u h => ?_)
          obtain ⟨s56, hI56, hF56, n56a, rfl, rfl, p56, p56a⟩ := h
          obtain ⟨z56a, e56⟩ : ∃ w, w = s56.2.2.1 109 109 := ⟨_, rfl⟩
          have i56a := inv_F hI56 0 400 rfl e56
          rw [← (show u_109_109 = s50.2.2.1 109 109 from fr_F (e_109_109) hF50 rfl)] at n56a
          rw [← (show z56a = s56.2.2.1 109 109 from e56)] at n56a
          show GG _ _ _ _ _ _ _ _ [] _ _ _
          refine g_aload_n 60 (gd rfl) rfl rfl ?_
          have v60 : u_109_111 = s56.2.2.1 109 111 := fr_F (fr_F (e_109_111) hF50 rfl) hF56 rfl
          have n60 : (z56a).toInt + (u_109_111).toInt ≤ 120 := by have a0 := oa8 i36x1 ro_109_29 i29 ((inv_F hI 0 200 rfl e_109_111)) ((inv_F hI 0 400 rfl e_109_109)) ((in_c (-1) rfl)) i56a i50a; omega
          refine g_callv (X := _) (As := []) (r := []) (b := A 109) (q := 109) 63 (gd rfl) rfl rfl rfl rfl rfl (ww_o rfl) (Nat.le_of_ble_eq_true rfl) (Nat.zero_le _) (Nat.zero_le _) (k_400 (by first | exact dq1 hd rfl | exact dq0 hd rfl | exact dq2 hd rfl | exact dq3 hd rfl | omega) hI56 e56 v60 n60) (fun e u h => h) (fun v u h => ?_)
          obtain ⟨s60, hI60, hF60, n60a, rfl, rfl, p60⟩ := h
          obtain ⟨z60a, e60⟩ : ∃ w, w = s60.2.2.1 109 109 := ⟨_, rfl⟩
          have i60a := inv_F hI60 0 400 rfl e60
          obtain ⟨z60b, e60a⟩ : ∃ w, w = s60.2.2.1 109 111 := ⟨_, rfl⟩
          have i60b := inv_F hI60 0 200 rfl e60a
          rw [← (show z56a = s56.2.2.1 109 109 from e56)] at n60a
          rw [← (show u_109_111 = s56.2.2.1 109 111 from fr_F (fr_F (e_109_111) hF50 rfl) hF56 rfl)] at n60a
          rw [← (show z60a = s60.2.2.1 109 109 from e60)] at n60a
          rw [← (show z60b = s60.2.2.1 109 111 from e60a)] at n60a
          show GG _ _ _ _ _ _ _ _ [] _ _ _
          refine g_iconst 1 64 (gd rfl) rfl rfl ?_
          have n64 : ((Int32.ofInt 1)).toInt = 0 → PR s s60 0 0 := by exact fun h => absurd h (by decide)
          have n64a : ((Int32.ofInt 1)).toInt ≠ 0 → PR s s60 0 1 := by intro hR; first | (exact absurd rfl hR) | exact pr_tr (pr_val p15 p15a rfl (inv_F hI 0 400 rfl rfl).1 (by rw [← e15, ← e_109_109]; exact n15a) (hF15.2.2.1 109 23 rfl) (hF15.1 190 rfl) (hF15.2.2.1 109 111 rfl) (fun _ => Or.inl rfl)) p19 | exact pr_tr (pr_val p56 p56a rfl (inv_F hI 0 400 rfl rfl).1 (by rw [← e56, ← e_109_109]; exact n56a) (hF56.2.2.1 109 23 rfl) (hF56.1 190 rfl) (hF56.2.2.1 109 111 rfl) (fun _ => Or.inr ⟨rfl, by decide, by decide⟩)) p60 | exact pr_tr (pr_tr (b := 0) (pr_flt (hF50.1 187 rfl) (hF50.1 188 rfl) (hF50.2.2.1 109 109 rfl) (by rw [← e50]; omega)) (pr_val p56 p56a rfl (inv_F hI50 0 400 rfl rfl).1 (by rw [← e56, ← (show u_109_109 = s50.2.2.1 109 109 from fr_F e_109_109 hF50 rfl)]; exact n56a) (hF56.2.2.1 109 23 rfl) (hF56.1 190 rfl) (hF56.2.2.1 109 111 rfl) (fun h => absurd h (by rw [← e50]; omega)))) p60
          have n64b : (z60a).toInt + (z60b).toInt ≤ (u_109_109).toInt + (u_109_111).toInt + 1 := by have a0 := oa9 i36x1 ro_109_29 i29 ((inv_F hI 0 200 rfl e_109_111)) ((inv_F hI 0 400 rfl e_109_109)) ((in_c (-1) rfl)) i60b i60a i50a; omega
          have n64c : (s60.2.2.1 109 109).toInt + (s60.2.2.1 109 111).toInt ≤ (s.2.2.1 109 109).toInt + (s.2.2.1 109 111).toInt + 1 := by have b0 : z60a = s60.2.2.1 109 109 := e60; have b1 : z60b = s60.2.2.1 109 111 := e60a; first | (rw [← b0, ← b1, ← e_109_109, ← e_109_111]; exact n64b) | (rw [← b0, ← b1]; exact n64b)
          have n64d : (u_109_28).toInt = 0 → (z60a).toInt + (z60b).toInt = (u_109_109).toInt + (u_109_111).toInt := by have a0 := oa9 i36x1 ro_109_29 i29 ((inv_F hI 0 200 rfl e_109_111)) ((inv_F hI 0 400 rfl e_109_109)) ((in_c (-1) rfl)) i60b i60a i50a; omega
          have n64e : (s.2.2.1 109 28).toInt = 0 → (s60.2.2.1 109 109).toInt + (s60.2.2.1 109 111).toInt = (s.2.2.1 109 109).toInt + (s.2.2.1 109 111).toInt := by have b0 : z60a = s60.2.2.1 109 109 := e60; have b1 : z60b = s60.2.2.1 109 111 := e60a; first | (rw [← b0, ← b1, ← e_109_28, ← e_109_109, ← e_109_111]; exact n64d) | (rw [← b0, ← b1]; exact n64d)
          have n64f : (u_109_28).toInt = 0 → 1 ≤ (z50a).toInt := by have a0 := oa9 i36x1 ro_109_29 i29 ((inv_F hI 0 200 rfl e_109_111)) ((inv_F hI 0 400 rfl e_109_109)) ((in_c (-1) rfl)) i60b i60a i50a; omega
          have n64g : (s.2.2.1 109 28).toInt = 0 → 1 ≤ (s60.2.2.1 109 23).toInt := by have b0 : z50a = s60.2.2.1 109 23 := fr_F (fr_F (e50) hF56 rfl) hF60 rfl; rw [← b0, ← e_109_28]; exact n64f
          exact g_ireturn (gd rfl) rfl (nb01 (in_w 0 1 (in_c 1 rfl) rfl)) (hP _ _ ⟨s60, hI60, (fr_tr rfl (fr_tr rfl (fr_tr rfl fr_rf hF50) hF56) hF60), n64c, n64e, n64g, (Int32.ofInt 1), rfl, rfl, in_w 0 1 (in_c 1 rfl) rfl, n64, n64a⟩)
      · skip
        have i36x1 := sw_eq c36x1
        refine g_iconst 2 105 (gd rfl) rfl rfl ?_
        refine g_ireturn (gd rfl) rfl rfl (hp36 _ _ ?_)
        show GG _ _ _ _ _ _ _ _ [.int (Int32.ofInt 2)] _ _ _
        refine g_istore_n 40 (gd rfl) rfl (Nat.le_of_ble_eq_true rfl) ?_
        refine g_iload_n 41 (gd rfl) rfl rfl ?_
        refine g_if_ge 44 53 (gd rfl) rfl rfl (fun c41 => ?_) (fun c41 => ?_)
        · skip
          refine g_aload_n 54 (gd rfl) rfl rfl ?_
          refine g_iconst 1 55 (gd rfl) rfl rfl ?_
          refine g_iload_n 56 (gd rfl) rfl rfl ?_
          have n56 : (u_109_109).toInt ≤ 399 := by have a0 := oa6 i36x1 ro_109_29 i29 ((inv_F hI 0 200 rfl e_109_111)) ((inv_F hI 0 400 rfl e_109_109)) ((in_c 2 rfl)); omega
          refine g_callv (X := _) (As := [.int (Int32.ofInt 1), .int (Int32.ofInt 2)]) (r := []) (b := A 109) (q := 109) 59 (gd rfl) rfl rfl rfl rfl rfl (ww_o rfl) (Nat.le_of_ble_eq_true rfl) (Nat.zero_le _) (Nat.zero_le _) (k_393 (by first | exact dq1 hd rfl | exact dq0 hd rfl | exact dq2 hd rfl | exact dq3 hd rfl | omega) hI e_109_109 n56) (fun e u h => h) (fun v u h => ?_)
          obtain ⟨s56, hI56, hF56, n56a, rfl, rfl, p56, p56a⟩ := h
          obtain ⟨z56a, e56⟩ : ∃ w, w = s56.2.2.1 109 109 := ⟨_, rfl⟩
          have i56a := inv_F hI56 0 400 rfl e56
          rw [← (show u_109_109 = s.2.2.1 109 109 from e_109_109)] at n56a
          rw [← (show z56a = s56.2.2.1 109 109 from e56)] at n56a
          show GG _ _ _ _ _ _ _ _ [] _ _ _
          refine g_aload_n 60 (gd rfl) rfl rfl ?_
          have v60 : u_109_111 = s56.2.2.1 109 111 := fr_F (e_109_111) hF56 rfl
          have n60 : (z56a).toInt + (u_109_111).toInt ≤ 120 := by have a0 := oa7 i36x1 ro_109_29 i29 ((inv_F hI 0 200 rfl e_109_111)) ((inv_F hI 0 400 rfl e_109_109)) ((in_c 2 rfl)) i56a; omega
          refine g_callv (X := _) (As := []) (r := []) (b := A 109) (q := 109) 63 (gd rfl) rfl rfl rfl rfl rfl (ww_o rfl) (Nat.le_of_ble_eq_true rfl) (Nat.zero_le _) (Nat.zero_le _) (k_400 (by first | exact dq1 hd rfl | exact dq0 hd rfl | exact dq2 hd rfl | exact dq3 hd rfl | omega) hI56 e56 v60 n60) (fun e u h => h) (fun v u h => ?_)
          obtain ⟨s60, hI60, hF60, n60a, rfl, rfl, p60⟩ := h
          obtain ⟨z60a, e60⟩ : ∃ w, w = s60.2.2.1 109 109 := ⟨_, rfl⟩
          have i60a := inv_F hI60 0 400 rfl e60
          obtain ⟨z60b, e60a⟩ : ∃ w, w = s60.2.2.1 109 111 := ⟨_, rfl⟩
          have i60b := inv_F hI60 0 200 rfl e60a
          rw [← (show z56a = s56.2.2.1 109 109 from e56)] at n60a
          rw [← (show u_109_111 = s56.2.2.1 109 111 from fr_F (e_109_111) hF56 rfl)] at n60a
          rw [← (show z60a = s60.2.2.1 109 109 from e60)] at n60a
          rw [← (show z60b = s60.2.2.1 109 111 from e60a)] at n60a
          show GG _ _ _ _ _ _ _ _ [] _ _ _
          refine g_iconst 1 64 (gd rfl) rfl rfl ?_
          have n64 : ((Int32.ofInt 1)).toInt = 0 → PR s s60 0 0 := by exact fun h => absurd h (by decide)
          have n64a : ((Int32.ofInt 1)).toInt ≠ 0 → PR s s60 0 1 := by intro hR; first | (exact absurd rfl hR) | exact pr_tr (pr_val p15 p15a rfl (inv_F hI 0 400 rfl rfl).1 (by rw [← e15, ← e_109_109]; exact n15a) (hF15.2.2.1 109 23 rfl) (hF15.1 190 rfl) (hF15.2.2.1 109 111 rfl) (fun _ => Or.inl rfl)) p19 | exact pr_tr (pr_val p56 p56a rfl (inv_F hI 0 400 rfl rfl).1 (by rw [← e56, ← e_109_109]; exact n56a) (hF56.2.2.1 109 23 rfl) (hF56.1 190 rfl) (hF56.2.2.1 109 111 rfl) (fun _ => Or.inr ⟨rfl, by decide, by decide⟩)) p60 | exact pr_tr (pr_tr (b := 0) (pr_flt (hF50.1 187 rfl) (hF50.1 188 rfl) (hF50.2.2.1 109 109 rfl) (by rw [← e50]; omega)) (pr_val p56 p56a rfl (inv_F hI50 0 400 rfl rfl).1 (by rw [← e56, ← (show u_109_109 = s50.2.2.1 109 109 from fr_F e_109_109 hF50 rfl)]; exact n56a) (hF56.2.2.1 109 23 rfl) (hF56.1 190 rfl) (hF56.2.2.1 109 111 rfl) (fun h => absurd h (by rw [← e50]; omega)))) p60
          have n64b : (z60a).toInt + (z60b).toInt ≤ (u_109_109).toInt + (u_109_111).toInt + 1 := by have a0 := oa8 i36x1 ro_109_29 i29 ((inv_F hI 0 200 rfl e_109_111)) ((inv_F hI 0 400 rfl e_109_109)) ((in_c 2 rfl)) i60b i60a; omega
          have n64c : (s60.2.2.1 109 109).toInt + (s60.2.2.1 109 111).toInt ≤ (s.2.2.1 109 109).toInt + (s.2.2.1 109 111).toInt + 1 := by have b0 : z60a = s60.2.2.1 109 109 := e60; have b1 : z60b = s60.2.2.1 109 111 := e60a; first | (rw [← b0, ← b1, ← e_109_109, ← e_109_111]; exact n64b) | (rw [← b0, ← b1]; exact n64b)
          have n64d : (u_109_28).toInt = 0 → (z60a).toInt + (z60b).toInt = (u_109_109).toInt + (u_109_111).toInt := by have a0 := oa8 i36x1 ro_109_29 i29 ((inv_F hI 0 200 rfl e_109_111)) ((inv_F hI 0 400 rfl e_109_109)) ((in_c 2 rfl)) i60b i60a; omega
          have n64e : (s.2.2.1 109 28).toInt = 0 → (s60.2.2.1 109 109).toInt + (s60.2.2.1 109 111).toInt = (s.2.2.1 109 109).toInt + (s.2.2.1 109 111).toInt := by have b0 : z60a = s60.2.2.1 109 109 := e60; have b1 : z60b = s60.2.2.1 109 111 := e60a; first | (rw [← b0, ← b1, ← e_109_28, ← e_109_109, ← e_109_111]; exact n64d) | (rw [← b0, ← b1]; exact n64d)
          have n64f : (u_109_28).toInt = 0 → 1 ≤ ((s60.2.2.1 109 23)).toInt := by have a0 := oa9 i36x1 ro_109_29 i29 ((inv_F hI 0 200 rfl e_109_111)) ((inv_F hI 0 400 rfl e_109_109)) ((in_c 2 rfl)) i60b i60a ((show In (s60.2.2.1 109 23) 0 9 from inv_F hI60 0 9 rfl rfl)); omega
          have n64g : (s.2.2.1 109 28).toInt = 0 → 1 ≤ (s60.2.2.1 109 23).toInt := by rw [← e_109_28]; exact n64f
          exact g_ireturn (gd rfl) rfl (nb01 (in_w 0 1 (in_c 1 rfl) rfl)) (hP _ _ ⟨s60, hI60, (fr_tr rfl (fr_tr rfl fr_rf hF56) hF60), n64c, n64e, n64g, (Int32.ofInt 1), rfl, rfl, in_w 0 1 (in_c 1 rfl) rfl, n64, n64a⟩)
        · skip
          exact zn_lt c41 (in_c 2 rfl) rfl
      · skip
        have i36x1 := sw_eq c36x1
        refine g_bipush 7 117 (gd rfl) rfl rfl ?_
        refine g_ireturn (gd rfl) rfl rfl (hp36 _ _ ?_)
        show GG _ _ _ _ _ _ _ _ [.int (Int32.ofInt 7)] _ _ _
        refine g_istore_n 40 (gd rfl) rfl (Nat.le_of_ble_eq_true rfl) ?_
        refine g_iload_n 41 (gd rfl) rfl rfl ?_
        refine g_if_ge 44 53 (gd rfl) rfl rfl (fun c41 => ?_) (fun c41 => ?_)
        · skip
          refine g_aload_n 54 (gd rfl) rfl rfl ?_
          refine g_iconst 1 55 (gd rfl) rfl rfl ?_
          refine g_iload_n 56 (gd rfl) rfl rfl ?_
          have n56 : (u_109_109).toInt ≤ 399 := by have a0 := oa6 i36x1 ro_109_29 i29 ((inv_F hI 0 200 rfl e_109_111)) ((inv_F hI 0 400 rfl e_109_109)) ((in_c 7 rfl)); omega
          refine g_callv (X := _) (As := [.int (Int32.ofInt 1), .int (Int32.ofInt 7)]) (r := []) (b := A 109) (q := 109) 59 (gd rfl) rfl rfl rfl rfl rfl (ww_o rfl) (Nat.le_of_ble_eq_true rfl) (Nat.zero_le _) (Nat.zero_le _) (k_393 (by first | exact dq1 hd rfl | exact dq0 hd rfl | exact dq2 hd rfl | exact dq3 hd rfl | omega) hI e_109_109 n56) (fun e u h => h) (fun v u h => ?_)
          obtain ⟨s56, hI56, hF56, n56a, rfl, rfl, p56, p56a⟩ := h
          obtain ⟨z56a, e56⟩ : ∃ w, w = s56.2.2.1 109 109 := ⟨_, rfl⟩
          have i56a := inv_F hI56 0 400 rfl e56
          rw [← (show u_109_109 = s.2.2.1 109 109 from e_109_109)] at n56a
          rw [← (show z56a = s56.2.2.1 109 109 from e56)] at n56a
          show GG _ _ _ _ _ _ _ _ [] _ _ _
          refine g_aload_n 60 (gd rfl) rfl rfl ?_
          have v60 : u_109_111 = s56.2.2.1 109 111 := fr_F (e_109_111) hF56 rfl
          have n60 : (z56a).toInt + (u_109_111).toInt ≤ 120 := by have a0 := oa7 i36x1 ro_109_29 i29 ((inv_F hI 0 200 rfl e_109_111)) ((inv_F hI 0 400 rfl e_109_109)) ((in_c 7 rfl)) i56a; omega
          refine g_callv (X := _) (As := []) (r := []) (b := A 109) (q := 109) 63 (gd rfl) rfl rfl rfl rfl rfl (ww_o rfl) (Nat.le_of_ble_eq_true rfl) (Nat.zero_le _) (Nat.zero_le _) (k_400 (by first | exact dq1 hd rfl | exact dq0 hd rfl | exact dq2 hd rfl | exact dq3 hd rfl | omega) hI56 e56 v60 n60) (fun e u h => h) (fun v u h => ?_)
          obtain ⟨s60, hI60, hF60, n60a, rfl, rfl, p60⟩ := h
          obtain ⟨z60a, e60⟩ : ∃ w, w = s60.2.2.1 109 109 := ⟨_, rfl⟩
          have i60a := inv_F hI60 0 400 rfl e60
          obtain ⟨z60b, e60a⟩ : ∃ w, w = s60.2.2.1 109 111 := ⟨_, rfl⟩
          have i60b := inv_F hI60 0 200 rfl e60a
          rw [← (show z56a = s56.2.2.1 109 109 from e56)] at n60a
          rw [← (show u_109_111 = s56.2.2.1 109 111 from fr_F (e_109_111) hF56 rfl)] at n60a
          rw [← (show z60a = s60.2.2.1 109 109 from e60)] at n60a
          rw [← (show z60b = s60.2.2.1 109 111 from e60a)] at n60a
          show GG _ _ _ _ _ _ _ _ [] _ _ _
          refine g_iconst 1 64 (gd rfl) rfl rfl ?_
          have n64 : ((Int32.ofInt 1)).toInt = 0 → PR s s60 0 0 := by exact fun h => absurd h (by decide)
          have n64a : ((Int32.ofInt 1)).toInt ≠ 0 → PR s s60 0 1 := by intro hR; first | (exact absurd rfl hR) | exact pr_tr (pr_val p15 p15a rfl (inv_F hI 0 400 rfl rfl).1 (by rw [← e15, ← e_109_109]; exact n15a) (hF15.2.2.1 109 23 rfl) (hF15.1 190 rfl) (hF15.2.2.1 109 111 rfl) (fun _ => Or.inl rfl)) p19 | exact pr_tr (pr_val p56 p56a rfl (inv_F hI 0 400 rfl rfl).1 (by rw [← e56, ← e_109_109]; exact n56a) (hF56.2.2.1 109 23 rfl) (hF56.1 190 rfl) (hF56.2.2.1 109 111 rfl) (fun _ => Or.inr ⟨rfl, by decide, by decide⟩)) p60 | exact pr_tr (pr_tr (b := 0) (pr_flt (hF50.1 187 rfl) (hF50.1 188 rfl) (hF50.2.2.1 109 109 rfl) (by rw [← e50]; omega)) (pr_val p56 p56a rfl (inv_F hI50 0 400 rfl rfl).1 (by rw [← e56, ← (show u_109_109 = s50.2.2.1 109 109 from fr_F e_109_109 hF50 rfl)]; exact n56a) (hF56.2.2.1 109 23 rfl) (hF56.1 190 rfl) (hF56.2.2.1 109 111 rfl) (fun h => absurd h (by rw [← e50]; omega)))) p60
          have n64b : (z60a).toInt + (z60b).toInt ≤ (u_109_109).toInt + (u_109_111).toInt + 1 := by have a0 := oa8 i36x1 ro_109_29 i29 ((inv_F hI 0 200 rfl e_109_111)) ((inv_F hI 0 400 rfl e_109_109)) ((in_c 7 rfl)) i60b i60a; omega
          have n64c : (s60.2.2.1 109 109).toInt + (s60.2.2.1 109 111).toInt ≤ (s.2.2.1 109 109).toInt + (s.2.2.1 109 111).toInt + 1 := by have b0 : z60a = s60.2.2.1 109 109 := e60; have b1 : z60b = s60.2.2.1 109 111 := e60a; first | (rw [← b0, ← b1, ← e_109_109, ← e_109_111]; exact n64b) | (rw [← b0, ← b1]; exact n64b)
          have n64d : (u_109_28).toInt = 0 → (z60a).toInt + (z60b).toInt = (u_109_109).toInt + (u_109_111).toInt := by have a0 := oa8 i36x1 ro_109_29 i29 ((inv_F hI 0 200 rfl e_109_111)) ((inv_F hI 0 400 rfl e_109_109)) ((in_c 7 rfl)) i60b i60a; omega
          have n64e : (s.2.2.1 109 28).toInt = 0 → (s60.2.2.1 109 109).toInt + (s60.2.2.1 109 111).toInt = (s.2.2.1 109 109).toInt + (s.2.2.1 109 111).toInt := by have b0 : z60a = s60.2.2.1 109 109 := e60; have b1 : z60b = s60.2.2.1 109 111 := e60a; first | (rw [← b0, ← b1, ← e_109_28, ← e_109_109, ← e_109_111]; exact n64d) | (rw [← b0, ← b1]; exact n64d)
          have n64f : (u_109_28).toInt = 0 → 1 ≤ ((s60.2.2.1 109 23)).toInt := by have a0 := oa9 i36x1 ro_109_29 i29 ((inv_F hI 0 200 rfl e_109_111)) ((inv_F hI 0 400 rfl e_109_109)) ((in_c 7 rfl)) i60b i60a ((show In (s60.2.2.1 109 23) 0 9 from inv_F hI60 0 9 rfl rfl)); omega
          have n64g : (s.2.2.1 109 28).toInt = 0 → 1 ≤ (s60.2.2.1 109 23).toInt := by rw [← e_109_28]; exact n64f
          exact g_ireturn (gd rfl) rfl (nb01 (in_w 0 1 (in_c 1 rfl) rfl)) (hP _ _ ⟨s60, hI60, (fr_tr rfl (fr_tr rfl fr_rf hF56) hF60), n64c, n64e, n64g, (Int32.ofInt 1), rfl, rfl, in_w 0 1 (in_c 1 rfl) rfl, n64, n64a⟩)
        · skip
          exact zn_lt c41 (in_c 7 rfl) rfl
      · skip
        have i36x1 := sw_eq c36x1
        refine g_iconst 1 103 (gd rfl) rfl rfl ?_
        refine g_ireturn (gd rfl) rfl rfl (hp36 _ _ ?_)
        show GG _ _ _ _ _ _ _ _ [.int (Int32.ofInt 1)] _ _ _
        refine g_istore_n 40 (gd rfl) rfl (Nat.le_of_ble_eq_true rfl) ?_
        refine g_iload_n 41 (gd rfl) rfl rfl ?_
        refine g_if_ge 44 53 (gd rfl) rfl rfl (fun c41 => ?_) (fun c41 => ?_)
        · skip
          refine g_aload_n 54 (gd rfl) rfl rfl ?_
          refine g_iconst 1 55 (gd rfl) rfl rfl ?_
          refine g_iload_n 56 (gd rfl) rfl rfl ?_
          have n56 : (u_109_109).toInt ≤ 399 := by have a0 := oa6 i36x1 ro_109_29 i29 ((inv_F hI 0 200 rfl e_109_111)) ((inv_F hI 0 400 rfl e_109_109)) ((in_c 1 rfl)); omega
          refine g_callv (X := _) (As := [.int (Int32.ofInt 1), .int (Int32.ofInt 1)]) (r := []) (b := A 109) (q := 109) 59 (gd rfl) rfl rfl rfl rfl rfl (ww_o rfl) (Nat.le_of_ble_eq_true rfl) (Nat.zero_le _) (Nat.zero_le _) (k_393 (by first | exact dq1 hd rfl | exact dq0 hd rfl | exact dq2 hd rfl | exact dq3 hd rfl | omega) hI e_109_109 n56) (fun e u h => h) (fun v u h => ?_)
          obtain ⟨s56, hI56, hF56, n56a, rfl, rfl, p56, p56a⟩ := h
          obtain ⟨z56a, e56⟩ : ∃ w, w = s56.2.2.1 109 109 := ⟨_, rfl⟩
          have i56a := inv_F hI56 0 400 rfl e56
          rw [← (show u_109_109 = s.2.2.1 109 109 from e_109_109)] at n56a
          rw [← (show z56a = s56.2.2.1 109 109 from e56)] at n56a
          show GG _ _ _ _ _ _ _ _ [] _ _ _
          refine g_aload_n 60 (gd rfl) rfl rfl ?_
          have v60 : u_109_111 = s56.2.2.1 109 111 := fr_F (e_109_111) hF56 rfl
          have n60 : (z56a).toInt + (u_109_111).toInt ≤ 120 := by have a0 := oa7 i36x1 ro_109_29 i29 ((inv_F hI 0 200 rfl e_109_111)) ((inv_F hI 0 400 rfl e_109_109)) ((in_c 1 rfl)) i56a; omega
          refine g_callv (X := _) (As := []) (r := []) (b := A 109) (q := 109) 63 (gd rfl) rfl rfl rfl rfl rfl (ww_o rfl) (Nat.le_of_ble_eq_true rfl) (Nat.zero_le _) (Nat.zero_le _) (k_400 (by first | exact dq1 hd rfl | exact dq0 hd rfl | exact dq2 hd rfl | exact dq3 hd rfl | omega) hI56 e56 v60 n60) (fun e u h => h) (fun v u h => ?_)
          obtain ⟨s60, hI60, hF60, n60a, rfl, rfl, p60⟩ := h
          obtain ⟨z60a, e60⟩ : ∃ w, w = s60.2.2.1 109 109 := ⟨_, rfl⟩
          have i60a := inv_F hI60 0 400 rfl e60
          obtain ⟨z60b, e60a⟩ : ∃ w, w = s60.2.2.1 109 111 := ⟨_, rfl⟩
          have i60b := inv_F hI60 0 200 rfl e60a
          rw [← (show z56a = s56.2.2.1 109 109 from e56)] at n60a
          rw [← (show u_109_111 = s56.2.2.1 109 111 from fr_F (e_109_111) hF56 rfl)] at n60a
          rw [← (show z60a = s60.2.2.1 109 109 from e60)] at n60a
          rw [← (show z60b = s60.2.2.1 109 111 from e60a)] at n60a
          show GG _ _ _ _ _ _ _ _ [] _ _ _
          refine g_iconst 1 64 (gd rfl) rfl rfl ?_
          have n64 : ((Int32.ofInt 1)).toInt = 0 → PR s s60 0 0 := by exact fun h => absurd h (by decide)
          have n64a : ((Int32.ofInt 1)).toInt ≠ 0 → PR s s60 0 1 := by intro hR; first | (exact absurd rfl hR) | exact pr_tr (pr_val p15 p15a rfl (inv_F hI 0 400 rfl rfl).1 (by rw [← e15, ← e_109_109]; exact n15a) (hF15.2.2.1 109 23 rfl) (hF15.1 190 rfl) (hF15.2.2.1 109 111 rfl) (fun _ => Or.inl rfl)) p19 | exact pr_tr (pr_val p56 p56a rfl (inv_F hI 0 400 rfl rfl).1 (by rw [← e56, ← e_109_109]; exact n56a) (hF56.2.2.1 109 23 rfl) (hF56.1 190 rfl) (hF56.2.2.1 109 111 rfl) (fun _ => Or.inr ⟨rfl, by decide, by decide⟩)) p60 | exact pr_tr (pr_tr (b := 0) (pr_flt (hF50.1 187 rfl) (hF50.1 188 rfl) (hF50.2.2.1 109 109 rfl) (by rw [← e50]; omega)) (pr_val p56 p56a rfl (inv_F hI50 0 400 rfl rfl).1 (by rw [← e56, ← (show u_109_109 = s50.2.2.1 109 109 from fr_F e_109_109 hF50 rfl)]; exact n56a) (hF56.2.2.1 109 23 rfl) (hF56.1 190 rfl) (hF56.2.2.1 109 111 rfl) (fun h => absurd h (by rw [← e50]; omega)))) p60
          have n64b : (z60a).toInt + (z60b).toInt ≤ (u_109_109).toInt + (u_109_111).toInt + 1 := by have a0 := oa8 i36x1 ro_109_29 i29 ((inv_F hI 0 200 rfl e_109_111)) ((inv_F hI 0 400 rfl e_109_109)) ((in_c 1 rfl)) i60b i60a; omega
          have n64c : (s60.2.2.1 109 109).toInt + (s60.2.2.1 109 111).toInt ≤ (s.2.2.1 109 109).toInt + (s.2.2.1 109 111).toInt + 1 := by have b0 : z60a = s60.2.2.1 109 109 := e60; have b1 : z60b = s60.2.2.1 109 111 := e60a; first | (rw [← b0, ← b1, ← e_109_109, ← e_109_111]; exact n64b) | (rw [← b0, ← b1]; exact n64b)
          have n64d : (u_109_28).toInt = 0 → (z60a).toInt + (z60b).toInt = (u_109_109).toInt + (u_109_111).toInt := by have a0 := oa8 i36x1 ro_109_29 i29 ((inv_F hI 0 200 rfl e_109_111)) ((inv_F hI 0 400 rfl e_109_109)) ((in_c 1 rfl)) i60b i60a; omega
          have n64e : (s.2.2.1 109 28).toInt = 0 → (s60.2.2.1 109 109).toInt + (s60.2.2.1 109 111).toInt = (s.2.2.1 109 109).toInt + (s.2.2.1 109 111).toInt := by have b0 : z60a = s60.2.2.1 109 109 := e60; have b1 : z60b = s60.2.2.1 109 111 := e60a; first | (rw [← b0, ← b1, ← e_109_28, ← e_109_109, ← e_109_111]; exact n64d) | (rw [← b0, ← b1]; exact n64d)
          have n64f : (u_109_28).toInt = 0 → 1 ≤ ((s60.2.2.1 109 23)).toInt := by have a0 := oa9 i36x1 ro_109_29 i29 ((inv_F hI 0 200 rfl e_109_111)) ((inv_F hI 0 400 rfl e_109_109)) ((in_c 1 rfl)) i60b i60a ((show In (s60.2.2.1 109 23) 0 9 from inv_F hI60 0 9 rfl rfl)); omega
          have n64g : (s.2.2.1 109 28).toInt = 0 → 1 ≤ (s60.2.2.1 109 23).toInt := by rw [← e_109_28]; exact n64f
          exact g_ireturn (gd rfl) rfl (nb01 (in_w 0 1 (in_c 1 rfl) rfl)) (hP _ _ ⟨s60, hI60, (fr_tr rfl (fr_tr rfl fr_rf hF56) hF60), n64c, n64e, n64g, (Int32.ofInt 1), rfl, rfl, in_w 0 1 (in_c 1 rfl) rfl, n64, n64a⟩)
        · skip
          exact zn_lt c41 (in_c 1 rfl) rfl
      · skip
        have i36x1 := sw_eq c36x1
        refine g_iconst (-1) 122 (gd rfl) rfl rfl ?_
        refine g_ireturn (gd rfl) rfl rfl (hp36 _ _ ?_)
        show GG _ _ _ _ _ _ _ _ [.int (Int32.ofInt (-1))] _ _ _
        refine g_istore_n 40 (gd rfl) rfl (Nat.le_of_ble_eq_true rfl) ?_
        refine g_iload_n 41 (gd rfl) rfl rfl ?_
        refine g_if_ge 44 53 (gd rfl) rfl rfl (fun c41 => ?_) (fun c41 => ?_)
        · skip
          exact zn_ge c41 (in_c (-1) rfl) rfl
        · skip
          refine g_aload_n 45 (gd rfl) rfl rfl ?_
          refine g_iconst 5 46 (gd rfl) rfl rfl ?_
          refine g_aload_n 47 (gd rfl) rfl rfl ?_
          refine g_getI 50 (gd rfl) rfl rfl rfl (fun z47 e47 => ?_)
          have q47 : u_109_29 = z47 := (e_109_29).trans e47.symm
          subst q47
          refine g_callv (X := _) (As := [.int (Int32.ofInt 5), .int u_109_29]) (r := []) (b := A 109) (q := 109) 53 (gd rfl) rfl rfl rfl rfl rfl (ww_o rfl) (Nat.le_of_ble_eq_true rfl) (Nat.zero_le _) (Nat.zero_le _) (k_298 (by first | exact dq1 hd rfl | exact dq0 hd rfl | exact dq2 hd rfl | exact dq3 hd rfl | omega) hI (in_w 1 5 (in_c 5 rfl) rfl)) (fun e u h => h) (fun v u h => ?_)
          obtain ⟨s50, hI50, hF50, n50, rfl, rfl⟩ := h
          obtain ⟨z50a, e50⟩ : ∃ w, w = s50.2.2.1 109 23 := ⟨_, rfl⟩
          have i50a := inv_F hI50 0 9 rfl e50
          rw [← (show z50a = s50.2.2.1 109 23 from e50)] at n50
          show GG _ _ _ _ _ _ _ _ [] _ _ _
          refine g_aload_n 54 (gd rfl) rfl rfl ?_
          refine g_iconst 1 55 (gd rfl) rfl rfl ?_
          refine g_iload_n 56 (gd rfl) rfl rfl ?_
          have v56 : u_109_109 = s50.2.2.1 109 109 := fr_F (e_109_109) hF50 rfl
          have n56 : (u_109_109).toInt ≤ 399 := by have a0 := oa7 i36x1 ro_109_29 i29 ((inv_F hI 0 200 rfl e_109_111)) ((inv_F hI 0 400 rfl e_109_109)) ((in_c (-1) rfl)) i50a; omega
          refine g_callv (X := _) (As := [.int (Int32.ofInt 1), .int (Int32.ofInt (-1))]) (r := []) (b := A 109) (q := 109) 59 (gd rfl) rfl rfl rfl rfl rfl (ww_o rfl) (Nat.le_of_ble_eq_true rfl) (Nat.zero_le _) (Nat.zero_le _) (k_393 (by first | exact dq1 hd rfl | exact dq0 hd rfl | exact dq2 hd rfl | exact dq3 hd rfl | omega) hI50 v56 n56) (fun e u h => h) (fun v u h => ?_)
          obtain ⟨s56, hI56, hF56, n56a, rfl, rfl, p56, p56a⟩ := h
          obtain ⟨z56a, e56⟩ : ∃ w, w = s56.2.2.1 109 109 := ⟨_, rfl⟩
          have i56a := inv_F hI56 0 400 rfl e56
          rw [← (show u_109_109 = s50.2.2.1 109 109 from fr_F (e_109_109) hF50 rfl)] at n56a
          rw [← (show z56a = s56.2.2.1 109 109 from e56)] at n56a
          show GG _ _ _ _ _ _ _ _ [] _ _ _
          refine g_aload_n 60 (gd rfl) rfl rfl ?_
          have v60 : u_109_111 = s56.2.2.1 109 111 := fr_F (fr_F (e_109_111) hF50 rfl) hF56 rfl
          have n60 : (z56a).toInt + (u_109_111).toInt ≤ 120 := by have a0 := oa8 i36x1 ro_109_29 i29 ((inv_F hI 0 200 rfl e_109_111)) ((inv_F hI 0 400 rfl e_109_109)) ((in_c (-1) rfl)) i56a i50a; omega
          refine g_callv (X := _) (As := []) (r := []) (b := A 109) (q := 109) 63 (gd rfl) rfl rfl rfl rfl rfl (ww_o rfl) (Nat.le_of_ble_eq_true rfl) (Nat.zero_le _) (Nat.zero_le _) (k_400 (by first | exact dq1 hd rfl | exact dq0 hd rfl | exact dq2 hd rfl | exact dq3 hd rfl | omega) hI56 e56 v60 n60) (fun e u h => h) (fun v u h => ?_)
          obtain ⟨s60, hI60, hF60, n60a, rfl, rfl, p60⟩ := h
          obtain ⟨z60a, e60⟩ : ∃ w, w = s60.2.2.1 109 109 := ⟨_, rfl⟩
          have i60a := inv_F hI60 0 400 rfl e60
          obtain ⟨z60b, e60a⟩ : ∃ w, w = s60.2.2.1 109 111 := ⟨_, rfl⟩
          have i60b := inv_F hI60 0 200 rfl e60a
          rw [← (show z56a = s56.2.2.1 109 109 from e56)] at n60a
          rw [← (show u_109_111 = s56.2.2.1 109 111 from fr_F (fr_F (e_109_111) hF50 rfl) hF56 rfl)] at n60a
          rw [← (show z60a = s60.2.2.1 109 109 from e60)] at n60a
          rw [← (show z60b = s60.2.2.1 109 111 from e60a)] at n60a
          show GG _ _ _ _ _ _ _ _ [] _ _ _
          refine g_iconst 1 64 (gd rfl) rfl rfl ?_
          have n64 : ((Int32.ofInt 1)).toInt = 0 → PR s s60 0 0 := by exact fun h => absurd h (by decide)
          have n64a : ((Int32.ofInt 1)).toInt ≠ 0 → PR s s60 0 1 := by intro hR; first | (exact absurd rfl hR) | exact pr_tr (pr_val p15 p15a rfl (inv_F hI 0 400 rfl rfl).1 (by rw [← e15, ← e_109_109]; exact n15a) (hF15.2.2.1 109 23 rfl) (hF15.1 190 rfl) (hF15.2.2.1 109 111 rfl) (fun _ => Or.inl rfl)) p19 | exact pr_tr (pr_val p56 p56a rfl (inv_F hI 0 400 rfl rfl).1 (by rw [← e56, ← e_109_109]; exact n56a) (hF56.2.2.1 109 23 rfl) (hF56.1 190 rfl) (hF56.2.2.1 109 111 rfl) (fun _ => Or.inr ⟨rfl, by decide, by decide⟩)) p60 | exact pr_tr (pr_tr (b := 0) (pr_flt (hF50.1 187 rfl) (hF50.1 188 rfl) (hF50.2.2.1 109 109 rfl) (by rw [← e50]; omega)) (pr_val p56 p56a rfl (inv_F hI50 0 400 rfl rfl).1 (by rw [← e56, ← (show u_109_109 = s50.2.2.1 109 109 from fr_F e_109_109 hF50 rfl)]; exact n56a) (hF56.2.2.1 109 23 rfl) (hF56.1 190 rfl) (hF56.2.2.1 109 111 rfl) (fun h => absurd h (by rw [← e50]; omega)))) p60
          have n64b : (z60a).toInt + (z60b).toInt ≤ (u_109_109).toInt + (u_109_111).toInt + 1 := by have a0 := oa9 i36x1 ro_109_29 i29 ((inv_F hI 0 200 rfl e_109_111)) ((inv_F hI 0 400 rfl e_109_109)) ((in_c (-1) rfl)) i60b i60a i50a; omega
          have n64c : (s60.2.2.1 109 109).toInt + (s60.2.2.1 109 111).toInt ≤ (s.2.2.1 109 109).toInt + (s.2.2.1 109 111).toInt + 1 := by have b0 : z60a = s60.2.2.1 109 109 := e60; have b1 : z60b = s60.2.2.1 109 111 := e60a; first | (rw [← b0, ← b1, ← e_109_109, ← e_109_111]; exact n64b) | (rw [← b0, ← b1]; exact n64b)
          have n64d : (u_109_28).toInt = 0 → (z60a).toInt + (z60b).toInt = (u_109_109).toInt + (u_109_111).toInt := by have a0 := oa9 i36x1 ro_109_29 i29 ((inv_F hI 0 200 rfl e_109_111)) ((inv_F hI 0 400 rfl e_109_109)) ((in_c (-1) rfl)) i60b i60a i50a; omega
          have n64e : (s.2.2.1 109 28).toInt = 0 → (s60.2.2.1 109 109).toInt + (s60.2.2.1 109 111).toInt = (s.2.2.1 109 109).toInt + (s.2.2.1 109 111).toInt := by have b0 : z60a = s60.2.2.1 109 109 := e60; have b1 : z60b = s60.2.2.1 109 111 := e60a; first | (rw [← b0, ← b1, ← e_109_28, ← e_109_109, ← e_109_111]; exact n64d) | (rw [← b0, ← b1]; exact n64d)
          have n64f : (u_109_28).toInt = 0 → 1 ≤ (z50a).toInt := by have a0 := oa9 i36x1 ro_109_29 i29 ((inv_F hI 0 200 rfl e_109_111)) ((inv_F hI 0 400 rfl e_109_109)) ((in_c (-1) rfl)) i60b i60a i50a; omega
          have n64g : (s.2.2.1 109 28).toInt = 0 → 1 ≤ (s60.2.2.1 109 23).toInt := by have b0 : z50a = s60.2.2.1 109 23 := fr_F (fr_F (e50) hF56 rfl) hF60 rfl; rw [← b0, ← e_109_28]; exact n64f
          exact g_ireturn (gd rfl) rfl (nb01 (in_w 0 1 (in_c 1 rfl) rfl)) (hP _ _ ⟨s60, hI60, (fr_tr rfl (fr_tr rfl (fr_tr rfl fr_rf hF50) hF56) hF60), n64c, n64e, n64g, (Int32.ofInt 1), rfl, rfl, in_w 0 1 (in_c 1 rfl) rfl, n64, n64a⟩)
      · skip
        have i36x1 := sw_eq c36x1
        refine g_iconst (-1) 122 (gd rfl) rfl rfl ?_
        refine g_ireturn (gd rfl) rfl rfl (hp36 _ _ ?_)
        show GG _ _ _ _ _ _ _ _ [.int (Int32.ofInt (-1))] _ _ _
        refine g_istore_n 40 (gd rfl) rfl (Nat.le_of_ble_eq_true rfl) ?_
        refine g_iload_n 41 (gd rfl) rfl rfl ?_
        refine g_if_ge 44 53 (gd rfl) rfl rfl (fun c41 => ?_) (fun c41 => ?_)
        · skip
          exact zn_ge c41 (in_c (-1) rfl) rfl
        · skip
          refine g_aload_n 45 (gd rfl) rfl rfl ?_
          refine g_iconst 5 46 (gd rfl) rfl rfl ?_
          refine g_aload_n 47 (gd rfl) rfl rfl ?_
          refine g_getI 50 (gd rfl) rfl rfl rfl (fun z47 e47 => ?_)
          have q47 : u_109_29 = z47 := (e_109_29).trans e47.symm
          subst q47
          refine g_callv (X := _) (As := [.int (Int32.ofInt 5), .int u_109_29]) (r := []) (b := A 109) (q := 109) 53 (gd rfl) rfl rfl rfl rfl rfl (ww_o rfl) (Nat.le_of_ble_eq_true rfl) (Nat.zero_le _) (Nat.zero_le _) (k_298 (by first | exact dq1 hd rfl | exact dq0 hd rfl | exact dq2 hd rfl | exact dq3 hd rfl | omega) hI (in_w 1 5 (in_c 5 rfl) rfl)) (fun e u h => h) (fun v u h => ?_)
          obtain ⟨s50, hI50, hF50, n50, rfl, rfl⟩ := h
          obtain ⟨z50a, e50⟩ : ∃ w, w = s50.2.2.1 109 23 := ⟨_, rfl⟩
          have i50a := inv_F hI50 0 9 rfl e50
          rw [← (show z50a = s50.2.2.1 109 23 from e50)] at n50
          show GG _ _ _ _ _ _ _ _ [] _ _ _
          refine g_aload_n 54 (gd rfl) rfl rfl ?_
          refine g_iconst 1 55 (gd rfl) rfl rfl ?_
          refine g_iload_n 56 (gd rfl) rfl rfl ?_
          have v56 : u_109_109 = s50.2.2.1 109 109 := fr_F (e_109_109) hF50 rfl
          have n56 : (u_109_109).toInt ≤ 399 := by have a0 := oa7 i36x1 ro_109_29 i29 ((inv_F hI 0 200 rfl e_109_111)) ((inv_F hI 0 400 rfl e_109_109)) ((in_c (-1) rfl)) i50a; omega
          refine g_callv (X := _) (As := [.int (Int32.ofInt 1), .int (Int32.ofInt (-1))]) (r := []) (b := A 109) (q := 109) 59 (gd rfl) rfl rfl rfl rfl rfl (ww_o rfl) (Nat.le_of_ble_eq_true rfl) (Nat.zero_le _) (Nat.zero_le _) (k_393 (by first | exact dq1 hd rfl | exact dq0 hd rfl | exact dq2 hd rfl | exact dq3 hd rfl | omega) hI50 v56 n56) (fun e u h => h) (fun v u h => ?_)
          obtain ⟨s56, hI56, hF56, n56a, rfl, rfl, p56, p56a⟩ := h
          obtain ⟨z56a, e56⟩ : ∃ w, w = s56.2.2.1 109 109 := ⟨_, rfl⟩
          have i56a := inv_F hI56 0 400 rfl e56
          rw [← (show u_109_109 = s50.2.2.1 109 109 from fr_F (e_109_109) hF50 rfl)] at n56a
          rw [← (show z56a = s56.2.2.1 109 109 from e56)] at n56a
          show GG _ _ _ _ _ _ _ _ [] _ _ _
          refine g_aload_n 60 (gd rfl) rfl rfl ?_
          have v60 : u_109_111 = s56.2.2.1 109 111 := fr_F (fr_F (e_109_111) hF50 rfl) hF56 rfl
          have n60 : (z56a).toInt + (u_109_111).toInt ≤ 120 := by have a0 := oa8 i36x1 ro_109_29 i29 ((inv_F hI 0 200 rfl e_109_111)) ((inv_F hI 0 400 rfl e_109_109)) ((in_c (-1) rfl)) i56a i50a; omega
          refine g_callv (X := _) (As := []) (r := []) (b := A 109) (q := 109) 63 (gd rfl) rfl rfl rfl rfl rfl (ww_o rfl) (Nat.le_of_ble_eq_true rfl) (Nat.zero_le _) (Nat.zero_le _) (k_400 (by first | exact dq1 hd rfl | exact dq0 hd rfl | exact dq2 hd rfl | exact dq3 hd rfl | omega) hI56 e56 v60 n60) (fun e u h => h) (fun v u h => ?_)
          obtain ⟨s60, hI60, hF60, n60a, rfl, rfl, p60⟩ := h
          obtain ⟨z60a, e60⟩ : ∃ w, w = s60.2.2.1 109 109 := ⟨_, rfl⟩
          have i60a := inv_F hI60 0 400 rfl e60
          obtain ⟨z60b, e60a⟩ : ∃ w, w = s60.2.2.1 109 111 := ⟨_, rfl⟩
          have i60b := inv_F hI60 0 200 rfl e60a
          rw [← (show z56a = s56.2.2.1 109 109 from e56)] at n60a
          rw [← (show u_109_111 = s56.2.2.1 109 111 from fr_F (fr_F (e_109_111) hF50 rfl) hF56 rfl)] at n60a
          rw [← (show z60a = s60.2.2.1 109 109 from e60)] at n60a
          rw [← (show z60b = s60.2.2.1 109 111 from e60a)] at n60a
          show GG _ _ _ _ _ _ _ _ [] _ _ _
          refine g_iconst 1 64 (gd rfl) rfl rfl ?_
          have n64 : ((Int32.ofInt 1)).toInt = 0 → PR s s60 0 0 := by exact fun h => absurd h (by decide)
          have n64a : ((Int32.ofInt 1)).toInt ≠ 0 → PR s s60 0 1 := by intro hR; first | (exact absurd rfl hR) | exact pr_tr (pr_val p15 p15a rfl (inv_F hI 0 400 rfl rfl).1 (by rw [← e15, ← e_109_109]; exact n15a) (hF15.2.2.1 109 23 rfl) (hF15.1 190 rfl) (hF15.2.2.1 109 111 rfl) (fun _ => Or.inl rfl)) p19 | exact pr_tr (pr_val p56 p56a rfl (inv_F hI 0 400 rfl rfl).1 (by rw [← e56, ← e_109_109]; exact n56a) (hF56.2.2.1 109 23 rfl) (hF56.1 190 rfl) (hF56.2.2.1 109 111 rfl) (fun _ => Or.inr ⟨rfl, by decide, by decide⟩)) p60 | exact pr_tr (pr_tr (b := 0) (pr_flt (hF50.1 187 rfl) (hF50.1 188 rfl) (hF50.2.2.1 109 109 rfl) (by rw [← e50]; omega)) (pr_val p56 p56a rfl (inv_F hI50 0 400 rfl rfl).1 (by rw [← e56, ← (show u_109_109 = s50.2.2.1 109 109 from fr_F e_109_109 hF50 rfl)]; exact n56a) (hF56.2.2.1 109 23 rfl) (hF56.1 190 rfl) (hF56.2.2.1 109 111 rfl) (fun h => absurd h (by rw [← e50]; omega)))) p60
          have n64b : (z60a).toInt + (z60b).toInt ≤ (u_109_109).toInt + (u_109_111).toInt + 1 := by have a0 := oa9 i36x1 ro_109_29 i29 ((inv_F hI 0 200 rfl e_109_111)) ((inv_F hI 0 400 rfl e_109_109)) ((in_c (-1) rfl)) i60b i60a i50a; omega
          have n64c : (s60.2.2.1 109 109).toInt + (s60.2.2.1 109 111).toInt ≤ (s.2.2.1 109 109).toInt + (s.2.2.1 109 111).toInt + 1 := by have b0 : z60a = s60.2.2.1 109 109 := e60; have b1 : z60b = s60.2.2.1 109 111 := e60a; first | (rw [← b0, ← b1, ← e_109_109, ← e_109_111]; exact n64b) | (rw [← b0, ← b1]; exact n64b)
          have n64d : (u_109_28).toInt = 0 → (z60a).toInt + (z60b).toInt = (u_109_109).toInt + (u_109_111).toInt := by have a0 := oa9 i36x1 ro_109_29 i29 ((inv_F hI 0 200 rfl e_109_111)) ((inv_F hI 0 400 rfl e_109_109)) ((in_c (-1) rfl)) i60b i60a i50a; omega
          have n64e : (s.2.2.1 109 28).toInt = 0 → (s60.2.2.1 109 109).toInt + (s60.2.2.1 109 111).toInt = (s.2.2.1 109 109).toInt + (s.2.2.1 109 111).toInt := by have b0 : z60a = s60.2.2.1 109 109 := e60; have b1 : z60b = s60.2.2.1 109 111 := e60a; first | (rw [← b0, ← b1, ← e_109_28, ← e_109_109, ← e_109_111]; exact n64d) | (rw [← b0, ← b1]; exact n64d)
          have n64f : (u_109_28).toInt = 0 → 1 ≤ (z50a).toInt := by have a0 := oa9 i36x1 ro_109_29 i29 ((inv_F hI 0 200 rfl e_109_111)) ((inv_F hI 0 400 rfl e_109_109)) ((in_c (-1) rfl)) i60b i60a i50a; omega
          have n64g : (s.2.2.1 109 28).toInt = 0 → 1 ≤ (s60.2.2.1 109 23).toInt := by have b0 : z50a = s60.2.2.1 109 23 := fr_F (fr_F (e50) hF56 rfl) hF60 rfl; rw [← b0, ← e_109_28]; exact n64f
          exact g_ireturn (gd rfl) rfl (nb01 (in_w 0 1 (in_c 1 rfl) rfl)) (hP _ _ ⟨s60, hI60, (fr_tr rfl (fr_tr rfl (fr_tr rfl fr_rf hF50) hF56) hF60), n64c, n64e, n64g, (Int32.ofInt 1), rfl, rfl, in_w 0 1 (in_c 1 rfl) rfl, n64, n64a⟩)
      · skip
        have i36x1 := sw_eq c36x1
        refine g_iconst (-1) 122 (gd rfl) rfl rfl ?_
        refine g_ireturn (gd rfl) rfl rfl (hp36 _ _ ?_)
        show GG _ _ _ _ _ _ _ _ [.int (Int32.ofInt (-1))] _ _ _
        refine g_istore_n 40 (gd rfl) rfl (Nat.le_of_ble_eq_true rfl) ?_
        refine g_iload_n 41 (gd rfl) rfl rfl ?_
        refine g_if_ge 44 53 (gd rfl) rfl rfl (fun c41 => ?_) (fun c41 => ?_)
        · skip
          exact zn_ge c41 (in_c (-1) rfl) rfl
        · skip
          refine g_aload_n 45 (gd rfl) rfl rfl ?_
          refine g_iconst 5 46 (gd rfl) rfl rfl ?_
          refine g_aload_n 47 (gd rfl) rfl rfl ?_
          refine g_getI 50 (gd rfl) rfl rfl rfl (fun z47 e47 => ?_)
          have q47 : u_109_29 = z47 := (e_109_29).trans e47.symm
          subst q47
          refine g_callv (X := _) (As := [.int (Int32.ofInt 5), .int u_109_29]) (r := []) (b := A 109) (q := 109) 53 (gd rfl) rfl rfl rfl rfl rfl (ww_o rfl) (Nat.le_of_ble_eq_true rfl) (Nat.zero_le _) (Nat.zero_le _) (k_298 (by first | exact dq1 hd rfl | exact dq0 hd rfl | exact dq2 hd rfl | exact dq3 hd rfl | omega) hI (in_w 1 5 (in_c 5 rfl) rfl)) (fun e u h => h) (fun v u h => ?_)
          obtain ⟨s50, hI50, hF50, n50, rfl, rfl⟩ := h
          obtain ⟨z50a, e50⟩ : ∃ w, w = s50.2.2.1 109 23 := ⟨_, rfl⟩
          have i50a := inv_F hI50 0 9 rfl e50
          rw [← (show z50a = s50.2.2.1 109 23 from e50)] at n50
          show GG _ _ _ _ _ _ _ _ [] _ _ _
          refine g_aload_n 54 (gd rfl) rfl rfl ?_
          refine g_iconst 1 55 (gd rfl) rfl rfl ?_
          refine g_iload_n 56 (gd rfl) rfl rfl ?_
          have v56 : u_109_109 = s50.2.2.1 109 109 := fr_F (e_109_109) hF50 rfl
          have n56 : (u_109_109).toInt ≤ 399 := by have a0 := oa7 i36x1 ro_109_29 i29 ((inv_F hI 0 200 rfl e_109_111)) ((inv_F hI 0 400 rfl e_109_109)) ((in_c (-1) rfl)) i50a; omega
          refine g_callv (X := _) (As := [.int (Int32.ofInt 1), .int (Int32.ofInt (-1))]) (r := []) (b := A 109) (q := 109) 59 (gd rfl) rfl rfl rfl rfl rfl (ww_o rfl) (Nat.le_of_ble_eq_true rfl) (Nat.zero_le _) (Nat.zero_le _) (k_393 (by first | exact dq1 hd rfl | exact dq0 hd rfl | exact dq2 hd rfl | exact dq3 hd rfl | omega) hI50 v56 n56) (fun e u h => h) (fun v u h => ?_)
          obtain ⟨s56, hI56, hF56, n56a, rfl, rfl, p56, p56a⟩ := h
          obtain ⟨z56a, e56⟩ : ∃ w, w = s56.2.2.1 109 109 := ⟨_, rfl⟩
          have i56a := inv_F hI56 0 400 rfl e56
          rw [← (show u_109_109 = s50.2.2.1 109 109 from fr_F (e_109_109) hF50 rfl)] at n56a
          rw [← (show z56a = s56.2.2.1 109 109 from e56)] at n56a
          show GG _ _ _ _ _ _ _ _ [] _ _ _
          refine g_aload_n 60 (gd rfl) rfl rfl ?_
          have v60 : u_109_111 = s56.2.2.1 109 111 := fr_F (fr_F (e_109_111) hF50 rfl) hF56 rfl
          have n60 : (z56a).toInt + (u_109_111).toInt ≤ 120 := by have a0 := oa8 i36x1 ro_109_29 i29 ((inv_F hI 0 200 rfl e_109_111)) ((inv_F hI 0 400 rfl e_109_109)) ((in_c (-1) rfl)) i56a i50a; omega
          refine g_callv (X := _) (As := []) (r := []) (b := A 109) (q := 109) 63 (gd rfl) rfl rfl rfl rfl rfl (ww_o rfl) (Nat.le_of_ble_eq_true rfl) (Nat.zero_le _) (Nat.zero_le _) (k_400 (by first | exact dq1 hd rfl | exact dq0 hd rfl | exact dq2 hd rfl | exact dq3 hd rfl | omega) hI56 e56 v60 n60) (fun e u h => h) (fun v u h => ?_)
          obtain ⟨s60, hI60, hF60, n60a, rfl, rfl, p60⟩ := h
          obtain ⟨z60a, e60⟩ : ∃ w, w = s60.2.2.1 109 109 := ⟨_, rfl⟩
          have i60a := inv_F hI60 0 400 rfl e60
          obtain ⟨z60b, e60a⟩ : ∃ w, w = s60.2.2.1 109 111 := ⟨_, rfl⟩
          have i60b := inv_F hI60 0 200 rfl e60a
          rw [← (show z56a = s56.2.2.1 109 109 from e56)] at n60a
          rw [← (show u_109_111 = s56.2.2.1 109 111 from fr_F (fr_F (e_109_111) hF50 rfl) hF56 rfl)] at n60a
          rw [← (show z60a = s60.2.2.1 109 109 from e60)] at n60a
          rw [← (show z60b = s60.2.2.1 109 111 from e60a)] at n60a
          show GG _ _ _ _ _ _ _ _ [] _ _ _
          refine g_iconst 1 64 (gd rfl) rfl rfl ?_
          have n64 : ((Int32.ofInt 1)).toInt = 0 → PR s s60 0 0 := by exact fun h => absurd h (by decide)
          have n64a : ((Int32.ofInt 1)).toInt ≠ 0 → PR s s60 0 1 := by intro hR; first | (exact absurd rfl hR) | exact pr_tr (pr_val p15 p15a rfl (inv_F hI 0 400 rfl rfl).1 (by rw [← e15, ← e_109_109]; exact n15a) (hF15.2.2.1 109 23 rfl) (hF15.1 190 rfl) (hF15.2.2.1 109 111 rfl) (fun _ => Or.inl rfl)) p19 | exact pr_tr (pr_val p56 p56a rfl (inv_F hI 0 400 rfl rfl).1 (by rw [← e56, ← e_109_109]; exact n56a) (hF56.2.2.1 109 23 rfl) (hF56.1 190 rfl) (hF56.2.2.1 109 111 rfl) (fun _ => Or.inr ⟨rfl, by decide, by decide⟩)) p60 | exact pr_tr (pr_tr (b := 0) (pr_flt (hF50.1 187 rfl) (hF50.1 188 rfl) (hF50.2.2.1 109 109 rfl) (by rw [← e50]; omega)) (pr_val p56 p56a rfl (inv_F hI50 0 400 rfl rfl).1 (by rw [← e56, ← (show u_109_109 = s50.2.2.1 109 109 from fr_F e_109_109 hF50 rfl)]; exact n56a) (hF56.2.2.1 109 23 rfl) (hF56.1 190 rfl) (hF56.2.2.1 109 111 rfl) (fun h => absurd h (by rw [← e50]; omega)))) p60
          have n64b : (z60a).toInt + (z60b).toInt ≤ (u_109_109).toInt + (u_109_111).toInt + 1 := by have a0 := oa9 i36x1 ro_109_29 i29 ((inv_F hI 0 200 rfl e_109_111)) ((inv_F hI 0 400 rfl e_109_109)) ((in_c (-1) rfl)) i60b i60a i50a; omega
          have n64c : (s60.2.2.1 109 109).toInt + (s60.2.2.1 109 111).toInt ≤ (s.2.2.1 109 109).toInt + (s.2.2.1 109 111).toInt + 1 := by have b0 : z60a = s60.2.2.1 109 109 := e60; have b1 : z60b = s60.2.2.1 109 111 := e60a; first | (rw [← b0, ← b1, ← e_109_109, ← e_109_111]; exact n64b) | (rw [← b0, ← b1]; exact n64b)
          have n64d : (u_109_28).toInt = 0 → (z60a).toInt + (z60b).toInt = (u_109_109).toInt + (u_109_111).toInt := by have a0 := oa9 i36x1 ro_109_29 i29 ((inv_F hI 0 200 rfl e_109_111)) ((inv_F hI 0 400 rfl e_109_109)) ((in_c (-1) rfl)) i60b i60a i50a; omega
          have n64e : (s.2.2.1 109 28).toInt = 0 → (s60.2.2.1 109 109).toInt + (s60.2.2.1 109 111).toInt = (s.2.2.1 109 109).toInt + (s.2.2.1 109 111).toInt := by have b0 : z60a = s60.2.2.1 109 109 := e60; have b1 : z60b = s60.2.2.1 109 111 := e60a; first | (rw [← b0, ← b1, ← e_109_28, ← e_109_109, ← e_109_111]; exact n64d) | (rw [← b0, ← b1]; exact n64d)
          have n64f : (u_109_28).toInt = 0 → 1 ≤ (z50a).toInt := by have a0 := oa9 i36x1 ro_109_29 i29 ((inv_F hI 0 200 rfl e_109_111)) ((inv_F hI 0 400 rfl e_109_109)) ((in_c (-1) rfl)) i60b i60a i50a; omega
          have n64g : (s.2.2.1 109 28).toInt = 0 → 1 ≤ (s60.2.2.1 109 23).toInt := by have b0 : z50a = s60.2.2.1 109 23 := fr_F (fr_F (e50) hF56 rfl) hF60 rfl; rw [← b0, ← e_109_28]; exact n64f
          exact g_ireturn (gd rfl) rfl (nb01 (in_w 0 1 (in_c 1 rfl) rfl)) (hP _ _ ⟨s60, hI60, (fr_tr rfl (fr_tr rfl (fr_tr rfl fr_rf hF50) hF56) hF60), n64c, n64e, n64g, (Int32.ofInt 1), rfl, rfl, in_w 0 1 (in_c 1 rfl) rfl, n64, n64a⟩)
      · skip
        have i36x1 := sw_eq c36x1
        refine g_iconst 5 111 (gd rfl) rfl rfl ?_
        refine g_ireturn (gd rfl) rfl rfl (hp36 _ _ ?_)
        show GG _ _ _ _ _ _ _ _ [.int (Int32.ofInt 5)] _ _ _
        refine g_istore_n 40 (gd rfl) rfl (Nat.le_of_ble_eq_true rfl) ?_
        refine g_iload_n 41 (gd rfl) rfl rfl ?_
        refine g_if_ge 44 53 (gd rfl) rfl rfl (fun c41 => ?_) (fun c41 => ?_)
        · skip
          refine g_aload_n 54 (gd rfl) rfl rfl ?_
          refine g_iconst 1 55 (gd rfl) rfl rfl ?_
          refine g_iload_n 56 (gd rfl) rfl rfl ?_
          have n56 : (u_109_109).toInt ≤ 399 := by have a0 := oa6 i36x1 ro_109_29 i29 ((inv_F hI 0 200 rfl e_109_111)) ((inv_F hI 0 400 rfl e_109_109)) ((in_c 5 rfl)); omega
          refine g_callv (X := _) (As := [.int (Int32.ofInt 1), .int (Int32.ofInt 5)]) (r := []) (b := A 109) (q := 109) 59 (gd rfl) rfl rfl rfl rfl rfl (ww_o rfl) (Nat.le_of_ble_eq_true rfl) (Nat.zero_le _) (Nat.zero_le _) (k_393 (by first | exact dq1 hd rfl | exact dq0 hd rfl | exact dq2 hd rfl | exact dq3 hd rfl | omega) hI e_109_109 n56) (fun e u h => h) (fun v u h => ?_)
          obtain ⟨s56, hI56, hF56, n56a, rfl, rfl, p56, p56a⟩ := h
          obtain ⟨z56a, e56⟩ : ∃ w, w = s56.2.2.1 109 109 := ⟨_, rfl⟩
          have i56a := inv_F hI56 0 400 rfl e56
          rw [← (show u_109_109 = s.2.2.1 109 109 from e_109_109)] at n56a
          rw [← (show z56a = s56.2.2.1 109 109 from e56)] at n56a
          show GG _ _ _ _ _ _ _ _ [] _ _ _
          refine g_aload_n 60 (gd rfl) rfl rfl ?_
          have v60 : u_109_111 = s56.2.2.1 109 111 := fr_F (e_109_111) hF56 rfl
          have n60 : (z56a).toInt + (u_109_111).toInt ≤ 120 := by have a0 := oa7 i36x1 ro_109_29 i29 ((inv_F hI 0 200 rfl e_109_111)) ((inv_F hI 0 400 rfl e_109_109)) ((in_c 5 rfl)) i56a; omega
          refine g_callv (X := _) (As := []) (r := []) (b := A 109) (q := 109) 63 (gd rfl) rfl rfl rfl rfl rfl (ww_o rfl) (Nat.le_of_ble_eq_true rfl) (Nat.zero_le _) (Nat.zero_le _) (k_400 (by first | exact dq1 hd rfl | exact dq0 hd rfl | exact dq2 hd rfl | exact dq3 hd rfl | omega) hI56 e56 v60 n60) (fun e u h => h) (fun v u h => ?_)
          obtain ⟨s60, hI60, hF60, n60a, rfl, rfl, p60⟩ := h
          obtain ⟨z60a, e60⟩ : ∃ w, w = s60.2.2.1 109 109 := ⟨_, rfl⟩
          have i60a := inv_F hI60 0 400 rfl e60
          obtain ⟨z60b, e60a⟩ : ∃ w, w = s60.2.2.1 109 111 := ⟨_, rfl⟩
          have i60b := inv_F hI60 0 200 rfl e60a
          rw [← (show z56a = s56.2.2.1 109 109 from e56)] at n60a
          rw [← (show u_109_111 = s56.2.2.1 109 111 from fr_F (e_109_111) hF56 rfl)] at n60a
          rw [← (show z60a = s60.2.2.1 109 109 from e60)] at n60a
          rw [← (show z60b = s60.2.2.1 109 111 from e60a)] at n60a
          show GG _ _ _ _ _ _ _ _ [] _ _ _
          refine g_iconst 1 64 (gd rfl) rfl rfl ?_
          have n64 : ((Int32.ofInt 1)).toInt = 0 → PR s s60 0 0 := by exact fun h => absurd h (by decide)
          have n64a : ((Int32.ofInt 1)).toInt ≠ 0 → PR s s60 0 1 := by intro hR; first | (exact absurd rfl hR) | exact pr_tr (pr_val p15 p15a rfl (inv_F hI 0 400 rfl rfl).1 (by rw [← e15, ← e_109_109]; exact n15a) (hF15.2.2.1 109 23 rfl) (hF15.1 190 rfl) (hF15.2.2.1 109 111 rfl) (fun _ => Or.inl rfl)) p19 | exact pr_tr (pr_val p56 p56a rfl (inv_F hI 0 400 rfl rfl).1 (by rw [← e56, ← e_109_109]; exact n56a) (hF56.2.2.1 109 23 rfl) (hF56.1 190 rfl) (hF56.2.2.1 109 111 rfl) (fun _ => Or.inr ⟨rfl, by decide, by decide⟩)) p60 | exact pr_tr (pr_tr (b := 0) (pr_flt (hF50.1 187 rfl) (hF50.1 188 rfl) (hF50.2.2.1 109 109 rfl) (by rw [← e50]; omega)) (pr_val p56 p56a rfl (inv_F hI50 0 400 rfl rfl).1 (by rw [← e56, ← (show u_109_109 = s50.2.2.1 109 109 from fr_F e_109_109 hF50 rfl)]; exact n56a) (hF56.2.2.1 109 23 rfl) (hF56.1 190 rfl) (hF56.2.2.1 109 111 rfl) (fun h => absurd h (by rw [← e50]; omega)))) p60
          have n64b : (z60a).toInt + (z60b).toInt ≤ (u_109_109).toInt + (u_109_111).toInt + 1 := by have a0 := oa8 i36x1 ro_109_29 i29 ((inv_F hI 0 200 rfl e_109_111)) ((inv_F hI 0 400 rfl e_109_109)) ((in_c 5 rfl)) i60b i60a; omega
          have n64c : (s60.2.2.1 109 109).toInt + (s60.2.2.1 109 111).toInt ≤ (s.2.2.1 109 109).toInt + (s.2.2.1 109 111).toInt + 1 := by have b0 : z60a = s60.2.2.1 109 109 := e60; have b1 : z60b = s60.2.2.1 109 111 := e60a; first | (rw [← b0, ← b1, ← e_109_109, ← e_109_111]; exact n64b) | (rw [← b0, ← b1]; exact n64b)
          have n64d : (u_109_28).toInt = 0 → (z60a).toInt + (z60b).toInt = (u_109_109).toInt + (u_109_111).toInt := by have a0 := oa8 i36x1 ro_109_29 i29 ((inv_F hI 0 200 rfl e_109_111)) ((inv_F hI 0 400 rfl e_109_109)) ((in_c 5 rfl)) i60b i60a; omega
          have n64e : (s.2.2.1 109 28).toInt = 0 → (s60.2.2.1 109 109).toInt + (s60.2.2.1 109 111).toInt = (s.2.2.1 109 109).toInt + (s.2.2.1 109 111).toInt := by have b0 : z60a = s60.2.2.1 109 109 := e60; have b1 : z60b = s60.2.2.1 109 111 := e60a; first | (rw [← b0, ← b1, ← e_109_28, ← e_109_109, ← e_109_111]; exact n64d) | (rw [← b0, ← b1]; exact n64d)
          have n64f : (u_109_28).toInt = 0 → 1 ≤ ((s60.2.2.1 109 23)).toInt := by have a0 := oa9 i36x1 ro_109_29 i29 ((inv_F hI 0 200 rfl e_109_111)) ((inv_F hI 0 400 rfl e_109_109)) ((in_c 5 rfl)) i60b i60a ((show In (s60.2.2.1 109 23) 0 9 from inv_F hI60 0 9 rfl rfl)); omega
          have n64g : (s.2.2.1 109 28).toInt = 0 → 1 ≤ (s60.2.2.1 109 23).toInt := by rw [← e_109_28]; exact n64f
          exact g_ireturn (gd rfl) rfl (nb01 (in_w 0 1 (in_c 1 rfl) rfl)) (hP _ _ ⟨s60, hI60, (fr_tr rfl (fr_tr rfl fr_rf hF56) hF60), n64c, n64e, n64g, (Int32.ofInt 1), rfl, rfl, in_w 0 1 (in_c 1 rfl) rfl, n64, n64a⟩)
        · skip
          exact zn_lt c41 (in_c 5 rfl) rfl
      · skip
        have i36x1 := sw_eq c36x1
        refine g_bipush 6 114 (gd rfl) rfl rfl ?_
        refine g_ireturn (gd rfl) rfl rfl (hp36 _ _ ?_)
        show GG _ _ _ _ _ _ _ _ [.int (Int32.ofInt 6)] _ _ _
        refine g_istore_n 40 (gd rfl) rfl (Nat.le_of_ble_eq_true rfl) ?_
        refine g_iload_n 41 (gd rfl) rfl rfl ?_
        refine g_if_ge 44 53 (gd rfl) rfl rfl (fun c41 => ?_) (fun c41 => ?_)
        · skip
          refine g_aload_n 54 (gd rfl) rfl rfl ?_
          refine g_iconst 1 55 (gd rfl) rfl rfl ?_
          refine g_iload_n 56 (gd rfl) rfl rfl ?_
          have n56 : (u_109_109).toInt ≤ 399 := by have a0 := oa6 i36x1 ro_109_29 i29 ((inv_F hI 0 200 rfl e_109_111)) ((inv_F hI 0 400 rfl e_109_109)) ((in_c 6 rfl)); omega
          refine g_callv (X := _) (As := [.int (Int32.ofInt 1), .int (Int32.ofInt 6)]) (r := []) (b := A 109) (q := 109) 59 (gd rfl) rfl rfl rfl rfl rfl (ww_o rfl) (Nat.le_of_ble_eq_true rfl) (Nat.zero_le _) (Nat.zero_le _) (k_393 (by first | exact dq1 hd rfl | exact dq0 hd rfl | exact dq2 hd rfl | exact dq3 hd rfl | omega) hI e_109_109 n56) (fun e u h => h) (fun v u h => ?_)
          obtain ⟨s56, hI56, hF56, n56a, rfl, rfl, p56, p56a⟩ := h
          obtain ⟨z56a, e56⟩ : ∃ w, w = s56.2.2.1 109 109 := ⟨_, rfl⟩
          have i56a := inv_F hI56 0 400 rfl e56
          rw [← (show u_109_109 = s.2.2.1 109 109 from e_109_109)] at n56a
          rw [← (show z56a = s56.2.2.1 109 109 from e56)] at n56a
          show GG _ _ _ _ _ _ _ _ [] _ _ _
          refine g_aload_n 60 (gd rfl) rfl rfl ?_
          have v60 : u_109_111 = s56.2.2.1 109 111 := fr_F (e_109_111) hF56 rfl
          have n60 : (z56a).toInt + (u_109_111).toInt ≤ 120 := by have a0 := oa7 i36x1 ro_109_29 i29 ((inv_F hI 0 200 rfl e_109_111)) ((inv_F hI 0 400 rfl e_109_109)) ((in_c 6 rfl)) i56a; omega
          refine g_callv (X := _) (As := []) (r := []) (b := A 109) (q := 109) 63 (gd rfl) rfl rfl rfl rfl rfl (ww_o rfl) (Nat.le_of_ble_eq_true rfl) (Nat.zero_le _) (Nat.zero_le _) (k_400 (by first | exact dq1 hd rfl | exact dq0 hd rfl | exact dq2 hd rfl | exact dq3 hd rfl | omega) hI56 e56 v60 n60) (fun e u h => h) (fun v u h => ?_)
          obtain ⟨s60, hI60, hF60, n60a, rfl, rfl, p60⟩ := h
          obtain ⟨z60a, e60⟩ : ∃ w, w = s60.2.2.1 109 109 := ⟨_, rfl⟩
          have i60a := inv_F hI60 0 400 rfl e60
          obtain ⟨z60b, e60a⟩ : ∃ w, w = s60.2.2.1 109 111 := ⟨_, rfl⟩
          have i60b := inv_F hI60 0 200 rfl e60a
          rw [← (show z56a = s56.2.2.1 109 109 from e56)] at n60a
          rw [← (show u_109_111 = s56.2.2.1 109 111 from fr_F (e_109_111) hF56 rfl)] at n60a
          rw [← (show z60a = s60.2.2.1 109 109 from e60)] at n60a
          rw [← (show z60b = s60.2.2.1 109 111 from e60a)] at n60a
          show GG _ _ _ _ _ _ _ _ [] _ _ _
          refine g_iconst 1 64 (gd rfl) rfl rfl ?_
          have n64 : ((Int32.ofInt 1)).toInt = 0 → PR s s60 0 0 := by exact fun h => absurd h (by decide)
          have n64a : ((Int32.ofInt 1)).toInt ≠ 0 → PR s s60 0 1 := by intro hR; first | (exact absurd rfl hR) | exact pr_tr (pr_val p15 p15a rfl (inv_F hI 0 400 rfl rfl).1 (by rw [← e15, ← e_109_109]; exact n15a) (hF15.2.2.1 109 23 rfl) (hF15.1 190 rfl) (hF15.2.2.1 109 111 rfl) (fun _ => Or.inl rfl)) p19 | exact pr_tr (pr_val p56 p56a rfl (inv_F hI 0 400 rfl rfl).1 (by rw [← e56, ← e_109_109]; exact n56a) (hF56.2.2.1 109 23 rfl) (hF56.1 190 rfl) (hF56.2.2.1 109 111 rfl) (fun _ => Or.inr ⟨rfl, by decide, by decide⟩)) p60 | exact pr_tr (pr_tr (b := 0) (pr_flt (hF50.1 187 rfl) (hF50.1 188 rfl) (hF50.2.2.1 109 109 rfl) (by rw [← e50]; omega)) (pr_val p56 p56a rfl (inv_F hI50 0 400 rfl rfl).1 (by rw [← e56, ← (show u_109_109 = s50.2.2.1 109 109 from fr_F e_109_109 hF50 rfl)]; exact n56a) (hF56.2.2.1 109 23 rfl) (hF56.1 190 rfl) (hF56.2.2.1 109 111 rfl) (fun h => absurd h (by rw [← e50]; omega)))) p60
          have n64b : (z60a).toInt + (z60b).toInt ≤ (u_109_109).toInt + (u_109_111).toInt + 1 := by have a0 := oa8 i36x1 ro_109_29 i29 ((inv_F hI 0 200 rfl e_109_111)) ((inv_F hI 0 400 rfl e_109_109)) ((in_c 6 rfl)) i60b i60a; omega
          have n64c : (s60.2.2.1 109 109).toInt + (s60.2.2.1 109 111).toInt ≤ (s.2.2.1 109 109).toInt + (s.2.2.1 109 111).toInt + 1 := by have b0 : z60a = s60.2.2.1 109 109 := e60; have b1 : z60b = s60.2.2.1 109 111 := e60a; first | (rw [← b0, ← b1, ← e_109_109, ← e_109_111]; exact n64b) | (rw [← b0, ← b1]; exact n64b)
          have n64d : (u_109_28).toInt = 0 → (z60a).toInt + (z60b).toInt = (u_109_109).toInt + (u_109_111).toInt := by have a0 := oa8 i36x1 ro_109_29 i29 ((inv_F hI 0 200 rfl e_109_111)) ((inv_F hI 0 400 rfl e_109_109)) ((in_c 6 rfl)) i60b i60a; omega
          have n64e : (s.2.2.1 109 28).toInt = 0 → (s60.2.2.1 109 109).toInt + (s60.2.2.1 109 111).toInt = (s.2.2.1 109 109).toInt + (s.2.2.1 109 111).toInt := by have b0 : z60a = s60.2.2.1 109 109 := e60; have b1 : z60b = s60.2.2.1 109 111 := e60a; first | (rw [← b0, ← b1, ← e_109_28, ← e_109_109, ← e_109_111]; exact n64d) | (rw [← b0, ← b1]; exact n64d)
          have n64f : (u_109_28).toInt = 0 → 1 ≤ ((s60.2.2.1 109 23)).toInt := by have a0 := oa9 i36x1 ro_109_29 i29 ((inv_F hI 0 200 rfl e_109_111)) ((inv_F hI 0 400 rfl e_109_109)) ((in_c 6 rfl)) i60b i60a ((show In (s60.2.2.1 109 23) 0 9 from inv_F hI60 0 9 rfl rfl)); omega
          have n64g : (s.2.2.1 109 28).toInt = 0 → 1 ≤ (s60.2.2.1 109 23).toInt := by rw [← e_109_28]; exact n64f
          exact g_ireturn (gd rfl) rfl (nb01 (in_w 0 1 (in_c 1 rfl) rfl)) (hP _ _ ⟨s60, hI60, (fr_tr rfl (fr_tr rfl fr_rf hF56) hF60), n64c, n64e, n64g, (Int32.ofInt 1), rfl, rfl, in_w 0 1 (in_c 1 rfl) rfl, n64, n64a⟩)
        · skip
          exact zn_lt c41 (in_c 6 rfl) rfl
      · skip
        have i36x1 := sw_eq c36x1
        refine g_iconst (-1) 122 (gd rfl) rfl rfl ?_
        refine g_ireturn (gd rfl) rfl rfl (hp36 _ _ ?_)
        show GG _ _ _ _ _ _ _ _ [.int (Int32.ofInt (-1))] _ _ _
        refine g_istore_n 40 (gd rfl) rfl (Nat.le_of_ble_eq_true rfl) ?_
        refine g_iload_n 41 (gd rfl) rfl rfl ?_
        refine g_if_ge 44 53 (gd rfl) rfl rfl (fun c41 => ?_) (fun c41 => ?_)
        · skip
          exact zn_ge c41 (in_c (-1) rfl) rfl
        · skip
          refine g_aload_n 45 (gd rfl) rfl rfl ?_
          refine g_iconst 5 46 (gd rfl) rfl rfl ?_
          refine g_aload_n 47 (gd rfl) rfl rfl ?_
          refine g_getI 50 (gd rfl) rfl rfl rfl (fun z47 e47 => ?_)
          have q47 : u_109_29 = z47 := (e_109_29).trans e47.symm
          subst q47
          refine g_callv (X := _) (As := [.int (Int32.ofInt 5), .int u_109_29]) (r := []) (b := A 109) (q := 109) 53 (gd rfl) rfl rfl rfl rfl rfl (ww_o rfl) (Nat.le_of_ble_eq_true rfl) (Nat.zero_le _) (Nat.zero_le _) (k_298 (by first | exact dq1 hd rfl | exact dq0 hd rfl | exact dq2 hd rfl | exact dq3 hd rfl | omega) hI (in_w 1 5 (in_c 5 rfl) rfl)) (fun e u h => h) (fun v u h => ?_)
          obtain ⟨s50, hI50, hF50, n50, rfl, rfl⟩ := h
          obtain ⟨z50a, e50⟩ : ∃ w, w = s50.2.2.1 109 23 := ⟨_, rfl⟩
          have i50a := inv_F hI50 0 9 rfl e50
          rw [← (show z50a = s50.2.2.1 109 23 from e50)] at n50
          show GG _ _ _ _ _ _ _ _ [] _ _ _
          refine g_aload_n 54 (gd rfl) rfl rfl ?_
          refine g_iconst 1 55 (gd rfl) rfl rfl ?_
          refine g_iload_n 56 (gd rfl) rfl rfl ?_
          have v56 : u_109_109 = s50.2.2.1 109 109 := fr_F (e_109_109) hF50 rfl
          have n56 : (u_109_109).toInt ≤ 399 := by have a0 := oa7 i36x1 ro_109_29 i29 ((inv_F hI 0 200 rfl e_109_111)) ((inv_F hI 0 400 rfl e_109_109)) ((in_c (-1) rfl)) i50a; omega
          refine g_callv (X := _) (As := [.int (Int32.ofInt 1), .int (Int32.ofInt (-1))]) (r := []) (b := A 109) (q := 109) 59 (gd rfl) rfl rfl rfl rfl rfl (ww_o rfl) (Nat.le_of_ble_eq_true rfl) (Nat.zero_le _) (Nat.zero_le _) (k_393 (by first | exact dq1 hd rfl | exact dq0 hd rfl | exact dq2 hd rfl | exact dq3 hd rfl | omega) hI50 v56 n56) (fun e u h => h) (fun v u h => ?_)
          obtain ⟨s56, hI56, hF56, n56a, rfl, rfl, p56, p56a⟩ := h
          obtain ⟨z56a, e56⟩ : ∃ w, w = s56.2.2.1 109 109 := ⟨_, rfl⟩
          have i56a := inv_F hI56 0 400 rfl e56
          rw [← (show u_109_109 = s50.2.2.1 109 109 from fr_F (e_109_109) hF50 rfl)] at n56a
          rw [← (show z56a = s56.2.2.1 109 109 from e56)] at n56a
          show GG _ _ _ _ _ _ _ _ [] _ _ _
          refine g_aload_n 60 (gd rfl) rfl rfl ?_
          have v60 : u_109_111 = s56.2.2.1 109 111 := fr_F (fr_F (e_109_111) hF50 rfl) hF56 rfl
          have n60 : (z56a).toInt + (u_109_111).toInt ≤ 120 := by have a0 := oa8 i36x1 ro_109_29 i29 ((inv_F hI 0 200 rfl e_109_111)) ((inv_F hI 0 400 rfl e_109_109)) ((in_c (-1) rfl)) i56a i50a; omega
          refine g_callv (X := _) (As := []) (r := []) (b := A 109) (q := 109) 63 (gd rfl) rfl rfl rfl rfl rfl (ww_o rfl) (Nat.le_of_ble_eq_true rfl) (Nat.zero_le _) (Nat.zero_le _) (k_400 (by first | exact dq1 hd rfl | exact dq0 hd rfl | exact dq2 hd rfl | exact dq3 hd rfl | omega) hI56 e56 v60 n60) (fun e u h => h) (fun v u h => ?_)
          obtain ⟨s60, hI60, hF60, n60a, rfl, rfl, p60⟩ := h
          obtain ⟨z60a, e60⟩ : ∃ w, w = s60.2.2.1 109 109 := ⟨_, rfl⟩
          have i60a := inv_F hI60 0 400 rfl e60
          obtain ⟨z60b, e60a⟩ : ∃ w, w = s60.2.2.1 109 111 := ⟨_, rfl⟩
          have i60b := inv_F hI60 0 200 rfl e60a
          rw [← (show z56a = s56.2.2.1 109 109 from e56)] at n60a
          rw [← (show u_109_111 = s56.2.2.1 109 111 from fr_F (fr_F (e_109_111) hF50 rfl) hF56 rfl)] at n60a
          rw [← (show z60a = s60.2.2.1 109 109 from e60)] at n60a
          rw [← (show z60b = s60.2.2.1 109 111 from e60a)] at n60a
          show GG _ _ _ _ _ _ _ _ [] _ _ _
          refine g_iconst 1 64 (gd rfl) rfl rfl ?_
          have n64 : ((Int32.ofInt 1)).toInt = 0 → PR s s60 0 0 := by exact fun h => absurd h (by decide)
          have n64a : ((Int32.ofInt 1)).toInt ≠ 0 → PR s s60 0 1 := by intro hR; first | (exact absurd rfl hR) | exact pr_tr (pr_val p15 p15a rfl (inv_F hI 0 400 rfl rfl).1 (by rw [← e15, ← e_109_109]; exact n15a) (hF15.2.2.1 109 23 rfl) (hF15.1 190 rfl) (hF15.2.2.1 109 111 rfl) (fun _ => Or.inl rfl)) p19 | exact pr_tr (pr_val p56 p56a rfl (inv_F hI 0 400 rfl rfl).1 (by rw [← e56, ← e_109_109]; exact n56a) (hF56.2.2.1 109 23 rfl) (hF56.1 190 rfl) (hF56.2.2.1 109 111 rfl) (fun _ => Or.inr ⟨rfl, by decide, by decide⟩)) p60 | exact pr_tr (pr_tr (b := 0) (pr_flt (hF50.1 187 rfl) (hF50.1 188 rfl) (hF50.2.2.1 109 109 rfl) (by rw [← e50]; omega)) (pr_val p56 p56a rfl (inv_F hI50 0 400 rfl rfl).1 (by rw [← e56, ← (show u_109_109 = s50.2.2.1 109 109 from fr_F e_109_109 hF50 rfl)]; exact n56a) (hF56.2.2.1 109 23 rfl) (hF56.1 190 rfl) (hF56.2.2.1 109 111 rfl) (fun h => absurd h (by rw [← e50]; omega)))) p60
          have n64b : (z60a).toInt + (z60b).toInt ≤ (u_109_109).toInt + (u_109_111).toInt + 1 := by have a0 := oa9 i36x1 ro_109_29 i29 ((inv_F hI 0 200 rfl e_109_111)) ((inv_F hI 0 400 rfl e_109_109)) ((in_c (-1) rfl)) i60b i60a i50a; omega
          have n64c : (s60.2.2.1 109 109).toInt + (s60.2.2.1 109 111).toInt ≤ (s.2.2.1 109 109).toInt + (s.2.2.1 109 111).toInt + 1 := by have b0 : z60a = s60.2.2.1 109 109 := e60; have b1 : z60b = s60.2.2.1 109 111 := e60a; first | (rw [← b0, ← b1, ← e_109_109, ← e_109_111]; exact n64b) | (rw [← b0, ← b1]; exact n64b)
          have n64d : (u_109_28).toInt = 0 → (z60a).toInt + (z60b).toInt = (u_109_109).toInt + (u_109_111).toInt := by have a0 := oa9 i36x1 ro_109_29 i29 ((inv_F hI 0 200 rfl e_109_111)) ((inv_F hI 0 400 rfl e_109_109)) ((in_c (-1) rfl)) i60b i60a i50a; omega
          have n64e : (s.2.2.1 109 28).toInt = 0 → (s60.2.2.1 109 109).toInt + (s60.2.2.1 109 111).toInt = (s.2.2.1 109 109).toInt + (s.2.2.1 109 111).toInt := by have b0 : z60a = s60.2.2.1 109 109 := e60; have b1 : z60b = s60.2.2.1 109 111 := e60a; first | (rw [← b0, ← b1, ← e_109_28, ← e_109_109, ← e_109_111]; exact n64d) | (rw [← b0, ← b1]; exact n64d)
          have n64f : (u_109_28).toInt = 0 → 1 ≤ (z50a).toInt := by have a0 := oa9 i36x1 ro_109_29 i29 ((inv_F hI 0 200 rfl e_109_111)) ((inv_F hI 0 400 rfl e_109_109)) ((in_c (-1) rfl)) i60b i60a i50a; omega
          have n64g : (s.2.2.1 109 28).toInt = 0 → 1 ≤ (s60.2.2.1 109 23).toInt := by have b0 : z50a = s60.2.2.1 109 23 := fr_F (fr_F (e50) hF56 rfl) hF60 rfl; rw [← b0, ← e_109_28]; exact n64f
          exact g_ireturn (gd rfl) rfl (nb01 (in_w 0 1 (in_c 1 rfl) rfl)) (hP _ _ ⟨s60, hI60, (fr_tr rfl (fr_tr rfl (fr_tr rfl fr_rf hF50) hF56) hF60), n64c, n64e, n64g, (Int32.ofInt 1), rfl, rfl, in_w 0 1 (in_c 1 rfl) rfl, n64, n64a⟩)
      · skip
        have i36x1 := sw_eq c36x1
        refine g_iconst (-1) 122 (gd rfl) rfl rfl ?_
        refine g_ireturn (gd rfl) rfl rfl (hp36 _ _ ?_)
        show GG _ _ _ _ _ _ _ _ [.int (Int32.ofInt (-1))] _ _ _
        refine g_istore_n 40 (gd rfl) rfl (Nat.le_of_ble_eq_true rfl) ?_
        refine g_iload_n 41 (gd rfl) rfl rfl ?_
        refine g_if_ge 44 53 (gd rfl) rfl rfl (fun c41 => ?_) (fun c41 => ?_)
        · skip
          exact zn_ge c41 (in_c (-1) rfl) rfl
        · skip
          refine g_aload_n 45 (gd rfl) rfl rfl ?_
          refine g_iconst 5 46 (gd rfl) rfl rfl ?_
          refine g_aload_n 47 (gd rfl) rfl rfl ?_
          refine g_getI 50 (gd rfl) rfl rfl rfl (fun z47 e47 => ?_)
          have q47 : u_109_29 = z47 := (e_109_29).trans e47.symm
          subst q47
          refine g_callv (X := _) (As := [.int (Int32.ofInt 5), .int u_109_29]) (r := []) (b := A 109) (q := 109) 53 (gd rfl) rfl rfl rfl rfl rfl (ww_o rfl) (Nat.le_of_ble_eq_true rfl) (Nat.zero_le _) (Nat.zero_le _) (k_298 (by first | exact dq1 hd rfl | exact dq0 hd rfl | exact dq2 hd rfl | exact dq3 hd rfl | omega) hI (in_w 1 5 (in_c 5 rfl) rfl)) (fun e u h => h) (fun v u h => ?_)
          obtain ⟨s50, hI50, hF50, n50, rfl, rfl⟩ := h
          obtain ⟨z50a, e50⟩ : ∃ w, w = s50.2.2.1 109 23 := ⟨_, rfl⟩
          have i50a := inv_F hI50 0 9 rfl e50
          rw [← (show z50a = s50.2.2.1 109 23 from e50)] at n50
          show GG _ _ _ _ _ _ _ _ [] _ _ _
          refine g_aload_n 54 (gd rfl) rfl rfl ?_
          refine g_iconst 1 55 (gd rfl) rfl rfl ?_
          refine g_iload_n 56 (gd rfl) rfl rfl ?_
          have v56 : u_109_109 = s50.2.2.1 109 109 := fr_F (e_109_109) hF50 rfl
          have n56 : (u_109_109).toInt ≤ 399 := by have a0 := oa7 i36x1 ro_109_29 i29 ((inv_F hI 0 200 rfl e_109_111)) ((inv_F hI 0 400 rfl e_109_109)) ((in_c (-1) rfl)) i50a; omega
          refine g_callv (X := _) (As := [.int (Int32.ofInt 1), .int (Int32.ofInt (-1))]) (r := []) (b := A 109) (q := 109) 59 (gd rfl) rfl rfl rfl rfl rfl (ww_o rfl) (Nat.le_of_ble_eq_true rfl) (Nat.zero_le _) (Nat.zero_le _) (k_393 (by first | exact dq1 hd rfl | exact dq0 hd rfl | exact dq2 hd rfl | exact dq3 hd rfl | omega) hI50 v56 n56) (fun e u h => h) (fun v u h => ?_)
          obtain ⟨s56, hI56, hF56, n56a, rfl, rfl, p56, p56a⟩ := h
          obtain ⟨z56a, e56⟩ : ∃ w, w = s56.2.2.1 109 109 := ⟨_, rfl⟩
          have i56a := inv_F hI56 0 400 rfl e56
          rw [← (show u_109_109 = s50.2.2.1 109 109 from fr_F (e_109_109) hF50 rfl)] at n56a
          rw [← (show z56a = s56.2.2.1 109 109 from e56)] at n56a
          show GG _ _ _ _ _ _ _ _ [] _ _ _
          refine g_aload_n 60 (gd rfl) rfl rfl ?_
          have v60 : u_109_111 = s56.2.2.1 109 111 := fr_F (fr_F (e_109_111) hF50 rfl) hF56 rfl
          have n60 : (z56a).toInt + (u_109_111).toInt ≤ 120 := by have a0 := oa8 i36x1 ro_109_29 i29 ((inv_F hI 0 200 rfl e_109_111)) ((inv_F hI 0 400 rfl e_109_109)) ((in_c (-1) rfl)) i56a i50a; omega
          refine g_callv (X := _) (As := []) (r := []) (b := A 109) (q := 109) 63 (gd rfl) rfl rfl rfl rfl rfl (ww_o rfl) (Nat.le_of_ble_eq_true rfl) (Nat.zero_le _) (Nat.zero_le _) (k_400 (by first | exact dq1 hd rfl | exact dq0 hd rfl | exact dq2 hd rfl | exact dq3 hd rfl | omega) hI56 e56 v60 n60) (fun e u h => h) (fun v u h => ?_)
          obtain ⟨s60, hI60, hF60, n60a, rfl, rfl, p60⟩ := h
          obtain ⟨z60a, e60⟩ : ∃ w, w = s60.2.2.1 109 109 := ⟨_, rfl⟩
          have i60a := inv_F hI60 0 400 rfl e60
          obtain ⟨z60b, e60a⟩ : ∃ w, w = s60.2.2.1 109 111 := ⟨_, rfl⟩
          have i60b := inv_F hI60 0 200 rfl e60a
          rw [← (show z56a = s56.2.2.1 109 109 from e56)] at n60a
          rw [← (show u_109_111 = s56.2.2.1 109 111 from fr_F (fr_F (e_109_111) hF50 rfl) hF56 rfl)] at n60a
          rw [← (show z60a = s60.2.2.1 109 109 from e60)] at n60a
          rw [← (show z60b = s60.2.2.1 109 111 from e60a)] at n60a
          show GG _ _ _ _ _ _ _ _ [] _ _ _
          refine g_iconst 1 64 (gd rfl) rfl rfl ?_
          have n64 : ((Int32.ofInt 1)).toInt = 0 → PR s s60 0 0 := by exact fun h => absurd h (by decide)
          have n64a : ((Int32.ofInt 1)).toInt ≠ 0 → PR s s60 0 1 := by intro hR; first | (exact absurd rfl hR) | exact pr_tr (pr_val p15 p15a rfl (inv_F hI 0 400 rfl rfl).1 (by rw [← e15, ← e_109_109]; exact n15a) (hF15.2.2.1 109 23 rfl) (hF15.1 190 rfl) (hF15.2.2.1 109 111 rfl) (fun _ => Or.inl rfl)) p19 | exact pr_tr (pr_val p56 p56a rfl (inv_F hI 0 400 rfl rfl).1 (by rw [← e56, ← e_109_109]; exact n56a) (hF56.2.2.1 109 23 rfl) (hF56.1 190 rfl) (hF56.2.2.1 109 111 rfl) (fun _ => Or.inr ⟨rfl, by decide, by decide⟩)) p60 | exact pr_tr (pr_tr (b := 0) (pr_flt (hF50.1 187 rfl) (hF50.1 188 rfl) (hF50.2.2.1 109 109 rfl) (by rw [← e50]; omega)) (pr_val p56 p56a rfl (inv_F hI50 0 400 rfl rfl).1 (by rw [← e56, ← (show u_109_109 = s50.2.2.1 109 109 from fr_F e_109_109 hF50 rfl)]; exact n56a) (hF56.2.2.1 109 23 rfl) (hF56.1 190 rfl) (hF56.2.2.1 109 111 rfl) (fun h => absurd h (by rw [← e50]; omega)))) p60
          have n64b : (z60a).toInt + (z60b).toInt ≤ (u_109_109).toInt + (u_109_111).toInt + 1 := by have a0 := oa9 i36x1 ro_109_29 i29 ((inv_F hI 0 200 rfl e_109_111)) ((inv_F hI 0 400 rfl e_109_109)) ((in_c (-1) rfl)) i60b i60a i50a; omega
          have n64c : (s60.2.2.1 109 109).toInt + (s60.2.2.1 109 111).toInt ≤ (s.2.2.1 109 109).toInt + (s.2.2.1 109 111).toInt + 1 := by have b0 : z60a = s60.2.2.1 109 109 := e60; have b1 : z60b = s60.2.2.1 109 111 := e60a; first | (rw [← b0, ← b1, ← e_109_109, ← e_109_111]; exact n64b) | (rw [← b0, ← b1]; exact n64b)
          have n64d : (u_109_28).toInt = 0 → (z60a).toInt + (z60b).toInt = (u_109_109).toInt + (u_109_111).toInt := by have a0 := oa9 i36x1 ro_109_29 i29 ((inv_F hI 0 200 rfl e_109_111)) ((inv_F hI 0 400 rfl e_109_109)) ((in_c (-1) rfl)) i60b i60a i50a; omega
          have n64e : (s.2.2.1 109 28).toInt = 0 → (s60.2.2.1 109 109).toInt + (s60.2.2.1 109 111).toInt = (s.2.2.1 109 109).toInt + (s.2.2.1 109 111).toInt := by have b0 : z60a = s60.2.2.1 109 109 := e60; have b1 : z60b = s60.2.2.1 109 111 := e60a; first | (rw [← b0, ← b1, ← e_109_28, ← e_109_109, ← e_109_111]; exact n64d) | (rw [← b0, ← b1]; exact n64d)
          have n64f : (u_109_28).toInt = 0 → 1 ≤ (z50a).toInt := by have a0 := oa9 i36x1 ro_109_29 i29 ((inv_F hI 0 200 rfl e_109_111)) ((inv_F hI 0 400 rfl e_109_109)) ((in_c (-1) rfl)) i60b i60a i50a; omega
          have n64g : (s.2.2.1 109 28).toInt = 0 → 1 ≤ (s60.2.2.1 109 23).toInt := by have b0 : z50a = s60.2.2.1 109 23 := fr_F (fr_F (e50) hF56 rfl) hF60 rfl; rw [← b0, ← e_109_28]; exact n64f
          exact g_ireturn (gd rfl) rfl (nb01 (in_w 0 1 (in_c 1 rfl) rfl)) (hP _ _ ⟨s60, hI60, (fr_tr rfl (fr_tr rfl (fr_tr rfl fr_rf hF50) hF56) hF60), n64c, n64e, n64g, (Int32.ofInt 1), rfl, rfl, in_w 0 1 (in_c 1 rfl) rfl, n64, n64a⟩)
      · skip
        have i36x1 := sw_eq c36x1
        refine g_iconst (-1) 122 (gd rfl) rfl rfl ?_
        refine g_ireturn (gd rfl) rfl rfl (hp36 _ _ ?_)
        show GG _ _ _ _ _ _ _ _ [.int (Int32.ofInt (-1))] _ _ _
        refine g_istore_n 40 (gd rfl) rfl (Nat.le_of_ble_eq_true rfl) ?_
        refine g_iload_n 41 (gd rfl) rfl rfl ?_
        refine g_if_ge 44 53 (gd rfl) rfl rfl (fun c41 => ?_) (fun c41 => ?_)
        · skip
          exact zn_ge c41 (in_c (-1) rfl) rfl
        · skip
          refine g_aload_n 45 (gd rfl) rfl rfl ?_
          refine g_iconst 5 46 (gd rfl) rfl rfl ?_
          refine g_aload_n 47 (gd rfl) rfl rfl ?_
          refine g_getI 50 (gd rfl) rfl rfl rfl (fun z47 e47 => ?_)
          have q47 : u_109_29 = z47 := (e_109_29).trans e47.symm
          subst q47
          refine g_callv (X := _) (As := [.int (Int32.ofInt 5), .int u_109_29]) (r := []) (b := A 109) (q := 109) 53 (gd rfl) rfl rfl rfl rfl rfl (ww_o rfl) (Nat.le_of_ble_eq_true rfl) (Nat.zero_le _) (Nat.zero_le _) (k_298 (by first | exact dq1 hd rfl | exact dq0 hd rfl | exact dq2 hd rfl | exact dq3 hd rfl | omega) hI (in_w 1 5 (in_c 5 rfl) rfl)) (fun e u h => h) (fun v u h => ?_)
          obtain ⟨s50, hI50, hF50, n50, rfl, rfl⟩ := h
          obtain ⟨z50a, e50⟩ : ∃ w, w = s50.2.2.1 109 23 := ⟨_, rfl⟩
          have i50a := inv_F hI50 0 9 rfl e50
          rw [← (show z50a = s50.2.2.1 109 23 from e50)] at n50
          show GG _ _ _ _ _ _ _ _ [] _ _ _
          refine g_aload_n 54 (gd rfl) rfl rfl ?_
          refine g_iconst 1 55 (gd rfl) rfl rfl ?_
          refine g_iload_n 56 (gd rfl) rfl rfl ?_
          have v56 : u_109_109 = s50.2.2.1 109 109 := fr_F (e_109_109) hF50 rfl
          have n56 : (u_109_109).toInt ≤ 399 := by have a0 := oa7 i36x1 ro_109_29 i29 ((inv_F hI 0 200 rfl e_109_111)) ((inv_F hI 0 400 rfl e_109_109)) ((in_c (-1) rfl)) i50a; omega
          refine g_callv (X := _) (As := [.int (Int32.ofInt 1), .int (Int32.ofInt (-1))]) (r := []) (b := A 109) (q := 109) 59 (gd rfl) rfl rfl rfl rfl rfl (ww_o rfl) (Nat.le_of_ble_eq_true rfl) (Nat.zero_le _) (Nat.zero_le _) (k_393 (by first | exact dq1 hd rfl | exact dq0 hd rfl | exact dq2 hd rfl | exact dq3 hd rfl | omega) hI50 v56 n56) (fun e u h => h) (fun v u h => ?_)
          obtain ⟨s56, hI56, hF56, n56a, rfl, rfl, p56, p56a⟩ := h
          obtain ⟨z56a, e56⟩ : ∃ w, w = s56.2.2.1 109 109 := ⟨_, rfl⟩
          have i56a := inv_F hI56 0 400 rfl e56
          rw [← (show u_109_109 = s50.2.2.1 109 109 from fr_F (e_109_109) hF50 rfl)] at n56a
          rw [← (show z56a = s56.2.2.1 109 109 from e56)] at n56a
          show GG _ _ _ _ _ _ _ _ [] _ _ _
          refine g_aload_n 60 (gd rfl) rfl rfl ?_
          have v60 : u_109_111 = s56.2.2.1 109 111 := fr_F (fr_F (e_109_111) hF50 rfl) hF56 rfl
          have n60 : (z56a).toInt + (u_109_111).toInt ≤ 120 := by have a0 := oa8 i36x1 ro_109_29 i29 ((inv_F hI 0 200 rfl e_109_111)) ((inv_F hI 0 400 rfl e_109_109)) ((in_c (-1) rfl)) i56a i50a; omega
          refine g_callv (X := _) (As := []) (r := []) (b := A 109) (q := 109) 63 (gd rfl) rfl rfl rfl rfl rfl (ww_o rfl) (Nat.le_of_ble_eq_true rfl) (Nat.zero_le _) (Nat.zero_le _) (k_400 (by first | exact dq1 hd rfl | exact dq0 hd rfl | exact dq2 hd rfl | exact dq3 hd rfl | omega) hI56 e56 v60 n60) (fun e u h => h) (fun v u h => ?_)
          obtain ⟨s60, hI60, hF60, n60a, rfl, rfl, p60⟩ := h
          obtain ⟨z60a, e60⟩ : ∃ w, w = s60.2.2.1 109 109 := ⟨_, rfl⟩
          have i60a := inv_F hI60 0 400 rfl e60
          obtain ⟨z60b, e60a⟩ : ∃ w, w = s60.2.2.1 109 111 := ⟨_, rfl⟩
          have i60b := inv_F hI60 0 200 rfl e60a
          rw [← (show z56a = s56.2.2.1 109 109 from e56)] at n60a
          rw [← (show u_109_111 = s56.2.2.1 109 111 from fr_F (fr_F (e_109_111) hF50 rfl) hF56 rfl)] at n60a
          rw [← (show z60a = s60.2.2.1 109 109 from e60)] at n60a
          rw [← (show z60b = s60.2.2.1 109 111 from e60a)] at n60a
          show GG _ _ _ _ _ _ _ _ [] _ _ _
          refine g_iconst 1 64 (gd rfl) rfl rfl ?_
          have n64 : ((Int32.ofInt 1)).toInt = 0 → PR s s60 0 0 := by exact fun h => absurd h (by decide)
          have n64a : ((Int32.ofInt 1)).toInt ≠ 0 → PR s s60 0 1 := by intro hR; first | (exact absurd rfl hR) | exact pr_tr (pr_val p15 p15a rfl (inv_F hI 0 400 rfl rfl).1 (by rw [← e15, ← e_109_109]; exact n15a) (hF15.2.2.1 109 23 rfl) (hF15.1 190 rfl) (hF15.2.2.1 109 111 rfl) (fun _ => Or.inl rfl)) p19 | exact pr_tr (pr_val p56 p56a rfl (inv_F hI 0 400 rfl rfl).1 (by rw [← e56, ← e_109_109]; exact n56a) (hF56.2.2.1 109 23 rfl) (hF56.1 190 rfl) (hF56.2.2.1 109 111 rfl) (fun _ => Or.inr ⟨rfl, by decide, by decide⟩)) p60 | exact pr_tr (pr_tr (b := 0) (pr_flt (hF50.1 187 rfl) (hF50.1 188 rfl) (hF50.2.2.1 109 109 rfl) (by rw [← e50]; omega)) (pr_val p56 p56a rfl (inv_F hI50 0 400 rfl rfl).1 (by rw [← e56, ← (show u_109_109 = s50.2.2.1 109 109 from fr_F e_109_109 hF50 rfl)]; exact n56a) (hF56.2.2.1 109 23 rfl) (hF56.1 190 rfl) (hF56.2.2.1 109 111 rfl) (fun h => absurd h (by rw [← e50]; omega)))) p60
          have n64b : (z60a).toInt + (z60b).toInt ≤ (u_109_109).toInt + (u_109_111).toInt + 1 := by have a0 := oa9 i36x1 ro_109_29 i29 ((inv_F hI 0 200 rfl e_109_111)) ((inv_F hI 0 400 rfl e_109_109)) ((in_c (-1) rfl)) i60b i60a i50a; omega
          have n64c : (s60.2.2.1 109 109).toInt + (s60.2.2.1 109 111).toInt ≤ (s.2.2.1 109 109).toInt + (s.2.2.1 109 111).toInt + 1 := by have b0 : z60a = s60.2.2.1 109 109 := e60; have b1 : z60b = s60.2.2.1 109 111 := e60a; first | (rw [← b0, ← b1, ← e_109_109, ← e_109_111]; exact n64b) | (rw [← b0, ← b1]; exact n64b)
          have n64d : (u_109_28).toInt = 0 → (z60a).toInt + (z60b).toInt = (u_109_109).toInt + (u_109_111).toInt := by have a0 := oa9 i36x1 ro_109_29 i29 ((inv_F hI 0 200 rfl e_109_111)) ((inv_F hI 0 400 rfl e_109_109)) ((in_c (-1) rfl)) i60b i60a i50a; omega
          have n64e : (s.2.2.1 109 28).toInt = 0 → (s60.2.2.1 109 109).toInt + (s60.2.2.1 109 111).toInt = (s.2.2.1 109 109).toInt + (s.2.2.1 109 111).toInt := by have b0 : z60a = s60.2.2.1 109 109 := e60; have b1 : z60b = s60.2.2.1 109 111 := e60a; first | (rw [← b0, ← b1, ← e_109_28, ← e_109_109, ← e_109_111]; exact n64d) | (rw [← b0, ← b1]; exact n64d)
          have n64f : (u_109_28).toInt = 0 → 1 ≤ (z50a).toInt := by have a0 := oa9 i36x1 ro_109_29 i29 ((inv_F hI 0 200 rfl e_109_111)) ((inv_F hI 0 400 rfl e_109_109)) ((in_c (-1) rfl)) i60b i60a i50a; omega
          have n64g : (s.2.2.1 109 28).toInt = 0 → 1 ≤ (s60.2.2.1 109 23).toInt := by have b0 : z50a = s60.2.2.1 109 23 := fr_F (fr_F (e50) hF56 rfl) hF60 rfl; rw [← b0, ← e_109_28]; exact n64f
          exact g_ireturn (gd rfl) rfl (nb01 (in_w 0 1 (in_c 1 rfl) rfl)) (hP _ _ ⟨s60, hI60, (fr_tr rfl (fr_tr rfl (fr_tr rfl fr_rf hF50) hF56) hF60), n64c, n64e, n64g, (Int32.ofInt 1), rfl, rfl, in_w 0 1 (in_c 1 rfl) rfl, n64, n64a⟩)
      · skip
        have i36x1 := sw_eq c36x1
        refine g_iconst (-1) 122 (gd rfl) rfl rfl ?_
        refine g_ireturn (gd rfl) rfl rfl (hp36 _ _ ?_)
        show GG _ _ _ _ _ _ _ _ [.int (Int32.ofInt (-1))] _ _ _
        refine g_istore_n 40 (gd rfl) rfl (Nat.le_of_ble_eq_true rfl) ?_
        refine g_iload_n 41 (gd rfl) rfl rfl ?_
        refine g_if_ge 44 53 (gd rfl) rfl rfl (fun c41 => ?_) (fun c41 => ?_)
        · skip
          exact zn_ge c41 (in_c (-1) rfl) rfl
        · skip
          refine g_aload_n 45 (gd rfl) rfl rfl ?_
          refine g_iconst 5 46 (gd rfl) rfl rfl ?_
          refine g_aload_n 47 (gd rfl) rfl rfl ?_
          refine g_getI 50 (gd rfl) rfl rfl rfl (fun z47 e47 => ?_)
          have q47 : u_109_29 = z47 := (e_109_29).trans e47.symm
          subst q47
          refine g_callv (X := _) (As := [.int (Int32.ofInt 5), .int u_109_29]) (r := []) (b := A 109) (q := 109) 53 (gd rfl) rfl rfl rfl rfl rfl (ww_o rfl) (Nat.le_of_ble_eq_true rfl) (Nat.zero_le _) (Nat.zero_le _) (k_298 (by first | exact dq1 hd rfl | exact dq0 hd rfl | exact dq2 hd rfl | exact dq3 hd rfl | omega) hI (in_w 1 5 (in_c 5 rfl) rfl)) (fun e u h => h) (fun v u h => ?_)
          obtain ⟨s50, hI50, hF50, n50, rfl, rfl⟩ := h
          obtain ⟨z50a, e50⟩ : ∃ w, w = s50.2.2.1 109 23 := ⟨_, rfl⟩
          have i50a := inv_F hI50 0 9 rfl e50
          rw [← (show z50a = s50.2.2.1 109 23 from e50)] at n50
          show GG _ _ _ _ _ _ _ _ [] _ _ _
          refine g_aload_n 54 (gd rfl) rfl rfl ?_
          refine g_iconst 1 55 (gd rfl) rfl rfl ?_
          refine g_iload_n 56 (gd rfl) rfl rfl ?_
          have v56 : u_109_109 = s50.2.2.1 109 109 := fr_F (e_109_109) hF50 rfl
          have n56 : (u_109_109).toInt ≤ 399 := by have a0 := oa7 i36x1 ro_109_29 i29 ((inv_F hI 0 200 rfl e_109_111)) ((inv_F hI 0 400 rfl e_109_109)) ((in_c (-1) rfl)) i50a; omega
          refine g_callv (X := _) (As := [.int (Int32.ofInt 1), .int (Int32.ofInt (-1))]) (r := []) (b := A 109) (q := 109) 59 (gd rfl) rfl rfl rfl rfl rfl (ww_o rfl) (Nat.le_of_ble_eq_true rfl) (Nat.zero_le _) (Nat.zero_le _) (k_393 (by first | exact dq1 hd rfl | exact dq0 hd rfl | exact dq2 hd rfl | exact dq3 hd rfl | omega) hI50 v56 n56) (fun e u h => h) (fun v u h => ?_)
          obtain ⟨s56, hI56, hF56, n56a, rfl, rfl, p56, p56a⟩ := h
          obtain ⟨z56a, e56⟩ : ∃ w, w = s56.2.2.1 109 109 := ⟨_, rfl⟩
          have i56a := inv_F hI56 0 400 rfl e56
          rw [← (show u_109_109 = s50.2.2.1 109 109 from fr_F (e_109_109) hF50 rfl)] at n56a
          rw [← (show z56a = s56.2.2.1 109 109 from e56)] at n56a
          show GG _ _ _ _ _ _ _ _ [] _ _ _
          refine g_aload_n 60 (gd rfl) rfl rfl ?_
          have v60 : u_109_111 = s56.2.2.1 109 111 := fr_F (fr_F (e_109_111) hF50 rfl) hF56 rfl
          have n60 : (z56a).toInt + (u_109_111).toInt ≤ 120 := by have a0 := oa8 i36x1 ro_109_29 i29 ((inv_F hI 0 200 rfl e_109_111)) ((inv_F hI 0 400 rfl e_109_109)) ((in_c (-1) rfl)) i56a i50a; omega
          refine g_callv (X := _) (As := []) (r := []) (b := A 109) (q := 109) 63 (gd rfl) rfl rfl rfl rfl rfl (ww_o rfl) (Nat.le_of_ble_eq_true rfl) (Nat.zero_le _) (Nat.zero_le _) (k_400 (by first | exact dq1 hd rfl | exact dq0 hd rfl | exact dq2 hd rfl | exact dq3 hd rfl | omega) hI56 e56 v60 n60) (fun e u h => h) (fun v u h => ?_)
          obtain ⟨s60, hI60, hF60, n60a, rfl, rfl, p60⟩ := h
          obtain ⟨z60a, e60⟩ : ∃ w, w = s60.2.2.1 109 109 := ⟨_, rfl⟩
          have i60a := inv_F hI60 0 400 rfl e60
          obtain ⟨z60b, e60a⟩ : ∃ w, w = s60.2.2.1 109 111 := ⟨_, rfl⟩
          have i60b := inv_F hI60 0 200 rfl e60a
          rw [← (show z56a = s56.2.2.1 109 109 from e56)] at n60a
          rw [← (show u_109_111 = s56.2.2.1 109 111 from fr_F (fr_F (e_109_111) hF50 rfl) hF56 rfl)] at n60a
          rw [← (show z60a = s60.2.2.1 109 109 from e60)] at n60a
          rw [← (show z60b = s60.2.2.1 109 111 from e60a)] at n60a
          show GG _ _ _ _ _ _ _ _ [] _ _ _
          refine g_iconst 1 64 (gd rfl) rfl rfl ?_
          have n64 : ((Int32.ofInt 1)).toInt = 0 → PR s s60 0 0 := by exact fun h => absurd h (by decide)
          have n64a : ((Int32.ofInt 1)).toInt ≠ 0 → PR s s60 0 1 := by intro hR; first | (exact absurd rfl hR) | exact pr_tr (pr_val p15 p15a rfl (inv_F hI 0 400 rfl rfl).1 (by rw [← e15, ← e_109_109]; exact n15a) (hF15.2.2.1 109 23 rfl) (hF15.1 190 rfl) (hF15.2.2.1 109 111 rfl) (fun _ => Or.inl rfl)) p19 | exact pr_tr (pr_val p56 p56a rfl (inv_F hI 0 400 rfl rfl).1 (by rw [← e56, ← e_109_109]; exact n56a) (hF56.2.2.1 109 23 rfl) (hF56.1 190 rfl) (hF56.2.2.1 109 111 rfl) (fun _ => Or.inr ⟨rfl, by decide, by decide⟩)) p60 | exact pr_tr (pr_tr (b := 0) (pr_flt (hF50.1 187 rfl) (hF50.1 188 rfl) (hF50.2.2.1 109 109 rfl) (by rw [← e50]; omega)) (pr_val p56 p56a rfl (inv_F hI50 0 400 rfl rfl).1 (by rw [← e56, ← (show u_109_109 = s50.2.2.1 109 109 from fr_F e_109_109 hF50 rfl)]; exact n56a) (hF56.2.2.1 109 23 rfl) (hF56.1 190 rfl) (hF56.2.2.1 109 111 rfl) (fun h => absurd h (by rw [← e50]; omega)))) p60
          have n64b : (z60a).toInt + (z60b).toInt ≤ (u_109_109).toInt + (u_109_111).toInt + 1 := by have a0 := oa9 i36x1 ro_109_29 i29 ((inv_F hI 0 200 rfl e_109_111)) ((inv_F hI 0 400 rfl e_109_109)) ((in_c (-1) rfl)) i60b i60a i50a; omega
          have n64c : (s60.2.2.1 109 109).toInt + (s60.2.2.1 109 111).toInt ≤ (s.2.2.1 109 109).toInt + (s.2.2.1 109 111).toInt + 1 := by have b0 : z60a = s60.2.2.1 109 109 := e60; have b1 : z60b = s60.2.2.1 109 111 := e60a; first | (rw [← b0, ← b1, ← e_109_109, ← e_109_111]; exact n64b) | (rw [← b0, ← b1]; exact n64b)
          have n64d : (u_109_28).toInt = 0 → (z60a).toInt + (z60b).toInt = (u_109_109).toInt + (u_109_111).toInt := by have a0 := oa9 i36x1 ro_109_29 i29 ((inv_F hI 0 200 rfl e_109_111)) ((inv_F hI 0 400 rfl e_109_109)) ((in_c (-1) rfl)) i60b i60a i50a; omega
          have n64e : (s.2.2.1 109 28).toInt = 0 → (s60.2.2.1 109 109).toInt + (s60.2.2.1 109 111).toInt = (s.2.2.1 109 109).toInt + (s.2.2.1 109 111).toInt := by have b0 : z60a = s60.2.2.1 109 109 := e60; have b1 : z60b = s60.2.2.1 109 111 := e60a; first | (rw [← b0, ← b1, ← e_109_28, ← e_109_109, ← e_109_111]; exact n64d) | (rw [← b0, ← b1]; exact n64d)
          have n64f : (u_109_28).toInt = 0 → 1 ≤ (z50a).toInt := by have a0 := oa9 i36x1 ro_109_29 i29 ((inv_F hI 0 200 rfl e_109_111)) ((inv_F hI 0 400 rfl e_109_109)) ((in_c (-1) rfl)) i60b i60a i50a; omega
          have n64g : (s.2.2.1 109 28).toInt = 0 → 1 ≤ (s60.2.2.1 109 23).toInt := by have b0 : z50a = s60.2.2.1 109 23 := fr_F (fr_F (e50) hF56 rfl) hF60 rfl; rw [← b0, ← e_109_28]; exact n64f
          exact g_ireturn (gd rfl) rfl (nb01 (in_w 0 1 (in_c 1 rfl) rfl)) (hP _ _ ⟨s60, hI60, (fr_tr rfl (fr_tr rfl (fr_tr rfl fr_rf hF50) hF56) hF60), n64c, n64e, n64g, (Int32.ofInt 1), rfl, rfl, in_w 0 1 (in_c 1 rfl) rfl, n64, n64a⟩)
      · skip
        have i36x1 := sw_eq c36x1
        refine g_iconst 0 101 (gd rfl) rfl rfl ?_
        refine g_ireturn (gd rfl) rfl rfl (hp36 _ _ ?_)
        show GG _ _ _ _ _ _ _ _ [.int (Int32.ofInt 0)] _ _ _
        refine g_istore_n 40 (gd rfl) rfl (Nat.le_of_ble_eq_true rfl) ?_
        refine g_iload_n 41 (gd rfl) rfl rfl ?_
        refine g_if_ge 44 53 (gd rfl) rfl rfl (fun c41 => ?_) (fun c41 => ?_)
        · skip
          refine g_aload_n 54 (gd rfl) rfl rfl ?_
          refine g_iconst 1 55 (gd rfl) rfl rfl ?_
          refine g_iload_n 56 (gd rfl) rfl rfl ?_
          have n56 : (u_109_109).toInt ≤ 399 := by have a0 := oa6 i36x1 ro_109_29 i29 ((inv_F hI 0 200 rfl e_109_111)) ((inv_F hI 0 400 rfl e_109_109)) ((in_c 0 rfl)); omega
          refine g_callv (X := _) (As := [.int (Int32.ofInt 1), .int (Int32.ofInt 0)]) (r := []) (b := A 109) (q := 109) 59 (gd rfl) rfl rfl rfl rfl rfl (ww_o rfl) (Nat.le_of_ble_eq_true rfl) (Nat.zero_le _) (Nat.zero_le _) (k_393 (by first | exact dq1 hd rfl | exact dq0 hd rfl | exact dq2 hd rfl | exact dq3 hd rfl | omega) hI e_109_109 n56) (fun e u h => h) (fun v u h => ?_)
          obtain ⟨s56, hI56, hF56, n56a, rfl, rfl, p56, p56a⟩ := h
          obtain ⟨z56a, e56⟩ : ∃ w, w = s56.2.2.1 109 109 := ⟨_, rfl⟩
          have i56a := inv_F hI56 0 400 rfl e56
          rw [← (show u_109_109 = s.2.2.1 109 109 from e_109_109)] at n56a
          rw [← (show z56a = s56.2.2.1 109 109 from e56)] at n56a
          show GG _ _ _ _ _ _ _ _ [] _ _ _
          refine g_aload_n 60 (gd rfl) rfl rfl ?_
          have v60 : u_109_111 = s56.2.2.1 109 111 := fr_F (e_109_111) hF56 rfl
          have n60 : (z56a).toInt + (u_109_111).toInt ≤ 120 := by have a0 := oa7 i36x1 ro_109_29 i29 ((inv_F hI 0 200 rfl e_109_111)) ((inv_F hI 0 400 rfl e_109_109)) ((in_c 0 rfl)) i56a; omega
          refine g_callv (X := _) (As := []) (r := []) (b := A 109) (q := 109) 63 (gd rfl) rfl rfl rfl rfl rfl (ww_o rfl) (Nat.le_of_ble_eq_true rfl) (Nat.zero_le _) (Nat.zero_le _) (k_400 (by first | exact dq1 hd rfl | exact dq0 hd rfl | exact dq2 hd rfl | exact dq3 hd rfl | omega) hI56 e56 v60 n60) (fun e u h => h) (fun v u h => ?_)
          obtain ⟨s60, hI60, hF60, n60a, rfl, rfl, p60⟩ := h
          obtain ⟨z60a, e60⟩ : ∃ w, w = s60.2.2.1 109 109 := ⟨_, rfl⟩
          have i60a := inv_F hI60 0 400 rfl e60
          obtain ⟨z60b, e60a⟩ : ∃ w, w = s60.2.2.1 109 111 := ⟨_, rfl⟩
          have i60b := inv_F hI60 0 200 rfl e60a
          rw [← (show z56a = s56.2.2.1 109 109 from e56)] at n60a
          rw [← (show u_109_111 = s56.2.2.1 109 111 from fr_F (e_109_111) hF56 rfl)] at n60a
          rw [← (show z60a = s60.2.2.1 109 109 from e60)] at n60a
          rw [← (show z60b = s60.2.2.1 109 111 from e60a)] at n60a
          show GG _ _ _ _ _ _ _ _ [] _ _ _
          refine g_iconst 1 64 (gd rfl) rfl rfl ?_
          have n64 : ((Int32.ofInt 1)).toInt = 0 → PR s s60 0 0 := by exact fun h => absurd h (by decide)
          have n64a : ((Int32.ofInt 1)).toInt ≠ 0 → PR s s60 0 1 := by intro hR; first | (exact absurd rfl hR) | exact pr_tr (pr_val p15 p15a rfl (inv_F hI 0 400 rfl rfl).1 (by rw [← e15, ← e_109_109]; exact n15a) (hF15.2.2.1 109 23 rfl) (hF15.1 190 rfl) (hF15.2.2.1 109 111 rfl) (fun _ => Or.inl rfl)) p19 | exact pr_tr (pr_val p56 p56a rfl (inv_F hI 0 400 rfl rfl).1 (by rw [← e56, ← e_109_109]; exact n56a) (hF56.2.2.1 109 23 rfl) (hF56.1 190 rfl) (hF56.2.2.1 109 111 rfl) (fun _ => Or.inr ⟨rfl, by decide, by decide⟩)) p60 | exact pr_tr (pr_tr (b := 0) (pr_flt (hF50.1 187 rfl) (hF50.1 188 rfl) (hF50.2.2.1 109 109 rfl) (by rw [← e50]; omega)) (pr_val p56 p56a rfl (inv_F hI50 0 400 rfl rfl).1 (by rw [← e56, ← (show u_109_109 = s50.2.2.1 109 109 from fr_F e_109_109 hF50 rfl)]; exact n56a) (hF56.2.2.1 109 23 rfl) (hF56.1 190 rfl) (hF56.2.2.1 109 111 rfl) (fun h => absurd h (by rw [← e50]; omega)))) p60
          have n64b : (z60a).toInt + (z60b).toInt ≤ (u_109_109).toInt + (u_109_111).toInt + 1 := by have a0 := oa8 i36x1 ro_109_29 i29 ((inv_F hI 0 200 rfl e_109_111)) ((inv_F hI 0 400 rfl e_109_109)) ((in_c 0 rfl)) i60b i60a; omega
          have n64c : (s60.2.2.1 109 109).toInt + (s60.2.2.1 109 111).toInt ≤ (s.2.2.1 109 109).toInt + (s.2.2.1 109 111).toInt + 1 := by have b0 : z60a = s60.2.2.1 109 109 := e60; have b1 : z60b = s60.2.2.1 109 111 := e60a; first | (rw [← b0, ← b1, ← e_109_109, ← e_109_111]; exact n64b) | (rw [← b0, ← b1]; exact n64b)
          have n64d : (u_109_28).toInt = 0 → (z60a).toInt + (z60b).toInt = (u_109_109).toInt + (u_109_111).toInt := by have a0 := oa8 i36x1 ro_109_29 i29 ((inv_F hI 0 200 rfl e_109_111)) ((inv_F hI 0 400 rfl e_109_109)) ((in_c 0 rfl)) i60b i60a; omega
          have n64e : (s.2.2.1 109 28).toInt = 0 → (s60.2.2.1 109 109).toInt + (s60.2.2.1 109 111).toInt = (s.2.2.1 109 109).toInt + (s.2.2.1 109 111).toInt := by have b0 : z60a = s60.2.2.1 109 109 := e60; have b1 : z60b = s60.2.2.1 109 111 := e60a; first | (rw [← b0, ← b1, ← e_109_28, ← e_109_109, ← e_109_111]; exact n64d) | (rw [← b0, ← b1]; exact n64d)
          have n64f : (u_109_28).toInt = 0 → 1 ≤ ((s60.2.2.1 109 23)).toInt := by have a0 := oa9 i36x1 ro_109_29 i29 ((inv_F hI 0 200 rfl e_109_111)) ((inv_F hI 0 400 rfl e_109_109)) ((in_c 0 rfl)) i60b i60a ((show In (s60.2.2.1 109 23) 0 9 from inv_F hI60 0 9 rfl rfl)); omega
          have n64g : (s.2.2.1 109 28).toInt = 0 → 1 ≤ (s60.2.2.1 109 23).toInt := by rw [← e_109_28]; exact n64f
          exact g_ireturn (gd rfl) rfl (nb01 (in_w 0 1 (in_c 1 rfl) rfl)) (hP _ _ ⟨s60, hI60, (fr_tr rfl (fr_tr rfl fr_rf hF56) hF60), n64c, n64e, n64g, (Int32.ofInt 1), rfl, rfl, in_w 0 1 (in_c 1 rfl) rfl, n64, n64a⟩)
        · skip
          exact zn_lt c41 (in_c 0 rfl) rfl
      · skip
        refine g_iconst (-1) 122 (gd rfl) rfl rfl ?_
        refine g_ireturn (gd rfl) rfl rfl (hp36 _ _ ?_)
        show GG _ _ _ _ _ _ _ _ [.int (Int32.ofInt (-1))] _ _ _
        refine g_istore_n 40 (gd rfl) rfl (Nat.le_of_ble_eq_true rfl) ?_
        refine g_iload_n 41 (gd rfl) rfl rfl ?_
        refine g_if_ge 44 53 (gd rfl) rfl rfl (fun c41 => ?_) (fun c41 => ?_)
        · skip
          exact zn_ge c41 (in_c (-1) rfl) rfl
        · skip
          refine g_aload_n 45 (gd rfl) rfl rfl ?_
          refine g_iconst 5 46 (gd rfl) rfl rfl ?_
          refine g_aload_n 47 (gd rfl) rfl rfl ?_
          refine g_getI 50 (gd rfl) rfl rfl rfl (fun z47 e47 => ?_)
          have q47 : u_109_29 = z47 := (e_109_29).trans e47.symm
          subst q47
          refine g_callv (X := _) (As := [.int (Int32.ofInt 5), .int u_109_29]) (r := []) (b := A 109) (q := 109) 53 (gd rfl) rfl rfl rfl rfl rfl (ww_o rfl) (Nat.le_of_ble_eq_true rfl) (Nat.zero_le _) (Nat.zero_le _) (k_298 (by first | exact dq1 hd rfl | exact dq0 hd rfl | exact dq2 hd rfl | exact dq3 hd rfl | omega) hI (in_w 1 5 (in_c 5 rfl) rfl)) (fun e u h => h) (fun v u h => ?_)
          obtain ⟨s50, hI50, hF50, n50, rfl, rfl⟩ := h
          obtain ⟨z50a, e50⟩ : ∃ w, w = s50.2.2.1 109 23 := ⟨_, rfl⟩
          have i50a := inv_F hI50 0 9 rfl e50
          rw [← (show z50a = s50.2.2.1 109 23 from e50)] at n50
          show GG _ _ _ _ _ _ _ _ [] _ _ _
          refine g_aload_n 54 (gd rfl) rfl rfl ?_
          refine g_iconst 1 55 (gd rfl) rfl rfl ?_
          refine g_iload_n 56 (gd rfl) rfl rfl ?_
          have v56 : u_109_109 = s50.2.2.1 109 109 := fr_F (e_109_109) hF50 rfl
          have n56 : (u_109_109).toInt ≤ 399 := by have a0 := oa6 ro_109_29 i29 ((inv_F hI 0 200 rfl e_109_111)) ((inv_F hI 0 400 rfl e_109_109)) ((in_c (-1) rfl)) i50a; omega
          refine g_callv (X := _) (As := [.int (Int32.ofInt 1), .int (Int32.ofInt (-1))]) (r := []) (b := A 109) (q := 109) 59 (gd rfl) rfl rfl rfl rfl rfl (ww_o rfl) (Nat.le_of_ble_eq_true rfl) (Nat.zero_le _) (Nat.zero_le _) (k_393 (by first | exact dq1 hd rfl | exact dq0 hd rfl | exact dq2 hd rfl | exact dq3 hd rfl | omega) hI50 v56 n56) (fun e u h => h) (fun v u h => ?_)
          obtain ⟨s56, hI56, hF56, n56a, rfl, rfl, p56, p56a⟩ := h
          obtain ⟨z56a, e56⟩ : ∃ w, w = s56.2.2.1 109 109 := ⟨_, rfl⟩
          have i56a := inv_F hI56 0 400 rfl e56
          rw [← (show u_109_109 = s50.2.2.1 109 109 from fr_F (e_109_109) hF50 rfl)] at n56a
          rw [← (show z56a = s56.2.2.1 109 109 from e56)] at n56a
          show GG _ _ _ _ _ _ _ _ [] _ _ _
          refine g_aload_n 60 (gd rfl) rfl rfl ?_
          have v60 : u_109_111 = s56.2.2.1 109 111 := fr_F (fr_F (e_109_111) hF50 rfl) hF56 rfl
          have n60 : (z56a).toInt + (u_109_111).toInt ≤ 120 := by have a0 := oa7 ro_109_29 i29 ((inv_F hI 0 200 rfl e_109_111)) ((inv_F hI 0 400 rfl e_109_109)) ((in_c (-1) rfl)) i56a i50a; omega
          refine g_callv (X := _) (As := []) (r := []) (b := A 109) (q := 109) 63 (gd rfl) rfl rfl rfl rfl rfl (ww_o rfl) (Nat.le_of_ble_eq_true rfl) (Nat.zero_le _) (Nat.zero_le _) (k_400 (by first | exact dq1 hd rfl | exact dq0 hd rfl | exact dq2 hd rfl | exact dq3 hd rfl | omega) hI56 e56 v60 n60) (fun e u h => h) (fun v u h => ?_)
          obtain ⟨s60, hI60, hF60, n60a, rfl, rfl, p60⟩ := h
          obtain ⟨z60a, e60⟩ : ∃ w, w = s60.2.2.1 109 109 := ⟨_, rfl⟩
          have i60a := inv_F hI60 0 400 rfl e60
          obtain ⟨z60b, e60a⟩ : ∃ w, w = s60.2.2.1 109 111 := ⟨_, rfl⟩
          have i60b := inv_F hI60 0 200 rfl e60a
          rw [← (show z56a = s56.2.2.1 109 109 from e56)] at n60a
          rw [← (show u_109_111 = s56.2.2.1 109 111 from fr_F (fr_F (e_109_111) hF50 rfl) hF56 rfl)] at n60a
          rw [← (show z60a = s60.2.2.1 109 109 from e60)] at n60a
          rw [← (show z60b = s60.2.2.1 109 111 from e60a)] at n60a
          show GG _ _ _ _ _ _ _ _ [] _ _ _
          refine g_iconst 1 64 (gd rfl) rfl rfl ?_
          have n64 : ((Int32.ofInt 1)).toInt = 0 → PR s s60 0 0 := by exact fun h => absurd h (by decide)
          have n64a : ((Int32.ofInt 1)).toInt ≠ 0 → PR s s60 0 1 := by intro hR; first | (exact absurd rfl hR) | exact pr_tr (pr_val p15 p15a rfl (inv_F hI 0 400 rfl rfl).1 (by rw [← e15, ← e_109_109]; exact n15a) (hF15.2.2.1 109 23 rfl) (hF15.1 190 rfl) (hF15.2.2.1 109 111 rfl) (fun _ => Or.inl rfl)) p19 | exact pr_tr (pr_val p56 p56a rfl (inv_F hI 0 400 rfl rfl).1 (by rw [← e56, ← e_109_109]; exact n56a) (hF56.2.2.1 109 23 rfl) (hF56.1 190 rfl) (hF56.2.2.1 109 111 rfl) (fun _ => Or.inr ⟨rfl, by decide, by decide⟩)) p60 | exact pr_tr (pr_tr (b := 0) (pr_flt (hF50.1 187 rfl) (hF50.1 188 rfl) (hF50.2.2.1 109 109 rfl) (by rw [← e50]; omega)) (pr_val p56 p56a rfl (inv_F hI50 0 400 rfl rfl).1 (by rw [← e56, ← (show u_109_109 = s50.2.2.1 109 109 from fr_F e_109_109 hF50 rfl)]; exact n56a) (hF56.2.2.1 109 23 rfl) (hF56.1 190 rfl) (hF56.2.2.1 109 111 rfl) (fun h => absurd h (by rw [← e50]; omega)))) p60
          have n64b : (z60a).toInt + (z60b).toInt ≤ (u_109_109).toInt + (u_109_111).toInt + 1 := by have a0 := oa8 ro_109_29 i29 ((inv_F hI 0 200 rfl e_109_111)) ((inv_F hI 0 400 rfl e_109_109)) ((in_c (-1) rfl)) i60b i60a i50a; omega
          have n64c : (s60.2.2.1 109 109).toInt + (s60.2.2.1 109 111).toInt ≤ (s.2.2.1 109 109).toInt + (s.2.2.1 109 111).toInt + 1 := by have b0 : z60a = s60.2.2.1 109 109 := e60; have b1 : z60b = s60.2.2.1 109 111 := e60a; first | (rw [← b0, ← b1, ← e_109_109, ← e_109_111]; exact n64b) | (rw [← b0, ← b1]; exact n64b)
          have n64d : (u_109_28).toInt = 0 → (z60a).toInt + (z60b).toInt = (u_109_109).toInt + (u_109_111).toInt := by have a0 := oa8 ro_109_29 i29 ((inv_F hI 0 200 rfl e_109_111)) ((inv_F hI 0 400 rfl e_109_109)) ((in_c (-1) rfl)) i60b i60a i50a; omega
          have n64e : (s.2.2.1 109 28).toInt = 0 → (s60.2.2.1 109 109).toInt + (s60.2.2.1 109 111).toInt = (s.2.2.1 109 109).toInt + (s.2.2.1 109 111).toInt := by have b0 : z60a = s60.2.2.1 109 109 := e60; have b1 : z60b = s60.2.2.1 109 111 := e60a; first | (rw [← b0, ← b1, ← e_109_28, ← e_109_109, ← e_109_111]; exact n64d) | (rw [← b0, ← b1]; exact n64d)
          have n64f : (u_109_28).toInt = 0 → 1 ≤ (z50a).toInt := by have a0 := oa8 ro_109_29 i29 ((inv_F hI 0 200 rfl e_109_111)) ((inv_F hI 0 400 rfl e_109_109)) ((in_c (-1) rfl)) i60b i60a i50a; omega
          have n64g : (s.2.2.1 109 28).toInt = 0 → 1 ≤ (s60.2.2.1 109 23).toInt := by have b0 : z50a = s60.2.2.1 109 23 := fr_F (fr_F (e50) hF56 rfl) hF60 rfl; rw [← b0, ← e_109_28]; exact n64f
          exact g_ireturn (gd rfl) rfl (nb01 (in_w 0 1 (in_c 1 rfl) rfl)) (hP _ _ ⟨s60, hI60, (fr_tr rfl (fr_tr rfl (fr_tr rfl fr_rf hF50) hF56) hF60), n64c, n64e, n64g, (Int32.ofInt 1), rfl, rfl, in_w 0 1 (in_c 1 rfl) rfl, n64, n64a⟩)
  · skip
    have i5 := r_eq1 2 2 c5 (inv_F hI (-2147483648) 2147483647 rfl e_109_28) (in_c 2 rfl) rfl
    refine g_aload_n 9 (gd rfl) rfl rfl ?_
    refine g_iconst 0 10 (gd rfl) rfl rfl ?_
    refine g_aload_n 11 (gd rfl) rfl rfl ?_
    refine g_getL 14 (gd rfl) rfl rfl rfl (fun z11 e11 => ?_)
    refine g_l2i 15 (gd rfl) rfl (fun z14 e14 => ?_)
    have n15 : (u_109_109).toInt ≤ 399 := by have a0 := oa4 ro_109_29 i5 ((inv_F hI 0 200 rfl e_109_111)) ((inv_F hI 0 400 rfl e_109_109)); omega
    refine g_callv (X := _) (As := [.int (Int32.ofInt 0), .int z14]) (r := []) (b := A 109) (q := 109) 18 (gd rfl) rfl rfl rfl rfl rfl (ww_o rfl) (Nat.le_of_ble_eq_true rfl) (Nat.zero_le _) (Nat.zero_le _) (k_393 (by first | exact dq1 hd rfl | exact dq0 hd rfl | exact dq2 hd rfl | exact dq3 hd rfl | omega) hI e_109_109 n15) (fun e u h => h) (fun v u h => ?_)
    obtain ⟨s15, hI15, hF15, n15a, rfl, rfl, p15, p15a⟩ := h
    obtain ⟨z15a, e15⟩ : ∃ w, w = s15.2.2.1 109 109 := ⟨_, rfl⟩
    have i15a := inv_F hI15 0 400 rfl e15
    rw [← (show u_109_109 = s.2.2.1 109 109 from e_109_109)] at n15a
    rw [← (show z15a = s15.2.2.1 109 109 from e15)] at n15a
    show GG _ _ _ _ _ _ _ _ [] _ _ _
    refine g_aload_n 19 (gd rfl) rfl rfl ?_
    have v19 : u_109_111 = s15.2.2.1 109 111 := fr_F (e_109_111) hF15 rfl
    have n19 : (z15a).toInt + (u_109_111).toInt ≤ 120 := by have a0 := oa5 ro_109_29 i5 ((inv_F hI 0 200 rfl e_109_111)) ((inv_F hI 0 400 rfl e_109_109)) i15a; omega
    refine g_callv (X := _) (As := []) (r := []) (b := A 109) (q := 109) 22 (gd rfl) rfl rfl rfl rfl rfl (ww_o rfl) (Nat.le_of_ble_eq_true rfl) (Nat.zero_le _) (Nat.zero_le _) (k_400 (by first | exact dq1 hd rfl | exact dq0 hd rfl | exact dq2 hd rfl | exact dq3 hd rfl | omega) hI15 e15 v19 n19) (fun e u h => h) (fun v u h => ?_)
    obtain ⟨s19, hI19, hF19, n19a, rfl, rfl, p19⟩ := h
    obtain ⟨z19a, e19⟩ : ∃ w, w = s19.2.2.1 109 109 := ⟨_, rfl⟩
    have i19a := inv_F hI19 0 400 rfl e19
    obtain ⟨z19b, e19a⟩ : ∃ w, w = s19.2.2.1 109 111 := ⟨_, rfl⟩
    have i19b := inv_F hI19 0 200 rfl e19a
    rw [← (show z15a = s15.2.2.1 109 109 from e15)] at n19a
    rw [← (show u_109_111 = s15.2.2.1 109 111 from fr_F (e_109_111) hF15 rfl)] at n19a
    rw [← (show z19a = s19.2.2.1 109 109 from e19)] at n19a
    rw [← (show z19b = s19.2.2.1 109 111 from e19a)] at n19a
    show GG _ _ _ _ _ _ _ _ [] _ _ _
    refine g_iconst 1 23 (gd rfl) rfl rfl ?_
    have n23 : ((Int32.ofInt 1)).toInt = 0 → PR s s19 0 0 := by exact fun h => absurd h (by decide)
    have n23a : ((Int32.ofInt 1)).toInt ≠ 0 → PR s s19 0 1 := by intro hR; first | (exact absurd rfl hR) | exact pr_tr (pr_val p15 p15a rfl (inv_F hI 0 400 rfl rfl).1 (by rw [← e15, ← e_109_109]; exact n15a) (hF15.2.2.1 109 23 rfl) (hF15.1 190 rfl) (hF15.2.2.1 109 111 rfl) (fun _ => Or.inl rfl)) p19 | exact pr_tr (pr_val p56 p56a rfl (inv_F hI 0 400 rfl rfl).1 (by rw [← e56, ← e_109_109]; exact n56a) (hF56.2.2.1 109 23 rfl) (hF56.1 190 rfl) (hF56.2.2.1 109 111 rfl) (fun _ => Or.inr ⟨rfl, by decide, by decide⟩)) p60 | exact pr_tr (pr_tr (b := 0) (pr_flt (hF50.1 187 rfl) (hF50.1 188 rfl) (hF50.2.2.1 109 109 rfl) (by rw [← e50]; omega)) (pr_val p56 p56a rfl (inv_F hI50 0 400 rfl rfl).1 (by rw [← e56, ← (show u_109_109 = s50.2.2.1 109 109 from fr_F e_109_109 hF50 rfl)]; exact n56a) (hF56.2.2.1 109 23 rfl) (hF56.1 190 rfl) (hF56.2.2.1 109 111 rfl) (fun h => absurd h (by rw [← e50]; omega)))) p60
    have n23b : (z19a).toInt + (z19b).toInt ≤ (u_109_109).toInt + (u_109_111).toInt + 1 := by have a0 := oa6 ro_109_29 i5 ((inv_F hI 0 200 rfl e_109_111)) ((inv_F hI 0 400 rfl e_109_109)) i19b i19a; omega
    have n23c : (s19.2.2.1 109 109).toInt + (s19.2.2.1 109 111).toInt ≤ (s.2.2.1 109 109).toInt + (s.2.2.1 109 111).toInt + 1 := by have b0 : z19a = s19.2.2.1 109 109 := e19; have b1 : z19b = s19.2.2.1 109 111 := e19a; first | (rw [← b0, ← b1, ← e_109_109, ← e_109_111]; exact n23b) | (rw [← b0, ← b1]; exact n23b)
    have n23d : (u_109_28).toInt = 0 → (z19a).toInt + (z19b).toInt = (u_109_109).toInt + (u_109_111).toInt := by have a0 := oa6 ro_109_29 i5 ((inv_F hI 0 200 rfl e_109_111)) ((inv_F hI 0 400 rfl e_109_109)) i19b i19a; omega
    have n23e : (s.2.2.1 109 28).toInt = 0 → (s19.2.2.1 109 109).toInt + (s19.2.2.1 109 111).toInt = (s.2.2.1 109 109).toInt + (s.2.2.1 109 111).toInt := by have b0 : z19a = s19.2.2.1 109 109 := e19; have b1 : z19b = s19.2.2.1 109 111 := e19a; first | (rw [← b0, ← b1, ← e_109_28, ← e_109_109, ← e_109_111]; exact n23d) | (rw [← b0, ← b1]; exact n23d)
    have n23f : (u_109_28).toInt = 0 → 1 ≤ ((s19.2.2.1 109 23)).toInt := by have a0 := oa7 ro_109_29 i5 ((inv_F hI 0 200 rfl e_109_111)) ((inv_F hI 0 400 rfl e_109_109)) i19b i19a ((show In (s19.2.2.1 109 23) 0 9 from inv_F hI19 0 9 rfl rfl)); omega
    have n23g : (s.2.2.1 109 28).toInt = 0 → 1 ≤ (s19.2.2.1 109 23).toInt := by rw [← e_109_28]; exact n23f
    exact g_ireturn (gd rfl) rfl (nb01 (in_w 0 1 (in_c 1 rfl) rfl)) (hP _ _ ⟨s19, hI19, (fr_tr rfl (fr_tr rfl fr_rf hF15) hF19), n23c, n23e, n23g, (Int32.ofInt 1), rfl, rfl, in_w 0 1 (in_c 1 rfl) rfl, n23, n23a⟩)
end
section
/-! methods, by vc.py -/
def fm_402 : FM := ([187, 188, 190], [], [(109, 23), (109, 24), (109, 109), (109, 111), (109, 112)], [])
/-- GraphHouseModel.behindFactor -/
theorem k_402 {Z : AmZ} {A : Nat → Nat} {s : GS} {ex : va_W} {d : Nat} {X : AmX} {x1 : Int32} {u_109_109 : Int32} {u_109_111 : Int32} {u_109_28 : Int32} (hd : 4 ≤ d) (hI : Inv s) (h1 : In x1 0 1) (e_109_109 : u_109_109 = s.2.2.1 109 109) (e_109_111 : u_109_111 = s.2.2.1 109 111) (e_109_28 : u_109_28 = s.2.2.1 109 28) (p_0 : (u_109_109).toInt + (u_109_111).toInt ≤ 120) (p_1 : (u_109_28).toInt ≠ 0 → (u_109_109).toInt + (u_109_111).toInt ≤ 119) : GC Z d 402 [.ref (A 109), .int x1] (WW Z A s ++ ex) 0 0 (fun v u => ∃ t : GS, Inv t ∧ Fr fm_402 s t ∧ ((t.2.2.1 109 109).toInt + (t.2.2.1 109 111).toInt ≤ (s.2.2.1 109 109).toInt + (s.2.2.1 109 111).toInt + 1) ∧ ((s.2.2.1 109 28).toInt = 0 → (t.2.2.1 109 109).toInt + (t.2.2.1 109 111).toInt = (s.2.2.1 109 109).toInt + (s.2.2.1 109 111).toInt) ∧ ∃ z : Int32, v = some (.int z) ∧ u = WW Z A t ++ ex ∧ In z 0 2 ∧ ((z).toInt = 0 → PR s t 1 0) ∧ ((z).toInt ≠ 0 → PR s t 1 1) ∧ ((s.2.2.1 109 28).toInt = 0 → (z).toInt = 2)) X := by
  intro post xp hP hX
  obtain ⟨u_109_29, e_109_29⟩ : ∃ w, w = s.2.2.1 109 29 := ⟨_, rfl⟩
  have ro_109_29 := inv_F hI 0 1000 rfl e_109_29
  obtain ⟨u_109_30, e_109_30⟩ : ∃ w, w = s.2.2.1 109 30 := ⟨_, rfl⟩
  refine g_enter2 (k := 402) (N := 900) (by first | exact dq1 hd rfl | exact dq0 hd rfl | exact dq2 hd rfl | exact dq3 hd rfl | omega) rfl (Nat.le_of_ble_eq_true rfl) ?_
  refine g_aload_n 1 (gd rfl) rfl rfl ?_
  refine g_getI 4 (gd rfl) rfl rfl rfl (fun z1 e1 => ?_)
  have q1 : u_109_28 = z1 := (e_109_28).trans e1.symm
  subst q1
  refine g_if_eq 7 24 (gd rfl) rfl rfl (fun c4 => ?_) (fun c4 => ?_)
  · skip
    have i4 := z_eq 0 0 c4 (inv_F hI (-2147483648) 2147483647 rfl e_109_28) rfl
    refine g_aload_n 25 (gd rfl) rfl rfl ?_
    refine g_iconst 1 26 (gd rfl) rfl rfl ?_
    have n26 : (u_109_109).toInt + (u_109_111).toInt ≤ 120 := by have a0 := oa5 ro_109_29 i4 ((inv_F hI 0 200 rfl e_109_111)) ((inv_F hI 0 400 rfl e_109_109)) h1; omega
    refine g_callv (X := _) (As := [.int (Int32.ofInt 1)]) (r := []) (b := A 109) (q := 109) 29 (gd rfl) rfl rfl rfl rfl rfl (ww_o rfl) (Nat.le_of_ble_eq_true rfl) (Nat.zero_le _) (Nat.zero_le _) (k_399 (by first | exact dq1 hd rfl | exact dq0 hd rfl | exact dq2 hd rfl | exact dq3 hd rfl | omega) hI (in_w 1 3 (in_c 1 rfl) rfl) e_109_109 e_109_111 n26) (fun e u h => h) (fun v u h => ?_)
    obtain ⟨s26, hI26, hF26, n26a, rfl, rfl, p26⟩ := h
    obtain ⟨z26a, e26⟩ : ∃ w, w = s26.2.2.1 109 109 := ⟨_, rfl⟩
    have i26a := inv_F hI26 0 400 rfl e26
    obtain ⟨z26b, e26a⟩ : ∃ w, w = s26.2.2.1 109 111 := ⟨_, rfl⟩
    have i26b := inv_F hI26 0 200 rfl e26a
    rw [← (show u_109_109 = s.2.2.1 109 109 from e_109_109)] at n26a
    rw [← (show u_109_111 = s.2.2.1 109 111 from e_109_111)] at n26a
    rw [← (show z26a = s26.2.2.1 109 109 from e26)] at n26a
    rw [← (show z26b = s26.2.2.1 109 111 from e26a)] at n26a
    show GG _ _ _ _ _ _ _ _ [] _ _ _
    refine g_aload_n 30 (gd rfl) rfl rfl ?_
    refine g_getI 33 (gd rfl) rfl rfl rfl (fun z30 e30 => ?_)
    have q30 : z26b = z30 := (e26a).trans e30.symm
    subst q30
    refine g_if_gt 36 53 (gd rfl) rfl rfl (fun c33 => ?_) (fun c33 => ?_)
    · skip
      have i33 := z_gt 1 200 c33 i26b rfl
      refine g_aload_n 54 (gd rfl) rfl rfl ?_
      refine g_iconst 2 55 (gd rfl) rfl rfl ?_
      refine g_aload_n 56 (gd rfl) rfl rfl ?_
      refine g_getI 59 (gd rfl) rfl rfl rfl (fun z56 e56 => ?_)
      have q56 : u_109_29 = z56 := (fr_F (e_109_29) hF26 rfl).trans e56.symm
      subst q56
      refine g_callv (X := _) (As := [.int (Int32.ofInt 2), .int u_109_29]) (r := []) (b := A 109) (q := 109) 62 (gd rfl) rfl rfl rfl rfl rfl (ww_o rfl) (Nat.le_of_ble_eq_true rfl) (Nat.zero_le _) (Nat.zero_le _) (k_298 (by first | exact dq1 hd rfl | exact dq0 hd rfl | exact dq2 hd rfl | exact dq3 hd rfl | omega) hI26 (in_w 1 5 (in_c 2 rfl) rfl)) (fun e u h => h) (fun v u h => ?_)
      obtain ⟨s59, hI59, hF59, n59, rfl, rfl⟩ := h
      obtain ⟨z59a, e59⟩ : ∃ w, w = s59.2.2.1 109 23 := ⟨_, rfl⟩
      have i59a := inv_F hI59 0 9 rfl e59
      rw [← (show z59a = s59.2.2.1 109 23 from e59)] at n59
      show GG _ _ _ _ _ _ _ _ [] _ _ _
      refine g_iconst 2 63 (gd rfl) rfl rfl ?_
      have n63 : ((Int32.ofInt 2)).toInt = 0 → PR s s59 1 0 := by exact fun h => absurd h (by decide)
      have n63a : ((Int32.ofInt 2)).toInt ≠ 0 → PR s s59 1 1 := by intro hR; first | (exact absurd rfl hR) | exact p26 | exact pr_tr p26 (pr_flt (hF59.1 187 rfl) (hF59.1 188 rfl) (hF59.2.2.1 109 109 rfl) (by rw [← e59]; omega)) | exact pr_tr p163 (pr_flt (hF181.1 187 rfl) (hF181.1 188 rfl) (hF181.2.2.1 109 109 rfl) (by rw [← e181]; omega)) | exact pr_flt (hF202.1 187 rfl) (hF202.1 188 rfl) (hF202.2.2.1 109 109 rfl) (by rw [← e202]; omega) | exact pr_tr p163 (pr_tr (pr_drop (x := z167x21) (b := z167x20) (hF187.1 187 rfl) (hF187.1 188 rfl) (hF187.2.2.1 109 109 rfl) (hF187.2.2.1 109 23 rfl) (hF187.1 190 rfl) (by rw [← e187]; have a0 := oa8 ro_109_29 i4 ((inv_F hI 0 200 rfl e_109_111)) ((inv_F hI 0 400 rfl e_109_109)) h1 i59a i33 i26a; omega) (by rw [← e163a]; have a0 := oa8 ro_109_29 i4 ((inv_F hI 0 200 rfl e_109_111)) ((inv_F hI 0 400 rfl e_109_109)) h1 i59a i33 i26a; omega) i167x20.1 e167x21 (Or.inr (c172.trans rfl))) p191)
      have n63b : (s.2.2.1 109 28).toInt = 0 → ((Int32.ofInt 2)).toInt = 2 := by rw [← e_109_28]; intro h0; first | rfl | (exfalso; have a0 := oa8 ro_109_29 i4 ((inv_F hI 0 200 rfl e_109_111)) ((inv_F hI 0 400 rfl e_109_109)) h1 i59a i33 i26a; omega)
      have n63c : (z26a).toInt + (z26b).toInt ≤ (u_109_109).toInt + (u_109_111).toInt + 1 := by have a0 := oa8 ro_109_29 i4 ((inv_F hI 0 200 rfl e_109_111)) ((inv_F hI 0 400 rfl e_109_109)) h1 i59a i33 i26a; omega
      have n63d : (s59.2.2.1 109 109).toInt + (s59.2.2.1 109 111).toInt ≤ (s.2.2.1 109 109).toInt + (s.2.2.1 109 111).toInt + 1 := by have b0 : z26a = s59.2.2.1 109 109 := fr_F (e26) hF59 rfl; have b1 : z26b = s59.2.2.1 109 111 := fr_F (e26a) hF59 rfl; first | (rw [← b0, ← b1, ← e_109_109, ← e_109_111]; exact n63c) | (rw [← b0, ← b1]; exact n63c)
      have n63e : (u_109_28).toInt = 0 → (z26a).toInt + (z26b).toInt = (u_109_109).toInt + (u_109_111).toInt := by have a0 := oa8 ro_109_29 i4 ((inv_F hI 0 200 rfl e_109_111)) ((inv_F hI 0 400 rfl e_109_109)) h1 i59a i33 i26a; omega
      have n63f : (s.2.2.1 109 28).toInt = 0 → (s59.2.2.1 109 109).toInt + (s59.2.2.1 109 111).toInt = (s.2.2.1 109 109).toInt + (s.2.2.1 109 111).toInt := by have b0 : z26a = s59.2.2.1 109 109 := fr_F (e26) hF59 rfl; have b1 : z26b = s59.2.2.1 109 111 := fr_F (e26a) hF59 rfl; first | (rw [← b0, ← b1, ← e_109_28, ← e_109_109, ← e_109_111]; exact n63e) | (rw [← b0, ← b1]; exact n63e)
      exact g_ireturn (gd rfl) rfl rfl (hP _ _ ⟨s59, hI59, (fr_tr rfl (fr_tr rfl fr_rf hF26) hF59), n63d, n63f, (Int32.ofInt 2), rfl, rfl, in_w 0 2 (in_c 2 rfl) rfl, n63, n63a, n63b⟩)
    · skip
      have i33 := z_le 0 0 c33 i26b rfl
      refine g_iload_n 37 (gd rfl) rfl rfl ?_
      refine g_aload_n 38 (gd rfl) rfl rfl ?_
      refine g_getI 41 (gd rfl) rfl rfl rfl (fun z38 e38 => ?_)
      have q38 : u_109_28 = z38 := (fr_F (e_109_28) hF26 rfl).trans e38.symm
      subst q38
      refine g_iconst 3 42 (gd rfl) rfl rfl ?_
      refine g_cmp_ne 45 49 (gd rfl) rfl rfl (fun c42 => ?_) (fun c42 => ?_)
      · skip
        refine g_iconst 0 50 (gd rfl) rfl rfl ?_
        refine g_cmp_eq 53 62 (gd rfl) rfl rfl (fun c50 => ?_) (fun c50 => ?_)
        · skip
          have i50 := r_eq1 0 0 c50 h1 (in_c 0 rfl) rfl
          refine g_iconst 2 63 (gd rfl) rfl rfl ?_
          have n63 : ((Int32.ofInt 2)).toInt = 0 → PR s s26 1 0 := by exact fun h => absurd h (by decide)
          have n63a : ((Int32.ofInt 2)).toInt ≠ 0 → PR s s26 1 1 := by intro hR; first | (exact absurd rfl hR) | exact p26 | exact pr_tr p26 (pr_flt (hF59.1 187 rfl) (hF59.1 188 rfl) (hF59.2.2.1 109 109 rfl) (by rw [← e59]; omega)) | exact pr_tr p163 (pr_flt (hF181.1 187 rfl) (hF181.1 188 rfl) (hF181.2.2.1 109 109 rfl) (by rw [← e181]; omega)) | exact pr_flt (hF202.1 187 rfl) (hF202.1 188 rfl) (hF202.2.2.1 109 109 rfl) (by rw [← e202]; omega) | exact pr_tr p163 (pr_tr (pr_drop (x := z167x21) (b := z167x20) (hF187.1 187 rfl) (hF187.1 188 rfl) (hF187.2.2.1 109 109 rfl) (hF187.2.2.1 109 23 rfl) (hF187.1 190 rfl) (by rw [← e187]; have a0 := oa7 ro_109_29 i4 ((inv_F hI 0 200 rfl e_109_111)) ((inv_F hI 0 400 rfl e_109_109)) i50 i33 i26a; omega) (by rw [← e163a]; have a0 := oa7 ro_109_29 i4 ((inv_F hI 0 200 rfl e_109_111)) ((inv_F hI 0 400 rfl e_109_109)) i50 i33 i26a; omega) i167x20.1 e167x21 (Or.inr (c172.trans rfl))) p191)
          have n63b : (s.2.2.1 109 28).toInt = 0 → ((Int32.ofInt 2)).toInt = 2 := by rw [← e_109_28]; intro h0; first | rfl | (exfalso; have a0 := oa7 ro_109_29 i4 ((inv_F hI 0 200 rfl e_109_111)) ((inv_F hI 0 400 rfl e_109_109)) i50 i33 i26a; omega)
          have n63c : (z26a).toInt + (z26b).toInt ≤ (u_109_109).toInt + (u_109_111).toInt + 1 := by have a0 := oa7 ro_109_29 i4 ((inv_F hI 0 200 rfl e_109_111)) ((inv_F hI 0 400 rfl e_109_109)) i50 i33 i26a; omega
          have n63d : (s26.2.2.1 109 109).toInt + (s26.2.2.1 109 111).toInt ≤ (s.2.2.1 109 109).toInt + (s.2.2.1 109 111).toInt + 1 := by have b0 : z26a = s26.2.2.1 109 109 := e26; have b1 : z26b = s26.2.2.1 109 111 := e26a; first | (rw [← b0, ← b1, ← e_109_109, ← e_109_111]; exact n63c) | (rw [← b0, ← b1]; exact n63c)
          have n63e : (u_109_28).toInt = 0 → (z26a).toInt + (z26b).toInt = (u_109_109).toInt + (u_109_111).toInt := by have a0 := oa7 ro_109_29 i4 ((inv_F hI 0 200 rfl e_109_111)) ((inv_F hI 0 400 rfl e_109_109)) i50 i33 i26a; omega
          have n63f : (s.2.2.1 109 28).toInt = 0 → (s26.2.2.1 109 109).toInt + (s26.2.2.1 109 111).toInt = (s.2.2.1 109 109).toInt + (s.2.2.1 109 111).toInt := by have b0 : z26a = s26.2.2.1 109 109 := e26; have b1 : z26b = s26.2.2.1 109 111 := e26a; first | (rw [← b0, ← b1, ← e_109_28, ← e_109_109, ← e_109_111]; exact n63e) | (rw [← b0, ← b1]; exact n63e)
          exact g_ireturn (gd rfl) rfl rfl (hP _ _ ⟨s26, hI26, (fr_tr rfl fr_rf hF26), n63d, n63f, (Int32.ofInt 2), rfl, rfl, in_w 0 2 (in_c 2 rfl) rfl, n63, n63a, n63b⟩)
        · skip
          have i50 := r_ne1 1 1 c50 h1 (in_c 0 rfl) rfl
          refine g_aload_n 54 (gd rfl) rfl rfl ?_
          refine g_iconst 2 55 (gd rfl) rfl rfl ?_
          refine g_aload_n 56 (gd rfl) rfl rfl ?_
          refine g_getI 59 (gd rfl) rfl rfl rfl (fun z56 e56 => ?_)
          have q56 : u_109_29 = z56 := (fr_F (e_109_29) hF26 rfl).trans e56.symm
          subst q56
          refine g_callv (X := _) (As := [.int (Int32.ofInt 2), .int u_109_29]) (r := []) (b := A 109) (q := 109) 62 (gd rfl) rfl rfl rfl rfl rfl (ww_o rfl) (Nat.le_of_ble_eq_true rfl) (Nat.zero_le _) (Nat.zero_le _) (k_298 (by first | exact dq1 hd rfl | exact dq0 hd rfl | exact dq2 hd rfl | exact dq3 hd rfl | omega) hI26 (in_w 1 5 (in_c 2 rfl) rfl)) (fun e u h => h) (fun v u h => ?_)
          obtain ⟨s59, hI59, hF59, n59, rfl, rfl⟩ := h
          obtain ⟨z59a, e59⟩ : ∃ w, w = s59.2.2.1 109 23 := ⟨_, rfl⟩
          have i59a := inv_F hI59 0 9 rfl e59
          rw [← (show z59a = s59.2.2.1 109 23 from e59)] at n59
          show GG _ _ _ _ _ _ _ _ [] _ _ _
          refine g_iconst 2 63 (gd rfl) rfl rfl ?_
          have n63 : ((Int32.ofInt 2)).toInt = 0 → PR s s59 1 0 := by exact fun h => absurd h (by decide)
          have n63a : ((Int32.ofInt 2)).toInt ≠ 0 → PR s s59 1 1 := by intro hR; first | (exact absurd rfl hR) | exact p26 | exact pr_tr p26 (pr_flt (hF59.1 187 rfl) (hF59.1 188 rfl) (hF59.2.2.1 109 109 rfl) (by rw [← e59]; omega)) | exact pr_tr p163 (pr_flt (hF181.1 187 rfl) (hF181.1 188 rfl) (hF181.2.2.1 109 109 rfl) (by rw [← e181]; omega)) | exact pr_flt (hF202.1 187 rfl) (hF202.1 188 rfl) (hF202.2.2.1 109 109 rfl) (by rw [← e202]; omega) | exact pr_tr p163 (pr_tr (pr_drop (x := z167x21) (b := z167x20) (hF187.1 187 rfl) (hF187.1 188 rfl) (hF187.2.2.1 109 109 rfl) (hF187.2.2.1 109 23 rfl) (hF187.1 190 rfl) (by rw [← e187]; have a0 := oa8 ro_109_29 i4 ((inv_F hI 0 200 rfl e_109_111)) ((inv_F hI 0 400 rfl e_109_109)) i50 i59a i33 i26a; omega) (by rw [← e163a]; have a0 := oa8 ro_109_29 i4 ((inv_F hI 0 200 rfl e_109_111)) ((inv_F hI 0 400 rfl e_109_109)) i50 i59a i33 i26a; omega) i167x20.1 e167x21 (Or.inr (c172.trans rfl))) p191)
          have n63b : (s.2.2.1 109 28).toInt = 0 → ((Int32.ofInt 2)).toInt = 2 := by rw [← e_109_28]; intro h0; first | rfl | (exfalso; have a0 := oa8 ro_109_29 i4 ((inv_F hI 0 200 rfl e_109_111)) ((inv_F hI 0 400 rfl e_109_109)) i50 i59a i33 i26a; omega)
          have n63c : (z26a).toInt + (z26b).toInt ≤ (u_109_109).toInt + (u_109_111).toInt + 1 := by have a0 := oa8 ro_109_29 i4 ((inv_F hI 0 200 rfl e_109_111)) ((inv_F hI 0 400 rfl e_109_109)) i50 i59a i33 i26a; omega
          have n63d : (s59.2.2.1 109 109).toInt + (s59.2.2.1 109 111).toInt ≤ (s.2.2.1 109 109).toInt + (s.2.2.1 109 111).toInt + 1 := by have b0 : z26a = s59.2.2.1 109 109 := fr_F (e26) hF59 rfl; have b1 : z26b = s59.2.2.1 109 111 := fr_F (e26a) hF59 rfl; first | (rw [← b0, ← b1, ← e_109_109, ← e_109_111]; exact n63c) | (rw [← b0, ← b1]; exact n63c)
          have n63e : (u_109_28).toInt = 0 → (z26a).toInt + (z26b).toInt = (u_109_109).toInt + (u_109_111).toInt := by have a0 := oa8 ro_109_29 i4 ((inv_F hI 0 200 rfl e_109_111)) ((inv_F hI 0 400 rfl e_109_109)) i50 i59a i33 i26a; omega
          have n63f : (s.2.2.1 109 28).toInt = 0 → (s59.2.2.1 109 109).toInt + (s59.2.2.1 109 111).toInt = (s.2.2.1 109 109).toInt + (s.2.2.1 109 111).toInt := by have b0 : z26a = s59.2.2.1 109 109 := fr_F (e26) hF59 rfl; have b1 : z26b = s59.2.2.1 109 111 := fr_F (e26a) hF59 rfl; first | (rw [← b0, ← b1, ← e_109_28, ← e_109_109, ← e_109_111]; exact n63e) | (rw [← b0, ← b1]; exact n63e)
          exact g_ireturn (gd rfl) rfl rfl (hP _ _ ⟨s59, hI59, (fr_tr rfl (fr_tr rfl fr_rf hF26) hF59), n63d, n63f, (Int32.ofInt 2), rfl, rfl, in_w 0 2 (in_c 2 rfl) rfl, n63, n63a, n63b⟩)
      · skip
        exact n_eq c42 i4 (in_c 3 rfl) rfl
  · skip
    refine g_aload_n 8 (gd rfl) rfl rfl ?_
    refine g_getI 11 (gd rfl) rfl rfl rfl (fun z8 e8 => ?_)
    have q8 : u_109_28 = z8 := (e_109_28).trans e8.symm
    subst q8
    refine g_iconst 3 12 (gd rfl) rfl rfl ?_
    refine g_cmp_ne 15 64 (gd rfl) rfl rfl (fun c12 => ?_) (fun c12 => ?_)
    · skip
      refine g_aload_n 65 (gd rfl) rfl rfl ?_
      refine g_getI 68 (gd rfl) rfl rfl rfl (fun z65 e65 => ?_)
      have q65 : u_109_28 = z65 := (e_109_28).trans e65.symm
      subst q65
      refine g_iconst 3 69 (gd rfl) rfl rfl ?_
      refine g_cmp_ne 72 82 (gd rfl) rfl rfl (fun c69 => ?_) (fun c69 => ?_)
      · skip
        refine g_iconst 0 83 (gd rfl) rfl rfl ?_
        refine g_istore_n 84 (gd rfl) rfl (Nat.le_of_ble_eq_true rfl) ?_
        refine g_iload_n 85 (gd rfl) rfl rfl ?_
        refine g_iconst 1 86 (gd rfl) rfl rfl ?_
        refine g_cmp_le 89 104 (gd rfl) rfl rfl (fun c86 => ?_) (fun c86 => ?_)
        · skip
          refine g_iload_n 105 (gd rfl) rfl rfl ?_
          refine g_iconst 1 106 (gd rfl) rfl rfl ?_
          refine g_cmp_ne 109 144 (gd rfl) rfl rfl (fun c106 => ?_) (fun c106 => ?_)
          · skip
            refine g_aload_n 145 (gd rfl) rfl rfl ?_
            refine g_getI 148 (gd rfl) rfl rfl rfl (fun z145 e145 => ?_)
            have q145 : u_109_28 = z145 := (e_109_28).trans e145.symm
            subst q145
            refine g_iconst 3 149 (gd rfl) rfl rfl ?_
            refine g_cmp_ne 152 196 (gd rfl) rfl rfl (fun c149 => ?_) (fun c149 => ?_)
            · skip
              refine g_aload_n 197 (gd rfl) rfl rfl ?_
              refine g_iconst 2 198 (gd rfl) rfl rfl ?_
              refine g_aload_n 199 (gd rfl) rfl rfl ?_
              refine g_getI 202 (gd rfl) rfl rfl rfl (fun z199 e199 => ?_)
              have q199 : u_109_29 = z199 := (e_109_29).trans e199.symm
              subst q199
              refine g_callv (X := _) (As := [.int (Int32.ofInt 2), .int u_109_29]) (r := []) (b := A 109) (q := 109) 205 (gd rfl) rfl rfl rfl rfl rfl (ww_o rfl) (Nat.le_of_ble_eq_true rfl) (Nat.zero_le _) (Nat.zero_le _) (k_298 (by first | exact dq1 hd rfl | exact dq0 hd rfl | exact dq2 hd rfl | exact dq3 hd rfl | omega) hI (in_w 1 5 (in_c 2 rfl) rfl)) (fun e u h => h) (fun v u h => ?_)
              obtain ⟨s202, hI202, hF202, n202, rfl, rfl⟩ := h
              obtain ⟨z202a, e202⟩ : ∃ w, w = s202.2.2.1 109 23 := ⟨_, rfl⟩
              have i202a := inv_F hI202 0 9 rfl e202
              rw [← (show z202a = s202.2.2.1 109 23 from e202)] at n202
              show GG _ _ _ _ _ _ _ _ [] _ _ _
              refine g_iconst 1 206 (gd rfl) rfl rfl ?_
              have n206 : ((Int32.ofInt 1)).toInt = 0 → PR s s202 1 0 := by exact fun h => absurd h (by decide)
              have n206a : ((Int32.ofInt 1)).toInt ≠ 0 → PR s s202 1 1 := by intro hR; first | (exact absurd rfl hR) | exact p26 | exact pr_tr p26 (pr_flt (hF59.1 187 rfl) (hF59.1 188 rfl) (hF59.2.2.1 109 109 rfl) (by rw [← e59]; omega)) | exact pr_tr p163 (pr_flt (hF181.1 187 rfl) (hF181.1 188 rfl) (hF181.2.2.1 109 109 rfl) (by rw [← e181]; omega)) | exact pr_flt (hF202.1 187 rfl) (hF202.1 188 rfl) (hF202.2.2.1 109 109 rfl) (by rw [← e202]; omega) | exact pr_tr p163 (pr_tr (pr_drop (x := z167x21) (b := z167x20) (hF187.1 187 rfl) (hF187.1 188 rfl) (hF187.2.2.1 109 109 rfl) (hF187.2.2.1 109 23 rfl) (hF187.1 190 rfl) (by rw [← e187]; have a0 := oa6 ro_109_29 ((inv_F hI 0 200 rfl e_109_111)) ((inv_F hI 0 400 rfl e_109_109)) h1 ((in_c 0 rfl)) i202a; omega) (by rw [← e163a]; have a0 := oa6 ro_109_29 ((inv_F hI 0 200 rfl e_109_111)) ((inv_F hI 0 400 rfl e_109_109)) h1 ((in_c 0 rfl)) i202a; omega) i167x20.1 e167x21 (Or.inr (c172.trans rfl))) p191)
              have n206b : (s.2.2.1 109 28).toInt = 0 → ((Int32.ofInt 1)).toInt = 2 := by rw [← e_109_28]; intro h0; first | rfl | (exfalso; have a0 := oa6 ro_109_29 ((inv_F hI 0 200 rfl e_109_111)) ((inv_F hI 0 400 rfl e_109_109)) h1 ((in_c 0 rfl)) i202a; omega)
              have n206c : (u_109_109).toInt + (u_109_111).toInt ≤ (u_109_109).toInt + (u_109_111).toInt + 1 := by have a0 := oa6 ro_109_29 ((inv_F hI 0 200 rfl e_109_111)) ((inv_F hI 0 400 rfl e_109_109)) h1 ((in_c 0 rfl)) i202a; omega
              have n206d : (s202.2.2.1 109 109).toInt + (s202.2.2.1 109 111).toInt ≤ (s.2.2.1 109 109).toInt + (s.2.2.1 109 111).toInt + 1 := by have b0 : u_109_109 = s202.2.2.1 109 109 := fr_F (e_109_109) hF202 rfl; have b1 : u_109_111 = s202.2.2.1 109 111 := fr_F (e_109_111) hF202 rfl; first | (rw [← b0, ← b1, ← e_109_109, ← e_109_111]; exact n206c) | (rw [← b0, ← b1]; exact n206c)
              have n206e : (u_109_28).toInt = 0 → (u_109_109).toInt + (u_109_111).toInt = (u_109_109).toInt + (u_109_111).toInt := by have a0 := oa6 ro_109_29 ((inv_F hI 0 200 rfl e_109_111)) ((inv_F hI 0 400 rfl e_109_109)) h1 ((in_c 0 rfl)) i202a; omega
              have n206f : (s.2.2.1 109 28).toInt = 0 → (s202.2.2.1 109 109).toInt + (s202.2.2.1 109 111).toInt = (s.2.2.1 109 109).toInt + (s.2.2.1 109 111).toInt := by have b0 : u_109_109 = s202.2.2.1 109 109 := fr_F (e_109_109) hF202 rfl; have b1 : u_109_111 = s202.2.2.1 109 111 := fr_F (e_109_111) hF202 rfl; first | (rw [← b0, ← b1, ← e_109_28, ← e_109_109, ← e_109_111]; exact n206e) | (rw [← b0, ← b1]; exact n206e)
              exact g_ireturn (gd rfl) rfl rfl (hP _ _ ⟨s202, hI202, (fr_tr rfl fr_rf hF202), n206d, n206f, (Int32.ofInt 1), rfl, rfl, in_w 0 2 (in_c 1 rfl) rfl, n206, n206a, n206b⟩)
            · skip
              exact absurd c149 c69
          · skip
            exact n_eq c106 (in_c 0 rfl) (in_c 1 rfl) rfl
        · skip
          exact n_lt c86 (in_c 1 rfl) (in_c 0 rfl) rfl
      · skip
        exact absurd c69 c12
    · skip
      have i12 := r_eq1 3 3 c12 (inv_F hI (-2147483648) 2147483647 rfl e_109_28) (in_c 3 rfl) rfl
      refine g_aload_n 16 (gd rfl) rfl rfl ?_
      refine g_getI 19 (gd rfl) rfl rfl rfl (fun z16 e16 => ?_)
      have q16 : u_109_30 = z16 := (e_109_30).trans e16.symm
      subst q16
      refine g_bipush 59 21 (gd rfl) rfl rfl ?_
      refine g_cmp_ne 24 64 (gd rfl) rfl rfl (fun c21 => ?_) (fun c21 => ?_)
      · skip
        refine g_aload_n 65 (gd rfl) rfl rfl ?_
        refine g_getI 68 (gd rfl) rfl rfl rfl (fun z65 e65 => ?_)
        have q65 : u_109_28 = z65 := (e_109_28).trans e65.symm
        subst q65
        refine g_iconst 3 69 (gd rfl) rfl rfl ?_
        refine g_cmp_ne 72 82 (gd rfl) rfl rfl (fun c69 => ?_) (fun c69 => ?_)
        · skip
          exact n_ne c69 i12 (in_c 3 rfl) rfl
        · skip
          refine g_aload_n 73 (gd rfl) rfl rfl ?_
          refine g_getI 76 (gd rfl) rfl rfl rfl (fun z73 e73 => ?_)
          have q73 : u_109_30 = z73 := (e_109_30).trans e73.symm
          subst q73
          refine g_calls (As := [.int u_109_30]) (r := []) 79 (gd rfl) rfl rfl rfl rfl rfl (Nat.le_of_ble_eq_true rfl) (mc := 0) (ms := 0) (Nat.zero_le _) (Nat.zero_le _) (P := fun v u => _) ?_ (fun v u h => h)
          intro po76 xx76 hp76 hx76
          refine g_enter2 (k := 398) (N := 300) (by first | exact dq1 hd rfl | exact dq0 hd rfl | exact dq2 hd rfl | exact dq3 hd rfl | omega) rfl (Nat.le_of_ble_eq_true rfl) ?_
          refine g_iload_n 1 (gd rfl) rfl rfl ?_
          refine g_bipush 42 3 (gd rfl) rfl rfl ?_
          refine g_cmp_ne 6 10 (gd rfl) rfl rfl (fun c76x3 => ?_) (fun c76x3 => ?_)
          · skip
            refine g_iload_n 11 (gd rfl) rfl rfl ?_
            refine g_bipush 43 13 (gd rfl) rfl rfl ?_
            refine g_cmp_eq 16 22 (gd rfl) rfl rfl (fun c76x13 => ?_) (fun c76x13 => ?_)
            · skip
              have i76x13 := r_eq1 43 43 c76x13 (i_rng u_109_30) (in_c 43 rfl) rfl
              refine g_iconst 2 23 (gd rfl) rfl rfl ?_
              refine g_goto 43 (gd rfl) rfl ?_
              refine g_ireturn (gd rfl) rfl rfl (hp76 _ _ ?_)
              show GG _ _ _ _ _ _ _ _ [.int (Int32.ofInt 2)] _ _ _
              refine g_goto 83 (gd rfl) rfl ?_
              refine g_istore_n 84 (gd rfl) rfl (Nat.le_of_ble_eq_true rfl) ?_
              refine g_iload_n 85 (gd rfl) rfl rfl ?_
              refine g_iconst 1 86 (gd rfl) rfl rfl ?_
              refine g_cmp_le 89 104 (gd rfl) rfl rfl (fun c86 => ?_) (fun c86 => ?_)
              · skip
                exact n_le c86 (in_c 2 rfl) (in_c 1 rfl) rfl
              · skip
                refine g_aload_n 90 (gd rfl) rfl rfl ?_
                refine g_iload_n 91 (gd rfl) rfl rfl ?_
                have n91 : (u_109_109).toInt + (u_109_111).toInt ≤ 120 := by have a0 := oa7 i76x13 ro_109_29 i12 ((inv_F hI 0 200 rfl e_109_111)) ((inv_F hI 0 400 rfl e_109_109)) h1 ((in_c 2 rfl)); omega
                refine g_callv (X := _) (As := [.int (Int32.ofInt 2)]) (r := []) (b := A 109) (q := 109) 94 (gd rfl) rfl rfl rfl rfl rfl (ww_o rfl) (Nat.le_of_ble_eq_true rfl) (Nat.zero_le _) (Nat.zero_le _) (k_399 (by first | exact dq1 hd rfl | exact dq0 hd rfl | exact dq2 hd rfl | exact dq3 hd rfl | omega) hI (in_w 1 3 (in_c 2 rfl) rfl) e_109_109 e_109_111 n91) (fun e u h => h) (fun v u h => ?_)
                obtain ⟨s91, hI91, hF91, n91a, rfl, rfl, p91⟩ := h
                obtain ⟨z91a, e91⟩ : ∃ w, w = s91.2.2.1 109 109 := ⟨_, rfl⟩
                have i91a := inv_F hI91 0 400 rfl e91
                obtain ⟨z91b, e91a⟩ : ∃ w, w = s91.2.2.1 109 111 := ⟨_, rfl⟩
                have i91b := inv_F hI91 0 200 rfl e91a
                rw [← (show u_109_109 = s.2.2.1 109 109 from e_109_109)] at n91a
                rw [← (show u_109_111 = s.2.2.1 109 111 from e_109_111)] at n91a
                rw [← (show z91a = s91.2.2.1 109 109 from e91)] at n91a
                rw [← (show z91b = s91.2.2.1 109 111 from e91a)] at n91a
                show GG _ _ _ _ _ _ _ _ [] _ _ _
                refine g_aload_n 95 (gd rfl) rfl rfl ?_
                refine g_aload_n 96 (gd rfl) rfl rfl ?_
                refine g_getI 99 (gd rfl) rfl rfl rfl (fun z96 e96 => ?_)
                have q96 : u_109_30 = z96 := (fr_F (e_109_30) hF91 rfl).trans e96.symm
                subst q96
                have n99 : (z91b).toInt ≤ 199 := by have a0 := oa9 i76x13 ro_109_29 i12 ((inv_F hI 0 200 rfl e_109_111)) ((inv_F hI 0 400 rfl e_109_109)) h1 ((in_c 2 rfl)) i91b i91a; omega
                refine g_callv (X := _) (As := [.int u_109_30]) (r := []) (b := A 109) (q := 109) 102 (gd rfl) rfl rfl rfl rfl rfl (ww_o rfl) (Nat.le_of_ble_eq_true rfl) (Nat.zero_le _) (Nat.zero_le _) (k_396 (by first | exact dq1 hd rfl | exact dq0 hd rfl | exact dq2 hd rfl | exact dq3 hd rfl | omega) hI91 e91a n99) (fun e u h => h) (fun v u h => ?_)
                obtain ⟨s99, hI99, hF99, n99a, rfl, rfl, p99⟩ := h
                obtain ⟨z99a, e99⟩ : ∃ w, w = s99.2.2.1 109 111 := ⟨_, rfl⟩
                have i99a := inv_F hI99 0 200 rfl e99
                rw [← (show z91b = s91.2.2.1 109 111 from e91a)] at n99a
                rw [← (show z99a = s99.2.2.1 109 111 from e99)] at n99a
                show GG _ _ _ _ _ _ _ _ [] _ _ _
                refine g_iconst 0 103 (gd rfl) rfl rfl ?_
                have n103 : ((Int32.ofInt 0)).toInt = 0 → PR s s99 1 0 := by intro hR; first | (exfalso; revert hR; decide) | exact pr_tr p91 (pr_hold (hF99.1 187 rfl) (hF99.1 188 rfl) (hF99.2.2.1 109 109 rfl) (hF99.2.2.1 109 23 rfl) p99 (by rw [← e99, ← e91a]; exact n99a) (inv_F hI91 0 200 rfl rfl).1 (Or.inr ⟨by first | (have hi := i76x3; unfold In at hi; omega) | (have hi := i76x13; unfold In at hi; omega) | (have hi := i76x19; unfold In at hi; omega) | (have hi := i76x29; unfold In at hi; omega) | (have hi := i76x35; unfold In at hi; omega), rfl⟩)) | exact pr_tr p111 (pr_hold (hF139.1 187 rfl) (hF139.1 188 rfl) (hF139.2.2.1 109 109 rfl) (hF139.2.2.1 109 23 rfl) p139 (by rw [← e139, ← e111a]; exact n139a) (inv_F hI111 0 200 rfl rfl).1 (Or.inr ⟨by first | (have hi := i76x3; unfold In at hi; omega) | (have hi := i76x13; unfold In at hi; omega) | (have hi := i76x19; unfold In at hi; omega) | (have hi := i76x29; unfold In at hi; omega) | (have hi := i76x35; unfold In at hi; omega), rfl⟩)) | exact pr_tr p111 (pr_tr (b := 1) (pr_flt (hF131.1 187 rfl) (hF131.1 188 rfl) (hF131.2.2.1 109 109 rfl) (by rw [← e131]; omega)) (pr_hold (hF139.1 187 rfl) (hF139.1 188 rfl) (hF139.2.2.1 109 109 rfl) (hF139.2.2.1 109 23 rfl) p139 (by rw [← e139, ← (show z111b = s131.2.2.1 109 111 from fr_F e111a hF131 rfl)]; exact n139a) (inv_F hI131 0 200 rfl rfl).1 (Or.inr ⟨by first | (have hi := i76x3; unfold In at hi; omega) | (have hi := i76x13; unfold In at hi; omega) | (have hi := i76x19; unfold In at hi; omega) | (have hi := i76x29; unfold In at hi; omega) | (have hi := i76x35; unfold In at hi; omega), rfl⟩)))
                have n103a : ((Int32.ofInt 0)).toInt ≠ 0 → PR s s99 1 1 := by exact fun h => absurd rfl h
                have n103b : (s.2.2.1 109 28).toInt = 0 → ((Int32.ofInt 0)).toInt = 2 := by rw [← e_109_28]; intro h0; first | rfl | (exfalso; have a0 := oa9 i76x13 ro_109_29 i12 ((inv_F hI 0 200 rfl e_109_111)) ((inv_F hI 0 400 rfl e_109_109)) h1 ((in_c 2 rfl)) i99a i91a; omega)
                have n103c : (z91a).toInt + (z99a).toInt ≤ (u_109_109).toInt + (u_109_111).toInt + 1 := by have a0 := oa9 i76x13 ro_109_29 i12 ((inv_F hI 0 200 rfl e_109_111)) ((inv_F hI 0 400 rfl e_109_109)) h1 ((in_c 2 rfl)) i99a i91a; omega
                have n103d : (s99.2.2.1 109 109).toInt + (s99.2.2.1 109 111).toInt ≤ (s.2.2.1 109 109).toInt + (s.2.2.1 109 111).toInt + 1 := by have b0 : z91a = s99.2.2.1 109 109 := fr_F (e91) hF99 rfl; have b1 : z99a = s99.2.2.1 109 111 := e99; first | (rw [← b0, ← b1, ← e_109_109, ← e_109_111]; exact n103c) | (rw [← b0, ← b1]; exact n103c)
                have n103e : (u_109_28).toInt = 0 → (z91a).toInt + (z99a).toInt = (u_109_109).toInt + (u_109_111).toInt := by have a0 := oa9 i76x13 ro_109_29 i12 ((inv_F hI 0 200 rfl e_109_111)) ((inv_F hI 0 400 rfl e_109_109)) h1 ((in_c 2 rfl)) i99a i91a; omega
                have n103f : (s.2.2.1 109 28).toInt = 0 → (s99.2.2.1 109 109).toInt + (s99.2.2.1 109 111).toInt = (s.2.2.1 109 109).toInt + (s.2.2.1 109 111).toInt := by have b0 : z91a = s99.2.2.1 109 109 := fr_F (e91) hF99 rfl; have b1 : z99a = s99.2.2.1 109 111 := e99; first | (rw [← b0, ← b1, ← e_109_28, ← e_109_109, ← e_109_111]; exact n103e) | (rw [← b0, ← b1]; exact n103e)
                exact g_ireturn (gd rfl) rfl rfl (hP _ _ ⟨s99, hI99, (fr_tr rfl (fr_tr rfl fr_rf hF91) hF99), n103d, n103f, (Int32.ofInt 0), rfl, rfl, in_w 0 2 (in_c 0 rfl) rfl, n103, n103a, n103b⟩)
            · skip
              refine g_iload_n 17 (gd rfl) rfl rfl ?_
              refine g_bipush 45 19 (gd rfl) rfl rfl ?_
              refine g_cmp_ne 22 26 (gd rfl) rfl rfl (fun c76x19 => ?_) (fun c76x19 => ?_)
              · skip
                refine g_iload_n 27 (gd rfl) rfl rfl ?_
                refine g_bipush 60 29 (gd rfl) rfl rfl ?_
                refine g_cmp_eq 32 38 (gd rfl) rfl rfl (fun c76x29 => ?_) (fun c76x29 => ?_)
                · skip
                  have i76x29 := r_eq1 60 60 c76x29 (i_rng u_109_30) (in_c 60 rfl) rfl
                  refine g_iconst 1 39 (gd rfl) rfl rfl ?_
                  refine g_goto 43 (gd rfl) rfl ?_
                  refine g_ireturn (gd rfl) rfl rfl (hp76 _ _ ?_)
                  show GG _ _ _ _ _ _ _ _ [.int (Int32.ofInt 1)] _ _ _
                  refine g_goto 83 (gd rfl) rfl ?_
                  refine g_istore_n 84 (gd rfl) rfl (Nat.le_of_ble_eq_true rfl) ?_
                  refine g_iload_n 85 (gd rfl) rfl rfl ?_
                  refine g_iconst 1 86 (gd rfl) rfl rfl ?_
                  refine g_cmp_le 89 104 (gd rfl) rfl rfl (fun c86 => ?_) (fun c86 => ?_)
                  · skip
                    refine g_iload_n 105 (gd rfl) rfl rfl ?_
                    refine g_iconst 1 106 (gd rfl) rfl rfl ?_
                    refine g_cmp_ne 109 144 (gd rfl) rfl rfl (fun c106 => ?_) (fun c106 => ?_)
                    · skip
                      exact n_ne c106 (in_c 1 rfl) (in_c 1 rfl) rfl
                    · skip
                      refine g_aload_n 110 (gd rfl) rfl rfl ?_
                      refine g_iconst 2 111 (gd rfl) rfl rfl ?_
                      have n111 : (u_109_109).toInt + (u_109_111).toInt ≤ 120 := by have a0 := oa7 i76x29 ro_109_29 i12 ((inv_F hI 0 200 rfl e_109_111)) ((inv_F hI 0 400 rfl e_109_109)) h1 ((in_c 1 rfl)); omega
                      refine g_callv (X := _) (As := [.int (Int32.ofInt 2)]) (r := []) (b := A 109) (q := 109) 114 (gd rfl) rfl rfl rfl rfl rfl (ww_o rfl) (Nat.le_of_ble_eq_true rfl) (Nat.zero_le _) (Nat.zero_le _) (k_399 (by first | exact dq1 hd rfl | exact dq0 hd rfl | exact dq2 hd rfl | exact dq3 hd rfl | omega) hI (in_w 1 3 (in_c 2 rfl) rfl) e_109_109 e_109_111 n111) (fun e u h => h) (fun v u h => ?_)
                      obtain ⟨s111, hI111, hF111, n111a, rfl, rfl, p111⟩ := h
                      obtain ⟨z111a, e111⟩ : ∃ w, w = s111.2.2.1 109 109 := ⟨_, rfl⟩
                      have i111a := inv_F hI111 0 400 rfl e111
                      obtain ⟨z111b, e111a⟩ : ∃ w, w = s111.2.2.1 109 111 := ⟨_, rfl⟩
                      have i111b := inv_F hI111 0 200 rfl e111a
                      rw [← (show u_109_109 = s.2.2.1 109 109 from e_109_109)] at n111a
                      rw [← (show u_109_111 = s.2.2.1 109 111 from e_109_111)] at n111a
                      rw [← (show z111a = s111.2.2.1 109 109 from e111)] at n111a
                      rw [← (show z111b = s111.2.2.1 109 111 from e111a)] at n111a
                      show GG _ _ _ _ _ _ _ _ [] _ _ _
                      refine g_aload_n 115 (gd rfl) rfl rfl ?_
                      refine g_callv (X := _) (As := []) (r := []) (b := A 109) (q := 109) 118 (gd rfl) rfl rfl rfl rfl rfl (ww_o rfl) (Nat.le_of_ble_eq_true rfl) (mc := 0) (ms := 0) (Nat.zero_le _) (Nat.zero_le _) (P := fun v u => _) ?_ (fun e u h => h) (fun v u h => h)
                      intro po115 xx115 hp115 hx115
                      refine g_enter2 (k := 395) (N := 300) (by first | exact dq1 hd rfl | exact dq0 hd rfl | exact dq2 hd rfl | exact dq3 hd rfl | omega) rfl (Nat.le_of_ble_eq_true rfl) ?_
                      refine g_aload_n 1 (gd rfl) rfl rfl ?_
                      refine g_getI 4 (gd rfl) rfl rfl rfl (fun z115x1 e115x1 => ?_)
                      have q115x1 : z111b = z115x1 := (e111a).trans e115x1.symm
                      subst q115x1
                      refine g_if_ne 7 11 (gd rfl) rfl rfl (fun c115x4 => ?_) (fun c115x4 => ?_)
                      · skip
                        have i115x4 := z_ne 1 200 c115x4 i111b rfl
                        refine g_aload_n 12 (gd rfl) rfl rfl ?_
                        refine g_getA (q2 := 190) 15 (gd rfl) rfl rfl rfl rfl ?_
                        refine g_aload_n 16 (gd rfl) rfl rfl ?_
                        refine g_getI 19 (gd rfl) rfl rfl rfl (fun z115x16 e115x16 => ?_)
                        have q115x16 : z111b = z115x16 := (e111a).trans e115x16.symm
                        subst q115x16
                        refine g_iconst 1 20 (gd rfl) rfl rfl ?_
                        refine g_isub 21 (gd rfl) rfl (fun z115x20 e115x20 => ?_)
                        have i115x20 := in_sub 0 199 e115x20 i115x4 (in_c 1 rfl) rfl rfl
                        refine g_iaload 22 (gd rfl) rfl (n := 200) rfl (in_ix i115x20 rfl) (fun z115x21 e115x21 => ?_)
                        refine g_ireturn (gd rfl) rfl rfl (hp115 _ _ ?_)
                        show GG _ _ _ _ _ _ _ _ [.int z115x21] _ _ _
                        refine g_calls (As := [.int z115x21]) (r := []) 121 (gd rfl) rfl rfl rfl rfl rfl (Nat.le_of_ble_eq_true rfl) (mc := 0) (ms := 0) (Nat.zero_le _) (Nat.zero_le _) (P := fun v u => _) ?_ (fun v u h => h)
                        intro po118 xx118 hp118 hx118
                        refine g_enter2 (k := 398) (N := 300) (by first | exact dq1 hd rfl | exact dq0 hd rfl | exact dq2 hd rfl | exact dq3 hd rfl | omega) rfl (Nat.le_of_ble_eq_true rfl) ?_
                        refine g_iload_n 1 (gd rfl) rfl rfl ?_
                        refine g_bipush 42 3 (gd rfl) rfl rfl ?_
                        refine g_cmp_ne 6 10 (gd rfl) rfl rfl (fun c118x3 => ?_) (fun c118x3 => ?_)
                        · skip
                          refine g_iload_n 11 (gd rfl) rfl rfl ?_
                          refine g_bipush 43 13 (gd rfl) rfl rfl ?_
                          refine g_cmp_eq 16 22 (gd rfl) rfl rfl (fun c118x13 => ?_) (fun c118x13 => ?_)
                          · skip
                            have i118x13 := r_eq1 43 43 c118x13 (i_rng z115x21) (in_c 43 rfl) rfl
                            refine g_iconst 2 23 (gd rfl) rfl rfl ?_
                            refine g_goto 43 (gd rfl) rfl ?_
                            refine g_ireturn (gd rfl) rfl rfl (hp118 _ _ ?_)
                            show GG _ _ _ _ _ _ _ _ [.int (Int32.ofInt 2)] _ _ _
                            refine g_iconst 1 122 (gd rfl) rfl rfl ?_
                            refine g_cmp_ne 125 134 (gd rfl) rfl rfl (fun c122 => ?_) (fun c122 => ?_)
                            · skip
                              refine g_aload_n 135 (gd rfl) rfl rfl ?_
                              refine g_aload_n 136 (gd rfl) rfl rfl ?_
                              refine g_getI 139 (gd rfl) rfl rfl rfl (fun z136 e136 => ?_)
                              have q136 : u_109_30 = z136 := (fr_F (e_109_30) hF111 rfl).trans e136.symm
                              subst q136
                              have n139 : (z111b).toInt ≤ 199 := by have a0 := oa10 i76x29 ro_109_29 i12 ((inv_F hI 0 200 rfl e_109_111)) ((inv_F hI 0 400 rfl e_109_109)) h1 ((in_c 1 rfl)) i115x4 i111a i115x20; have a10 := t_sub e115x20 i115x4 (in_c 1 rfl) rfl; omega
                              refine g_callv (X := _) (As := [.int u_109_30]) (r := []) (b := A 109) (q := 109) 142 (gd rfl) rfl rfl rfl rfl rfl (ww_o rfl) (Nat.le_of_ble_eq_true rfl) (Nat.zero_le _) (Nat.zero_le _) (k_396 (by first | exact dq1 hd rfl | exact dq0 hd rfl | exact dq2 hd rfl | exact dq3 hd rfl | omega) hI111 e111a n139) (fun e u h => h) (fun v u h => ?_)
                              obtain ⟨s139, hI139, hF139, n139a, rfl, rfl, p139⟩ := h
                              obtain ⟨z139a, e139⟩ : ∃ w, w = s139.2.2.1 109 111 := ⟨_, rfl⟩
                              have i139a := inv_F hI139 0 200 rfl e139
                              rw [← (show z111b = s111.2.2.1 109 111 from e111a)] at n139a
                              rw [← (show z139a = s139.2.2.1 109 111 from e139)] at n139a
                              show GG _ _ _ _ _ _ _ _ [] _ _ _
                              refine g_iconst 0 143 (gd rfl) rfl rfl ?_
                              have n143 : ((Int32.ofInt 0)).toInt = 0 → PR s s139 1 0 := by intro hR; first | (exfalso; revert hR; decide) | exact pr_tr p91 (pr_hold (hF99.1 187 rfl) (hF99.1 188 rfl) (hF99.2.2.1 109 109 rfl) (hF99.2.2.1 109 23 rfl) p99 (by rw [← e99, ← e91a]; exact n99a) (inv_F hI91 0 200 rfl rfl).1 (Or.inr ⟨by first | (have hi := i76x3; unfold In at hi; omega) | (have hi := i76x13; unfold In at hi; omega) | (have hi := i76x19; unfold In at hi; omega) | (have hi := i76x29; unfold In at hi; omega) | (have hi := i76x35; unfold In at hi; omega), rfl⟩)) | exact pr_tr p111 (pr_hold (hF139.1 187 rfl) (hF139.1 188 rfl) (hF139.2.2.1 109 109 rfl) (hF139.2.2.1 109 23 rfl) p139 (by rw [← e139, ← e111a]; exact n139a) (inv_F hI111 0 200 rfl rfl).1 (Or.inr ⟨by first | (have hi := i76x3; unfold In at hi; omega) | (have hi := i76x13; unfold In at hi; omega) | (have hi := i76x19; unfold In at hi; omega) | (have hi := i76x29; unfold In at hi; omega) | (have hi := i76x35; unfold In at hi; omega), rfl⟩)) | exact pr_tr p111 (pr_tr (b := 1) (pr_flt (hF131.1 187 rfl) (hF131.1 188 rfl) (hF131.2.2.1 109 109 rfl) (by rw [← e131]; omega)) (pr_hold (hF139.1 187 rfl) (hF139.1 188 rfl) (hF139.2.2.1 109 109 rfl) (hF139.2.2.1 109 23 rfl) p139 (by rw [← e139, ← (show z111b = s131.2.2.1 109 111 from fr_F e111a hF131 rfl)]; exact n139a) (inv_F hI131 0 200 rfl rfl).1 (Or.inr ⟨by first | (have hi := i76x3; unfold In at hi; omega) | (have hi := i76x13; unfold In at hi; omega) | (have hi := i76x19; unfold In at hi; omega) | (have hi := i76x29; unfold In at hi; omega) | (have hi := i76x35; unfold In at hi; omega), rfl⟩)))
                              have n143a : ((Int32.ofInt 0)).toInt ≠ 0 → PR s s139 1 1 := by exact fun h => absurd rfl h
                              have n143b : (s.2.2.1 109 28).toInt = 0 → ((Int32.ofInt 0)).toInt = 2 := by rw [← e_109_28]; intro h0; first | rfl | (exfalso; have a0 := oa10 i76x29 ro_109_29 i12 ((inv_F hI 0 200 rfl e_109_111)) ((inv_F hI 0 400 rfl e_109_109)) h1 ((in_c 1 rfl)) i139a i111a i115x20; have a10 := t_sub e115x20 i115x4 (in_c 1 rfl) rfl; have a11 := in_u i115x4; omega)
                              have n143c : (z111a).toInt + (z139a).toInt ≤ (u_109_109).toInt + (u_109_111).toInt + 1 := by have a0 := oa10 i76x29 ro_109_29 i12 ((inv_F hI 0 200 rfl e_109_111)) ((inv_F hI 0 400 rfl e_109_109)) h1 ((in_c 1 rfl)) i139a i111a i115x20; have a10 := t_sub e115x20 i115x4 (in_c 1 rfl) rfl; have a11 := in_u i115x4; omega
                              have n143d : (s139.2.2.1 109 109).toInt + (s139.2.2.1 109 111).toInt ≤ (s.2.2.1 109 109).toInt + (s.2.2.1 109 111).toInt + 1 := by have b0 : z111a = s139.2.2.1 109 109 := fr_F (e111) hF139 rfl; have b1 : z139a = s139.2.2.1 109 111 := e139; first | (rw [← b0, ← b1, ← e_109_109, ← e_109_111]; exact n143c) | (rw [← b0, ← b1]; exact n143c)
                              have n143e : (u_109_28).toInt = 0 → (z111a).toInt + (z139a).toInt = (u_109_109).toInt + (u_109_111).toInt := by have a0 := oa10 i76x29 ro_109_29 i12 ((inv_F hI 0 200 rfl e_109_111)) ((inv_F hI 0 400 rfl e_109_109)) h1 ((in_c 1 rfl)) i139a i111a i115x20; have a10 := t_sub e115x20 i115x4 (in_c 1 rfl) rfl; have a11 := in_u i115x4; omega
                              have n143f : (s.2.2.1 109 28).toInt = 0 → (s139.2.2.1 109 109).toInt + (s139.2.2.1 109 111).toInt = (s.2.2.1 109 109).toInt + (s.2.2.1 109 111).toInt := by have b0 : z111a = s139.2.2.1 109 109 := fr_F (e111) hF139 rfl; have b1 : z139a = s139.2.2.1 109 111 := e139; first | (rw [← b0, ← b1, ← e_109_28, ← e_109_109, ← e_109_111]; exact n143e) | (rw [← b0, ← b1]; exact n143e)
                              exact g_ireturn (gd rfl) rfl rfl (hP _ _ ⟨s139, hI139, (fr_tr rfl (fr_tr rfl fr_rf hF111) hF139), n143d, n143f, (Int32.ofInt 0), rfl, rfl, in_w 0 2 (in_c 0 rfl) rfl, n143, n143a, n143b⟩)
                            · skip
                              exact n_eq c122 (in_c 2 rfl) (in_c 1 rfl) rfl
                          · skip
                            refine g_iload_n 17 (gd rfl) rfl rfl ?_
                            refine g_bipush 45 19 (gd rfl) rfl rfl ?_
                            refine g_cmp_ne 22 26 (gd rfl) rfl rfl (fun c118x19 => ?_) (fun c118x19 => ?_)
                            · skip
                              refine g_iload_n 27 (gd rfl) rfl rfl ?_
                              refine g_bipush 60 29 (gd rfl) rfl rfl ?_
                              refine g_cmp_eq 32 38 (gd rfl) rfl rfl (fun c118x29 => ?_) (fun c118x29 => ?_)
                              · skip
                                have i118x29 := r_eq1 60 60 c118x29 (i_rng z115x21) (in_c 60 rfl) rfl
                                refine g_iconst 1 39 (gd rfl) rfl rfl ?_
                                refine g_goto 43 (gd rfl) rfl ?_
                                refine g_ireturn (gd rfl) rfl rfl (hp118 _ _ ?_)
                                show GG _ _ _ _ _ _ _ _ [.int (Int32.ofInt 1)] _ _ _
                                refine g_iconst 1 122 (gd rfl) rfl rfl ?_
                                refine g_cmp_ne 125 134 (gd rfl) rfl rfl (fun c122 => ?_) (fun c122 => ?_)
                                · skip
                                  exact n_ne c122 (in_c 1 rfl) (in_c 1 rfl) rfl
                                · skip
                                  refine g_aload_n 126 (gd rfl) rfl rfl ?_
                                  refine g_iconst 2 127 (gd rfl) rfl rfl ?_
                                  refine g_aload_n 128 (gd rfl) rfl rfl ?_
                                  refine g_getI 131 (gd rfl) rfl rfl rfl (fun z128 e128 => ?_)
                                  have q128 : u_109_29 = z128 := (fr_F (e_109_29) hF111 rfl).trans e128.symm
                                  subst q128
                                  refine g_callv (X := _) (As := [.int (Int32.ofInt 2), .int u_109_29]) (r := []) (b := A 109) (q := 109) 134 (gd rfl) rfl rfl rfl rfl rfl (ww_o rfl) (Nat.le_of_ble_eq_true rfl) (Nat.zero_le _) (Nat.zero_le _) (k_298 (by first | exact dq1 hd rfl | exact dq0 hd rfl | exact dq2 hd rfl | exact dq3 hd rfl | omega) hI111 (in_w 1 5 (in_c 2 rfl) rfl)) (fun e u h => h) (fun v u h => ?_)
                                  obtain ⟨s131, hI131, hF131, n131, rfl, rfl⟩ := h
                                  obtain ⟨z131a, e131⟩ : ∃ w, w = s131.2.2.1 109 23 := ⟨_, rfl⟩
                                  have i131a := inv_F hI131 0 9 rfl e131
                                  rw [← (show z131a = s131.2.2.1 109 23 from e131)] at n131
                                  show GG _ _ _ _ _ _ _ _ [] _ _ _
                                  refine g_aload_n 135 (gd rfl) rfl rfl ?_
                                  refine g_aload_n 136 (gd rfl) rfl rfl ?_
                                  refine g_getI 139 (gd rfl) rfl rfl rfl (fun z136 e136 => ?_)
                                  have q136 : u_109_30 = z136 := (fr_F (fr_F (e_109_30) hF111 rfl) hF131 rfl).trans e136.symm
                                  subst q136
                                  have v139 : z111b = s131.2.2.1 109 111 := fr_F (e111a) hF131 rfl
                                  have n139 : (z111b).toInt ≤ 199 := by have a0 := oa11 i76x29 ro_109_29 i12 ((inv_F hI 0 200 rfl e_109_111)) ((inv_F hI 0 400 rfl e_109_109)) h1 ((in_c 1 rfl)) i131a i115x4 i111a i115x20; have a11 := t_sub e115x20 i115x4 (in_c 1 rfl) rfl; omega
                                  refine g_callv (X := _) (As := [.int u_109_30]) (r := []) (b := A 109) (q := 109) 142 (gd rfl) rfl rfl rfl rfl rfl (ww_o rfl) (Nat.le_of_ble_eq_true rfl) (Nat.zero_le _) (Nat.zero_le _) (k_396 (by first | exact dq1 hd rfl | exact dq0 hd rfl | exact dq2 hd rfl | exact dq3 hd rfl | omega) hI131 v139 n139) (fun e u h => h) (fun v u h => ?_)
                                  obtain ⟨s139, hI139, hF139, n139a, rfl, rfl, p139⟩ := h
                                  obtain ⟨z139a, e139⟩ : ∃ w, w = s139.2.2.1 109 111 := ⟨_, rfl⟩
                                  have i139a := inv_F hI139 0 200 rfl e139
                                  rw [← (show z111b = s131.2.2.1 109 111 from fr_F (e111a) hF131 rfl)] at n139a
                                  rw [← (show z139a = s139.2.2.1 109 111 from e139)] at n139a
                                  show GG _ _ _ _ _ _ _ _ [] _ _ _
                                  refine g_iconst 0 143 (gd rfl) rfl rfl ?_
                                  have n143 : ((Int32.ofInt 0)).toInt = 0 → PR s s139 1 0 := by intro hR; first | (exfalso; revert hR; decide) | exact pr_tr p91 (pr_hold (hF99.1 187 rfl) (hF99.1 188 rfl) (hF99.2.2.1 109 109 rfl) (hF99.2.2.1 109 23 rfl) p99 (by rw [← e99, ← e91a]; exact n99a) (inv_F hI91 0 200 rfl rfl).1 (Or.inr ⟨by first | (have hi := i76x3; unfold In at hi; omega) | (have hi := i76x13; unfold In at hi; omega) | (have hi := i76x19; unfold In at hi; omega) | (have hi := i76x29; unfold In at hi; omega) | (have hi := i76x35; unfold In at hi; omega), rfl⟩)) | exact pr_tr p111 (pr_hold (hF139.1 187 rfl) (hF139.1 188 rfl) (hF139.2.2.1 109 109 rfl) (hF139.2.2.1 109 23 rfl) p139 (by rw [← e139, ← e111a]; exact n139a) (inv_F hI111 0 200 rfl rfl).1 (Or.inr ⟨by first | (have hi := i76x3; unfold In at hi; omega) | (have hi := i76x13; unfold In at hi; omega) | (have hi := i76x19; unfold In at hi; omega) | (have hi := i76x29; unfold In at hi; omega) | (have hi := i76x35; unfold In at hi; omega), rfl⟩)) | exact pr_tr p111 (pr_tr (b := 1) (pr_flt (hF131.1 187 rfl) (hF131.1 188 rfl) (hF131.2.2.1 109 109 rfl) (by rw [← e131]; omega)) (pr_hold (hF139.1 187 rfl) (hF139.1 188 rfl) (hF139.2.2.1 109 109 rfl) (hF139.2.2.1 109 23 rfl) p139 (by rw [← e139, ← (show z111b = s131.2.2.1 109 111 from fr_F e111a hF131 rfl)]; exact n139a) (inv_F hI131 0 200 rfl rfl).1 (Or.inr ⟨by first | (have hi := i76x3; unfold In at hi; omega) | (have hi := i76x13; unfold In at hi; omega) | (have hi := i76x19; unfold In at hi; omega) | (have hi := i76x29; unfold In at hi; omega) | (have hi := i76x35; unfold In at hi; omega), rfl⟩)))
                                  have n143a : ((Int32.ofInt 0)).toInt ≠ 0 → PR s s139 1 1 := by exact fun h => absurd rfl h
                                  have n143b : (s.2.2.1 109 28).toInt = 0 → ((Int32.ofInt 0)).toInt = 2 := by rw [← e_109_28]; intro h0; first | rfl | (exfalso; have a0 := oa11 i76x29 ro_109_29 i12 ((inv_F hI 0 200 rfl e_109_111)) ((inv_F hI 0 400 rfl e_109_109)) h1 ((in_c 1 rfl)) i139a i131a i111a i115x20; have a11 := t_sub e115x20 i115x4 (in_c 1 rfl) rfl; have a12 := in_u i115x4; omega)
                                  have n143c : (z111a).toInt + (z139a).toInt ≤ (u_109_109).toInt + (u_109_111).toInt + 1 := by have a0 := oa11 i76x29 ro_109_29 i12 ((inv_F hI 0 200 rfl e_109_111)) ((inv_F hI 0 400 rfl e_109_109)) h1 ((in_c 1 rfl)) i139a i131a i111a i115x20; have a11 := t_sub e115x20 i115x4 (in_c 1 rfl) rfl; have a12 := in_u i115x4; omega
                                  have n143d : (s139.2.2.1 109 109).toInt + (s139.2.2.1 109 111).toInt ≤ (s.2.2.1 109 109).toInt + (s.2.2.1 109 111).toInt + 1 := by have b0 : z111a = s139.2.2.1 109 109 := fr_F (fr_F (e111) hF131 rfl) hF139 rfl; have b1 : z139a = s139.2.2.1 109 111 := e139; first | (rw [← b0, ← b1, ← e_109_109, ← e_109_111]; exact n143c) | (rw [← b0, ← b1]; exact n143c)
                                  have n143e : (u_109_28).toInt = 0 → (z111a).toInt + (z139a).toInt = (u_109_109).toInt + (u_109_111).toInt := by have a0 := oa11 i76x29 ro_109_29 i12 ((inv_F hI 0 200 rfl e_109_111)) ((inv_F hI 0 400 rfl e_109_109)) h1 ((in_c 1 rfl)) i139a i131a i111a i115x20; have a11 := t_sub e115x20 i115x4 (in_c 1 rfl) rfl; have a12 := in_u i115x4; omega
                                  have n143f : (s.2.2.1 109 28).toInt = 0 → (s139.2.2.1 109 109).toInt + (s139.2.2.1 109 111).toInt = (s.2.2.1 109 109).toInt + (s.2.2.1 109 111).toInt := by have b0 : z111a = s139.2.2.1 109 109 := fr_F (fr_F (e111) hF131 rfl) hF139 rfl; have b1 : z139a = s139.2.2.1 109 111 := e139; first | (rw [← b0, ← b1, ← e_109_28, ← e_109_109, ← e_109_111]; exact n143e) | (rw [← b0, ← b1]; exact n143e)
                                  exact g_ireturn (gd rfl) rfl rfl (hP _ _ ⟨s139, hI139, (fr_tr rfl (fr_tr rfl (fr_tr rfl fr_rf hF111) hF131) hF139), n143d, n143f, (Int32.ofInt 0), rfl, rfl, in_w 0 2 (in_c 0 rfl) rfl, n143, n143a, n143b⟩)
                              · skip
                                refine g_iload_n 33 (gd rfl) rfl rfl ?_
                                refine g_bipush 61 35 (gd rfl) rfl rfl ?_
                                refine g_cmp_ne 38 42 (gd rfl) rfl rfl (fun c118x35 => ?_) (fun c118x35 => ?_)
                                · skip
                                  refine g_iconst 0 43 (gd rfl) rfl rfl ?_
                                  refine g_ireturn (gd rfl) rfl rfl (hp118 _ _ ?_)
                                  show GG _ _ _ _ _ _ _ _ [.int (Int32.ofInt 0)] _ _ _
                                  refine g_iconst 1 122 (gd rfl) rfl rfl ?_
                                  refine g_cmp_ne 125 134 (gd rfl) rfl rfl (fun c122 => ?_) (fun c122 => ?_)
                                  · skip
                                    refine g_aload_n 135 (gd rfl) rfl rfl ?_
                                    refine g_aload_n 136 (gd rfl) rfl rfl ?_
                                    refine g_getI 139 (gd rfl) rfl rfl rfl (fun z136 e136 => ?_)
                                    have q136 : u_109_30 = z136 := (fr_F (e_109_30) hF111 rfl).trans e136.symm
                                    subst q136
                                    have n139 : (z111b).toInt ≤ 199 := by have a0 := oa10 i76x29 ro_109_29 i12 ((inv_F hI 0 200 rfl e_109_111)) ((inv_F hI 0 400 rfl e_109_109)) h1 ((in_c 1 rfl)) i115x4 i111a i115x20; have a10 := t_sub e115x20 i115x4 (in_c 1 rfl) rfl; omega
                                    refine g_callv (X := _) (As := [.int u_109_30]) (r := []) (b := A 109) (q := 109) 142 (gd rfl) rfl rfl rfl rfl rfl (ww_o rfl) (Nat.le_of_ble_eq_true rfl) (Nat.zero_le _) (Nat.zero_le _) (k_396 (by first | exact dq1 hd rfl | exact dq0 hd rfl | exact dq2 hd rfl | exact dq3 hd rfl | omega) hI111 e111a n139) (fun e u h => h) (fun v u h => ?_)
                                    obtain ⟨s139, hI139, hF139, n139a, rfl, rfl, p139⟩ := h
                                    obtain ⟨z139a, e139⟩ : ∃ w, w = s139.2.2.1 109 111 := ⟨_, rfl⟩
                                    have i139a := inv_F hI139 0 200 rfl e139
                                    rw [← (show z111b = s111.2.2.1 109 111 from e111a)] at n139a
                                    rw [← (show z139a = s139.2.2.1 109 111 from e139)] at n139a
                                    show GG _ _ _ _ _ _ _ _ [] _ _ _
                                    refine g_iconst 0 143 (gd rfl) rfl rfl ?_
                                    have n143 : ((Int32.ofInt 0)).toInt = 0 → PR s s139 1 0 := by intro hR; first | (exfalso; revert hR; decide) | exact pr_tr p91 (pr_hold (hF99.1 187 rfl) (hF99.1 188 rfl) (hF99.2.2.1 109 109 rfl) (hF99.2.2.1 109 23 rfl) p99 (by rw [← e99, ← e91a]; exact n99a) (inv_F hI91 0 200 rfl rfl).1 (Or.inr ⟨by first | (have hi := i76x3; unfold In at hi; omega) | (have hi := i76x13; unfold In at hi; omega) | (have hi := i76x19; unfold In at hi; omega) | (have hi := i76x29; unfold In at hi; omega) | (have hi := i76x35; unfold In at hi; omega), rfl⟩)) | exact pr_tr p111 (pr_hold (hF139.1 187 rfl) (hF139.1 188 rfl) (hF139.2.2.1 109 109 rfl) (hF139.2.2.1 109 23 rfl) p139 (by rw [← e139, ← e111a]; exact n139a) (inv_F hI111 0 200 rfl rfl).1 (Or.inr ⟨by first | (have hi := i76x3; unfold In at hi; omega) | (have hi := i76x13; unfold In at hi; omega) | (have hi := i76x19; unfold In at hi; omega) | (have hi := i76x29; unfold In at hi; omega) | (have hi := i76x35; unfold In at hi; omega), rfl⟩)) | exact pr_tr p111 (pr_tr (b := 1) (pr_flt (hF131.1 187 rfl) (hF131.1 188 rfl) (hF131.2.2.1 109 109 rfl) (by rw [← e131]; omega)) (pr_hold (hF139.1 187 rfl) (hF139.1 188 rfl) (hF139.2.2.1 109 109 rfl) (hF139.2.2.1 109 23 rfl) p139 (by rw [← e139, ← (show z111b = s131.2.2.1 109 111 from fr_F e111a hF131 rfl)]; exact n139a) (inv_F hI131 0 200 rfl rfl).1 (Or.inr ⟨by first | (have hi := i76x3; unfold In at hi; omega) | (have hi := i76x13; unfold In at hi; omega) | (have hi := i76x19; unfold In at hi; omega) | (have hi := i76x29; unfold In at hi; omega) | (have hi := i76x35; unfold In at hi; omega), rfl⟩)))
                                    have n143a : ((Int32.ofInt 0)).toInt ≠ 0 → PR s s139 1 1 := by exact fun h => absurd rfl h
                                    have n143b : (s.2.2.1 109 28).toInt = 0 → ((Int32.ofInt 0)).toInt = 2 := by rw [← e_109_28]; intro h0; first | rfl | (exfalso; have a0 := oa10 i76x29 ro_109_29 i12 ((inv_F hI 0 200 rfl e_109_111)) ((inv_F hI 0 400 rfl e_109_109)) h1 ((in_c 1 rfl)) i139a i111a i115x20; have a10 := t_sub e115x20 i115x4 (in_c 1 rfl) rfl; have a11 := in_u i115x4; omega)
                                    have n143c : (z111a).toInt + (z139a).toInt ≤ (u_109_109).toInt + (u_109_111).toInt + 1 := by have a0 := oa10 i76x29 ro_109_29 i12 ((inv_F hI 0 200 rfl e_109_111)) ((inv_F hI 0 400 rfl e_109_109)) h1 ((in_c 1 rfl)) i139a i111a i115x20; have a10 := t_sub e115x20 i115x4 (in_c 1 rfl) rfl; have a11 := in_u i115x4; omega
                                    have n143d : (s139.2.2.1 109 109).toInt + (s139.2.2.1 109 111).toInt ≤ (s.2.2.1 109 109).toInt + (s.2.2.1 109 111).toInt + 1 := by have b0 : z111a = s139.2.2.1 109 109 := fr_F (e111) hF139 rfl; have b1 : z139a = s139.2.2.1 109 111 := e139; first | (rw [← b0, ← b1, ← e_109_109, ← e_109_111]; exact n143c) | (rw [← b0, ← b1]; exact n143c)
                                    have n143e : (u_109_28).toInt = 0 → (z111a).toInt + (z139a).toInt = (u_109_109).toInt + (u_109_111).toInt := by have a0 := oa10 i76x29 ro_109_29 i12 ((inv_F hI 0 200 rfl e_109_111)) ((inv_F hI 0 400 rfl e_109_109)) h1 ((in_c 1 rfl)) i139a i111a i115x20; have a10 := t_sub e115x20 i115x4 (in_c 1 rfl) rfl; have a11 := in_u i115x4; omega
                                    have n143f : (s.2.2.1 109 28).toInt = 0 → (s139.2.2.1 109 109).toInt + (s139.2.2.1 109 111).toInt = (s.2.2.1 109 109).toInt + (s.2.2.1 109 111).toInt := by have b0 : z111a = s139.2.2.1 109 109 := fr_F (e111) hF139 rfl; have b1 : z139a = s139.2.2.1 109 111 := e139; first | (rw [← b0, ← b1, ← e_109_28, ← e_109_109, ← e_109_111]; exact n143e) | (rw [← b0, ← b1]; exact n143e)
                                    exact g_ireturn (gd rfl) rfl rfl (hP _ _ ⟨s139, hI139, (fr_tr rfl (fr_tr rfl fr_rf hF111) hF139), n143d, n143f, (Int32.ofInt 0), rfl, rfl, in_w 0 2 (in_c 0 rfl) rfl, n143, n143a, n143b⟩)
                                  · skip
                                    exact n_eq c122 (in_c 0 rfl) (in_c 1 rfl) rfl
                                · skip
                                  have i118x35 := r_eq1 61 61 c118x35 (i_rng z115x21) (in_c 61 rfl) rfl
                                  refine g_iconst 1 39 (gd rfl) rfl rfl ?_
                                  refine g_goto 43 (gd rfl) rfl ?_
                                  refine g_ireturn (gd rfl) rfl rfl (hp118 _ _ ?_)
                                  show GG _ _ _ _ _ _ _ _ [.int (Int32.ofInt 1)] _ _ _
                                  refine g_iconst 1 122 (gd rfl) rfl rfl ?_
                                  refine g_cmp_ne 125 134 (gd rfl) rfl rfl (fun c122 => ?_) (fun c122 => ?_)
                                  · skip
                                    exact n_ne c122 (in_c 1 rfl) (in_c 1 rfl) rfl
                                  · skip
                                    refine g_aload_n 126 (gd rfl) rfl rfl ?_
                                    refine g_iconst 2 127 (gd rfl) rfl rfl ?_
                                    refine g_aload_n 128 (gd rfl) rfl rfl ?_
                                    refine g_getI 131 (gd rfl) rfl rfl rfl (fun z128 e128 => ?_)
                                    have q128 : u_109_29 = z128 := (fr_F (e_109_29) hF111 rfl).trans e128.symm
                                    subst q128
                                    refine g_callv (X := _) (As := [.int (Int32.ofInt 2), .int u_109_29]) (r := []) (b := A 109) (q := 109) 134 (gd rfl) rfl rfl rfl rfl rfl (ww_o rfl) (Nat.le_of_ble_eq_true rfl) (Nat.zero_le _) (Nat.zero_le _) (k_298 (by first | exact dq1 hd rfl | exact dq0 hd rfl | exact dq2 hd rfl | exact dq3 hd rfl | omega) hI111 (in_w 1 5 (in_c 2 rfl) rfl)) (fun e u h => h) (fun v u h => ?_)
                                    obtain ⟨s131, hI131, hF131, n131, rfl, rfl⟩ := h
                                    obtain ⟨z131a, e131⟩ : ∃ w, w = s131.2.2.1 109 23 := ⟨_, rfl⟩
                                    have i131a := inv_F hI131 0 9 rfl e131
                                    rw [← (show z131a = s131.2.2.1 109 23 from e131)] at n131
                                    show GG _ _ _ _ _ _ _ _ [] _ _ _
                                    refine g_aload_n 135 (gd rfl) rfl rfl ?_
                                    refine g_aload_n 136 (gd rfl) rfl rfl ?_
                                    refine g_getI 139 (gd rfl) rfl rfl rfl (fun z136 e136 => ?_)
                                    have q136 : u_109_30 = z136 := (fr_F (fr_F (e_109_30) hF111 rfl) hF131 rfl).trans e136.symm
                                    subst q136
                                    have v139 : z111b = s131.2.2.1 109 111 := fr_F (e111a) hF131 rfl
                                    have n139 : (z111b).toInt ≤ 199 := by have a0 := oa11 i76x29 ro_109_29 i12 ((inv_F hI 0 200 rfl e_109_111)) ((inv_F hI 0 400 rfl e_109_109)) h1 ((in_c 1 rfl)) i131a i115x4 i111a i115x20; have a11 := t_sub e115x20 i115x4 (in_c 1 rfl) rfl; omega
                                    refine g_callv (X := _) (As := [.int u_109_30]) (r := []) (b := A 109) (q := 109) 142 (gd rfl) rfl rfl rfl rfl rfl (ww_o rfl) (Nat.le_of_ble_eq_true rfl) (Nat.zero_le _) (Nat.zero_le _) (k_396 (by first | exact dq1 hd rfl | exact dq0 hd rfl | exact dq2 hd rfl | exact dq3 hd rfl | omega) hI131 v139 n139) (fun e u h => h) (fun v u h => ?_)
                                    obtain ⟨s139, hI139, hF139, n139a, rfl, rfl, p139⟩ := h
                                    obtain ⟨z139a, e139⟩ : ∃ w, w = s139.2.2.1 109 111 := ⟨_, rfl⟩
                                    have i139a := inv_F hI139 0 200 rfl e139
                                    rw [← (show z111b = s131.2.2.1 109 111 from fr_F (e111a) hF131 rfl)] at n139a
                                    rw [← (show z139a = s139.2.2.1 109 111 from e139)] at n139a
                                    show GG _ _ _ _ _ _ _ _ [] _ _ _
                                    refine g_iconst 0 143 (gd rfl) rfl rfl ?_
                                    have n143 : ((Int32.ofInt 0)).toInt = 0 → PR s s139 1 0 := by intro hR; first | (exfalso; revert hR; decide) | exact pr_tr p91 (pr_hold (hF99.1 187 rfl) (hF99.1 188 rfl) (hF99.2.2.1 109 109 rfl) (hF99.2.2.1 109 23 rfl) p99 (by rw [← e99, ← e91a]; exact n99a) (inv_F hI91 0 200 rfl rfl).1 (Or.inr ⟨by first | (have hi := i76x3; unfold In at hi; omega) | (have hi := i76x13; unfold In at hi; omega) | (have hi := i76x19; unfold In at hi; omega) | (have hi := i76x29; unfold In at hi; omega) | (have hi := i76x35; unfold In at hi; omega), rfl⟩)) | exact pr_tr p111 (pr_hold (hF139.1 187 rfl) (hF139.1 188 rfl) (hF139.2.2.1 109 109 rfl) (hF139.2.2.1 109 23 rfl) p139 (by rw [← e139, ← e111a]; exact n139a) (inv_F hI111 0 200 rfl rfl).1 (Or.inr ⟨by first | (have hi := i76x3; unfold In at hi; omega) | (have hi := i76x13; unfold In at hi; omega) | (have hi := i76x19; unfold In at hi; omega) | (have hi := i76x29; unfold In at hi; omega) | (have hi := i76x35; unfold In at hi; omega), rfl⟩)) | exact pr_tr p111 (pr_tr (b := 1) (pr_flt (hF131.1 187 rfl) (hF131.1 188 rfl) (hF131.2.2.1 109 109 rfl) (by rw [← e131]; omega)) (pr_hold (hF139.1 187 rfl) (hF139.1 188 rfl) (hF139.2.2.1 109 109 rfl) (hF139.2.2.1 109 23 rfl) p139 (by rw [← e139, ← (show z111b = s131.2.2.1 109 111 from fr_F e111a hF131 rfl)]; exact n139a) (inv_F hI131 0 200 rfl rfl).1 (Or.inr ⟨by first | (have hi := i76x3; unfold In at hi; omega) | (have hi := i76x13; unfold In at hi; omega) | (have hi := i76x19; unfold In at hi; omega) | (have hi := i76x29; unfold In at hi; omega) | (have hi := i76x35; unfold In at hi; omega), rfl⟩)))
                                    have n143a : ((Int32.ofInt 0)).toInt ≠ 0 → PR s s139 1 1 := by exact fun h => absurd rfl h
                                    have n143b : (s.2.2.1 109 28).toInt = 0 → ((Int32.ofInt 0)).toInt = 2 := by rw [← e_109_28]; intro h0; first | rfl | (exfalso; have a0 := oa11 i76x29 ro_109_29 i12 ((inv_F hI 0 200 rfl e_109_111)) ((inv_F hI 0 400 rfl e_109_109)) h1 ((in_c 1 rfl)) i139a i131a i111a i115x20; have a11 := t_sub e115x20 i115x4 (in_c 1 rfl) rfl; have a12 := in_u i115x4; omega)
                                    have n143c : (z111a).toInt + (z139a).toInt ≤ (u_109_109).toInt + (u_109_111).toInt + 1 := by have a0 := oa11 i76x29 ro_109_29 i12 ((inv_F hI 0 200 rfl e_109_111)) ((inv_F hI 0 400 rfl e_109_109)) h1 ((in_c 1 rfl)) i139a i131a i111a i115x20; have a11 := t_sub e115x20 i115x4 (in_c 1 rfl) rfl; have a12 := in_u i115x4; omega
                                    have n143d : (s139.2.2.1 109 109).toInt + (s139.2.2.1 109 111).toInt ≤ (s.2.2.1 109 109).toInt + (s.2.2.1 109 111).toInt + 1 := by have b0 : z111a = s139.2.2.1 109 109 := fr_F (fr_F (e111) hF131 rfl) hF139 rfl; have b1 : z139a = s139.2.2.1 109 111 := e139; first | (rw [← b0, ← b1, ← e_109_109, ← e_109_111]; exact n143c) | (rw [← b0, ← b1]; exact n143c)
                                    have n143e : (u_109_28).toInt = 0 → (z111a).toInt + (z139a).toInt = (u_109_109).toInt + (u_109_111).toInt := by have a0 := oa11 i76x29 ro_109_29 i12 ((inv_F hI 0 200 rfl e_109_111)) ((inv_F hI 0 400 rfl e_109_109)) h1 ((in_c 1 rfl)) i139a i131a i111a i115x20; have a11 := t_sub e115x20 i115x4 (in_c 1 rfl) rfl; have a12 := in_u i115x4; omega
                                    have n143f : (s.2.2.1 109 28).toInt = 0 → (s139.2.2.1 109 109).toInt + (s139.2.2.1 109 111).toInt = (s.2.2.1 109 109).toInt + (s.2.2.1 109 111).toInt := by have b0 : z111a = s139.2.2.1 109 109 := fr_F (fr_F (e111) hF131 rfl) hF139 rfl; have b1 : z139a = s139.2.2.1 109 111 := e139; first | (rw [← b0, ← b1, ← e_109_28, ← e_109_109, ← e_109_111]; exact n143e) | (rw [← b0, ← b1]; exact n143e)
                                    exact g_ireturn (gd rfl) rfl rfl (hP _ _ ⟨s139, hI139, (fr_tr rfl (fr_tr rfl (fr_tr rfl fr_rf hF111) hF131) hF139), n143d, n143f, (Int32.ofInt 0), rfl, rfl, in_w 0 2 (in_c 0 rfl) rfl, n143, n143a, n143b⟩)
                            · skip
                              have i118x19 := r_eq1 45 45 c118x19 (i_rng z115x21) (in_c 45 rfl) rfl
                              refine g_iconst 2 23 (gd rfl) rfl rfl ?_
                              refine g_goto 43 (gd rfl) rfl ?_
                              refine g_ireturn (gd rfl) rfl rfl (hp118 _ _ ?_)
                              show GG _ _ _ _ _ _ _ _ [.int (Int32.ofInt 2)] _ _ _
                              refine g_iconst 1 122 (gd rfl) rfl rfl ?_
                              refine g_cmp_ne 125 134 (gd rfl) rfl rfl (fun c122 => ?_) (fun c122 => ?_)
                              · skip
                                refine g_aload_n 135 (gd rfl) rfl rfl ?_
                                refine g_aload_n 136 (gd rfl) rfl rfl ?_
                                refine g_getI 139 (gd rfl) rfl rfl rfl (fun z136 e136 => ?_)
                                have q136 : u_109_30 = z136 := (fr_F (e_109_30) hF111 rfl).trans e136.symm
                                subst q136
                                have n139 : (z111b).toInt ≤ 199 := by have a0 := oa10 i76x29 ro_109_29 i12 ((inv_F hI 0 200 rfl e_109_111)) ((inv_F hI 0 400 rfl e_109_109)) h1 ((in_c 1 rfl)) i115x4 i111a i115x20; have a10 := t_sub e115x20 i115x4 (in_c 1 rfl) rfl; omega
                                refine g_callv (X := _) (As := [.int u_109_30]) (r := []) (b := A 109) (q := 109) 142 (gd rfl) rfl rfl rfl rfl rfl (ww_o rfl) (Nat.le_of_ble_eq_true rfl) (Nat.zero_le _) (Nat.zero_le _) (k_396 (by first | exact dq1 hd rfl | exact dq0 hd rfl | exact dq2 hd rfl | exact dq3 hd rfl | omega) hI111 e111a n139) (fun e u h => h) (fun v u h => ?_)
                                obtain ⟨s139, hI139, hF139, n139a, rfl, rfl, p139⟩ := h
                                obtain ⟨z139a, e139⟩ : ∃ w, w = s139.2.2.1 109 111 := ⟨_, rfl⟩
                                have i139a := inv_F hI139 0 200 rfl e139
                                rw [← (show z111b = s111.2.2.1 109 111 from e111a)] at n139a
                                rw [← (show z139a = s139.2.2.1 109 111 from e139)] at n139a
                                show GG _ _ _ _ _ _ _ _ [] _ _ _
                                refine g_iconst 0 143 (gd rfl) rfl rfl ?_
                                have n143 : ((Int32.ofInt 0)).toInt = 0 → PR s s139 1 0 := by intro hR; first | (exfalso; revert hR; decide) | exact pr_tr p91 (pr_hold (hF99.1 187 rfl) (hF99.1 188 rfl) (hF99.2.2.1 109 109 rfl) (hF99.2.2.1 109 23 rfl) p99 (by rw [← e99, ← e91a]; exact n99a) (inv_F hI91 0 200 rfl rfl).1 (Or.inr ⟨by first | (have hi := i76x3; unfold In at hi; omega) | (have hi := i76x13; unfold In at hi; omega) | (have hi := i76x19; unfold In at hi; omega) | (have hi := i76x29; unfold In at hi; omega) | (have hi := i76x35; unfold In at hi; omega), rfl⟩)) | exact pr_tr p111 (pr_hold (hF139.1 187 rfl) (hF139.1 188 rfl) (hF139.2.2.1 109 109 rfl) (hF139.2.2.1 109 23 rfl) p139 (by rw [← e139, ← e111a]; exact n139a) (inv_F hI111 0 200 rfl rfl).1 (Or.inr ⟨by first | (have hi := i76x3; unfold In at hi; omega) | (have hi := i76x13; unfold In at hi; omega) | (have hi := i76x19; unfold In at hi; omega) | (have hi := i76x29; unfold In at hi; omega) | (have hi := i76x35; unfold In at hi; omega), rfl⟩)) | exact pr_tr p111 (pr_tr (b := 1) (pr_flt (hF131.1 187 rfl) (hF131.1 188 rfl) (hF131.2.2.1 109 109 rfl) (by rw [← e131]; omega)) (pr_hold (hF139.1 187 rfl) (hF139.1 188 rfl) (hF139.2.2.1 109 109 rfl) (hF139.2.2.1 109 23 rfl) p139 (by rw [← e139, ← (show z111b = s131.2.2.1 109 111 from fr_F e111a hF131 rfl)]; exact n139a) (inv_F hI131 0 200 rfl rfl).1 (Or.inr ⟨by first | (have hi := i76x3; unfold In at hi; omega) | (have hi := i76x13; unfold In at hi; omega) | (have hi := i76x19; unfold In at hi; omega) | (have hi := i76x29; unfold In at hi; omega) | (have hi := i76x35; unfold In at hi; omega), rfl⟩)))
                                have n143a : ((Int32.ofInt 0)).toInt ≠ 0 → PR s s139 1 1 := by exact fun h => absurd rfl h
                                have n143b : (s.2.2.1 109 28).toInt = 0 → ((Int32.ofInt 0)).toInt = 2 := by rw [← e_109_28]; intro h0; first | rfl | (exfalso; have a0 := oa10 i76x29 ro_109_29 i12 ((inv_F hI 0 200 rfl e_109_111)) ((inv_F hI 0 400 rfl e_109_109)) h1 ((in_c 1 rfl)) i139a i111a i115x20; have a10 := t_sub e115x20 i115x4 (in_c 1 rfl) rfl; have a11 := in_u i115x4; omega)
                                have n143c : (z111a).toInt + (z139a).toInt ≤ (u_109_109).toInt + (u_109_111).toInt + 1 := by have a0 := oa10 i76x29 ro_109_29 i12 ((inv_F hI 0 200 rfl e_109_111)) ((inv_F hI 0 400 rfl e_109_109)) h1 ((in_c 1 rfl)) i139a i111a i115x20; have a10 := t_sub e115x20 i115x4 (in_c 1 rfl) rfl; have a11 := in_u i115x4; omega
                                have n143d : (s139.2.2.1 109 109).toInt + (s139.2.2.1 109 111).toInt ≤ (s.2.2.1 109 109).toInt + (s.2.2.1 109 111).toInt + 1 := by have b0 : z111a = s139.2.2.1 109 109 := fr_F (e111) hF139 rfl; have b1 : z139a = s139.2.2.1 109 111 := e139; first | (rw [← b0, ← b1, ← e_109_109, ← e_109_111]; exact n143c) | (rw [← b0, ← b1]; exact n143c)
                                have n143e : (u_109_28).toInt = 0 → (z111a).toInt + (z139a).toInt = (u_109_109).toInt + (u_109_111).toInt := by have a0 := oa10 i76x29 ro_109_29 i12 ((inv_F hI 0 200 rfl e_109_111)) ((inv_F hI 0 400 rfl e_109_109)) h1 ((in_c 1 rfl)) i139a i111a i115x20; have a10 := t_sub e115x20 i115x4 (in_c 1 rfl) rfl; have a11 := in_u i115x4; omega
                                have n143f : (s.2.2.1 109 28).toInt = 0 → (s139.2.2.1 109 109).toInt + (s139.2.2.1 109 111).toInt = (s.2.2.1 109 109).toInt + (s.2.2.1 109 111).toInt := by have b0 : z111a = s139.2.2.1 109 109 := fr_F (e111) hF139 rfl; have b1 : z139a = s139.2.2.1 109 111 := e139; first | (rw [← b0, ← b1, ← e_109_28, ← e_109_109, ← e_109_111]; exact n143e) | (rw [← b0, ← b1]; exact n143e)
                                exact g_ireturn (gd rfl) rfl rfl (hP _ _ ⟨s139, hI139, (fr_tr rfl (fr_tr rfl fr_rf hF111) hF139), n143d, n143f, (Int32.ofInt 0), rfl, rfl, in_w 0 2 (in_c 0 rfl) rfl, n143, n143a, n143b⟩)
                              · skip
                                exact n_eq c122 (in_c 2 rfl) (in_c 1 rfl) rfl
                        · skip
                          have i118x3 := r_eq1 42 42 c118x3 (i_rng z115x21) (in_c 42 rfl) rfl
                          refine g_iconst 3 7 (gd rfl) rfl rfl ?_
                          refine g_goto 43 (gd rfl) rfl ?_
                          refine g_ireturn (gd rfl) rfl rfl (hp118 _ _ ?_)
                          show GG _ _ _ _ _ _ _ _ [.int (Int32.ofInt 3)] _ _ _
                          refine g_iconst 1 122 (gd rfl) rfl rfl ?_
                          refine g_cmp_ne 125 134 (gd rfl) rfl rfl (fun c122 => ?_) (fun c122 => ?_)
                          · skip
                            refine g_aload_n 135 (gd rfl) rfl rfl ?_
                            refine g_aload_n 136 (gd rfl) rfl rfl ?_
                            refine g_getI 139 (gd rfl) rfl rfl rfl (fun z136 e136 => ?_)
                            have q136 : u_109_30 = z136 := (fr_F (e_109_30) hF111 rfl).trans e136.symm
                            subst q136
                            have n139 : (z111b).toInt ≤ 199 := by have a0 := oa10 i76x29 ro_109_29 i12 ((inv_F hI 0 200 rfl e_109_111)) ((inv_F hI 0 400 rfl e_109_109)) h1 ((in_c 1 rfl)) i115x4 i111a i115x20; have a10 := t_sub e115x20 i115x4 (in_c 1 rfl) rfl; omega
                            refine g_callv (X := _) (As := [.int u_109_30]) (r := []) (b := A 109) (q := 109) 142 (gd rfl) rfl rfl rfl rfl rfl (ww_o rfl) (Nat.le_of_ble_eq_true rfl) (Nat.zero_le _) (Nat.zero_le _) (k_396 (by first | exact dq1 hd rfl | exact dq0 hd rfl | exact dq2 hd rfl | exact dq3 hd rfl | omega) hI111 e111a n139) (fun e u h => h) (fun v u h => ?_)
                            obtain ⟨s139, hI139, hF139, n139a, rfl, rfl, p139⟩ := h
                            obtain ⟨z139a, e139⟩ : ∃ w, w = s139.2.2.1 109 111 := ⟨_, rfl⟩
                            have i139a := inv_F hI139 0 200 rfl e139
                            rw [← (show z111b = s111.2.2.1 109 111 from e111a)] at n139a
                            rw [← (show z139a = s139.2.2.1 109 111 from e139)] at n139a
                            show GG _ _ _ _ _ _ _ _ [] _ _ _
                            refine g_iconst 0 143 (gd rfl) rfl rfl ?_
                            have n143 : ((Int32.ofInt 0)).toInt = 0 → PR s s139 1 0 := by intro hR; first | (exfalso; revert hR; decide) | exact pr_tr p91 (pr_hold (hF99.1 187 rfl) (hF99.1 188 rfl) (hF99.2.2.1 109 109 rfl) (hF99.2.2.1 109 23 rfl) p99 (by rw [← e99, ← e91a]; exact n99a) (inv_F hI91 0 200 rfl rfl).1 (Or.inr ⟨by first | (have hi := i76x3; unfold In at hi; omega) | (have hi := i76x13; unfold In at hi; omega) | (have hi := i76x19; unfold In at hi; omega) | (have hi := i76x29; unfold In at hi; omega) | (have hi := i76x35; unfold In at hi; omega), rfl⟩)) | exact pr_tr p111 (pr_hold (hF139.1 187 rfl) (hF139.1 188 rfl) (hF139.2.2.1 109 109 rfl) (hF139.2.2.1 109 23 rfl) p139 (by rw [← e139, ← e111a]; exact n139a) (inv_F hI111 0 200 rfl rfl).1 (Or.inr ⟨by first | (have hi := i76x3; unfold In at hi; omega) | (have hi := i76x13; unfold In at hi; omega) | (have hi := i76x19; unfold In at hi; omega) | (have hi := i76x29; unfold In at hi; omega) | (have hi := i76x35; unfold In at hi; omega), rfl⟩)) | exact pr_tr p111 (pr_tr (b := 1) (pr_flt (hF131.1 187 rfl) (hF131.1 188 rfl) (hF131.2.2.1 109 109 rfl) (by rw [← e131]; omega)) (pr_hold (hF139.1 187 rfl) (hF139.1 188 rfl) (hF139.2.2.1 109 109 rfl) (hF139.2.2.1 109 23 rfl) p139 (by rw [← e139, ← (show z111b = s131.2.2.1 109 111 from fr_F e111a hF131 rfl)]; exact n139a) (inv_F hI131 0 200 rfl rfl).1 (Or.inr ⟨by first | (have hi := i76x3; unfold In at hi; omega) | (have hi := i76x13; unfold In at hi; omega) | (have hi := i76x19; unfold In at hi; omega) | (have hi := i76x29; unfold In at hi; omega) | (have hi := i76x35; unfold In at hi; omega), rfl⟩)))
                            have n143a : ((Int32.ofInt 0)).toInt ≠ 0 → PR s s139 1 1 := by exact fun h => absurd rfl h
                            have n143b : (s.2.2.1 109 28).toInt = 0 → ((Int32.ofInt 0)).toInt = 2 := by rw [← e_109_28]; intro h0; first | rfl | (exfalso; have a0 := oa10 i76x29 ro_109_29 i12 ((inv_F hI 0 200 rfl e_109_111)) ((inv_F hI 0 400 rfl e_109_109)) h1 ((in_c 1 rfl)) i139a i111a i115x20; have a10 := t_sub e115x20 i115x4 (in_c 1 rfl) rfl; have a11 := in_u i115x4; omega)
                            have n143c : (z111a).toInt + (z139a).toInt ≤ (u_109_109).toInt + (u_109_111).toInt + 1 := by have a0 := oa10 i76x29 ro_109_29 i12 ((inv_F hI 0 200 rfl e_109_111)) ((inv_F hI 0 400 rfl e_109_109)) h1 ((in_c 1 rfl)) i139a i111a i115x20; have a10 := t_sub e115x20 i115x4 (in_c 1 rfl) rfl; have a11 := in_u i115x4; omega
                            have n143d : (s139.2.2.1 109 109).toInt + (s139.2.2.1 109 111).toInt ≤ (s.2.2.1 109 109).toInt + (s.2.2.1 109 111).toInt + 1 := by have b0 : z111a = s139.2.2.1 109 109 := fr_F (e111) hF139 rfl; have b1 : z139a = s139.2.2.1 109 111 := e139; first | (rw [← b0, ← b1, ← e_109_109, ← e_109_111]; exact n143c) | (rw [← b0, ← b1]; exact n143c)
                            have n143e : (u_109_28).toInt = 0 → (z111a).toInt + (z139a).toInt = (u_109_109).toInt + (u_109_111).toInt := by have a0 := oa10 i76x29 ro_109_29 i12 ((inv_F hI 0 200 rfl e_109_111)) ((inv_F hI 0 400 rfl e_109_109)) h1 ((in_c 1 rfl)) i139a i111a i115x20; have a10 := t_sub e115x20 i115x4 (in_c 1 rfl) rfl; have a11 := in_u i115x4; omega
                            have n143f : (s.2.2.1 109 28).toInt = 0 → (s139.2.2.1 109 109).toInt + (s139.2.2.1 109 111).toInt = (s.2.2.1 109 109).toInt + (s.2.2.1 109 111).toInt := by have b0 : z111a = s139.2.2.1 109 109 := fr_F (e111) hF139 rfl; have b1 : z139a = s139.2.2.1 109 111 := e139; first | (rw [← b0, ← b1, ← e_109_28, ← e_109_109, ← e_109_111]; exact n143e) | (rw [← b0, ← b1]; exact n143e)
                            exact g_ireturn (gd rfl) rfl rfl (hP _ _ ⟨s139, hI139, (fr_tr rfl (fr_tr rfl fr_rf hF111) hF139), n143d, n143f, (Int32.ofInt 0), rfl, rfl, in_w 0 2 (in_c 0 rfl) rfl, n143, n143a, n143b⟩)
                          · skip
                            exact n_eq c122 (in_c 3 rfl) (in_c 1 rfl) rfl
                      · skip
                        have i115x4 := z_eq 0 0 c115x4 i111b rfl
                        refine g_iconst 0 8 (gd rfl) rfl rfl ?_
                        refine g_goto 22 (gd rfl) rfl ?_
                        refine g_ireturn (gd rfl) rfl rfl (hp115 _ _ ?_)
                        show GG _ _ _ _ _ _ _ _ [.int (Int32.ofInt 0)] _ _ _
                        refine g_calls (As := [.int (Int32.ofInt 0)]) (r := []) 121 (gd rfl) rfl rfl rfl rfl rfl (Nat.le_of_ble_eq_true rfl) (mc := 0) (ms := 0) (Nat.zero_le _) (Nat.zero_le _) (P := fun v u => _) ?_ (fun v u h => h)
                        intro po118 xx118 hp118 hx118
                        refine g_enter2 (k := 398) (N := 300) (by first | exact dq1 hd rfl | exact dq0 hd rfl | exact dq2 hd rfl | exact dq3 hd rfl | omega) rfl (Nat.le_of_ble_eq_true rfl) ?_
                        refine g_iload_n 1 (gd rfl) rfl rfl ?_
                        refine g_bipush 42 3 (gd rfl) rfl rfl ?_
                        refine g_cmp_ne 6 10 (gd rfl) rfl rfl (fun c118x3 => ?_) (fun c118x3 => ?_)
                        · skip
                          refine g_iload_n 11 (gd rfl) rfl rfl ?_
                          refine g_bipush 43 13 (gd rfl) rfl rfl ?_
                          refine g_cmp_eq 16 22 (gd rfl) rfl rfl (fun c118x13 => ?_) (fun c118x13 => ?_)
                          · skip
                            exact n_eq c118x13 (in_c 0 rfl) (in_c 43 rfl) rfl
                          · skip
                            refine g_iload_n 17 (gd rfl) rfl rfl ?_
                            refine g_bipush 45 19 (gd rfl) rfl rfl ?_
                            refine g_cmp_ne 22 26 (gd rfl) rfl rfl (fun c118x19 => ?_) (fun c118x19 => ?_)
                            · skip
                              refine g_iload_n 27 (gd rfl) rfl rfl ?_
                              refine g_bipush 60 29 (gd rfl) rfl rfl ?_
                              refine g_cmp_eq 32 38 (gd rfl) rfl rfl (fun c118x29 => ?_) (fun c118x29 => ?_)
                              · skip
                                exact n_eq c118x29 (in_c 0 rfl) (in_c 60 rfl) rfl
                              · skip
                                refine g_iload_n 33 (gd rfl) rfl rfl ?_
                                refine g_bipush 61 35 (gd rfl) rfl rfl ?_
                                refine g_cmp_ne 38 42 (gd rfl) rfl rfl (fun c118x35 => ?_) (fun c118x35 => ?_)
                                · skip
                                  refine g_iconst 0 43 (gd rfl) rfl rfl ?_
                                  refine g_ireturn (gd rfl) rfl rfl (hp118 _ _ ?_)
                                  show GG _ _ _ _ _ _ _ _ [.int (Int32.ofInt 0)] _ _ _
                                  refine g_iconst 1 122 (gd rfl) rfl rfl ?_
                                  refine g_cmp_ne 125 134 (gd rfl) rfl rfl (fun c122 => ?_) (fun c122 => ?_)
                                  · skip
                                    refine g_aload_n 135 (gd rfl) rfl rfl ?_
                                    refine g_aload_n 136 (gd rfl) rfl rfl ?_
                                    refine g_getI 139 (gd rfl) rfl rfl rfl (fun z136 e136 => ?_)
                                    have q136 : u_109_30 = z136 := (fr_F (e_109_30) hF111 rfl).trans e136.symm
                                    subst q136
                                    have n139 : (z111b).toInt ≤ 199 := by have a0 := oa9 i76x29 ro_109_29 i12 ((inv_F hI 0 200 rfl e_109_111)) ((inv_F hI 0 400 rfl e_109_109)) h1 ((in_c 1 rfl)) i115x4 i111a; omega
                                    refine g_callv (X := _) (As := [.int u_109_30]) (r := []) (b := A 109) (q := 109) 142 (gd rfl) rfl rfl rfl rfl rfl (ww_o rfl) (Nat.le_of_ble_eq_true rfl) (Nat.zero_le _) (Nat.zero_le _) (k_396 (by first | exact dq1 hd rfl | exact dq0 hd rfl | exact dq2 hd rfl | exact dq3 hd rfl | omega) hI111 e111a n139) (fun e u h => h) (fun v u h => ?_)
                                    obtain ⟨s139, hI139, hF139, n139a, rfl, rfl, p139⟩ := h
                                    obtain ⟨z139a, e139⟩ : ∃ w, w = s139.2.2.1 109 111 := ⟨_, rfl⟩
                                    have i139a := inv_F hI139 0 200 rfl e139
                                    rw [← (show z111b = s111.2.2.1 109 111 from e111a)] at n139a
                                    rw [← (show z139a = s139.2.2.1 109 111 from e139)] at n139a
                                    show GG _ _ _ _ _ _ _ _ [] _ _ _
                                    refine g_iconst 0 143 (gd rfl) rfl rfl ?_
                                    have n143 : ((Int32.ofInt 0)).toInt = 0 → PR s s139 1 0 := by intro hR; first | (exfalso; revert hR; decide) | exact pr_tr p91 (pr_hold (hF99.1 187 rfl) (hF99.1 188 rfl) (hF99.2.2.1 109 109 rfl) (hF99.2.2.1 109 23 rfl) p99 (by rw [← e99, ← e91a]; exact n99a) (inv_F hI91 0 200 rfl rfl).1 (Or.inr ⟨by first | (have hi := i76x3; unfold In at hi; omega) | (have hi := i76x13; unfold In at hi; omega) | (have hi := i76x19; unfold In at hi; omega) | (have hi := i76x29; unfold In at hi; omega) | (have hi := i76x35; unfold In at hi; omega), rfl⟩)) | exact pr_tr p111 (pr_hold (hF139.1 187 rfl) (hF139.1 188 rfl) (hF139.2.2.1 109 109 rfl) (hF139.2.2.1 109 23 rfl) p139 (by rw [← e139, ← e111a]; exact n139a) (inv_F hI111 0 200 rfl rfl).1 (Or.inr ⟨by first | (have hi := i76x3; unfold In at hi; omega) | (have hi := i76x13; unfold In at hi; omega) | (have hi := i76x19; unfold In at hi; omega) | (have hi := i76x29; unfold In at hi; omega) | (have hi := i76x35; unfold In at hi; omega), rfl⟩)) | exact pr_tr p111 (pr_tr (b := 1) (pr_flt (hF131.1 187 rfl) (hF131.1 188 rfl) (hF131.2.2.1 109 109 rfl) (by rw [← e131]; omega)) (pr_hold (hF139.1 187 rfl) (hF139.1 188 rfl) (hF139.2.2.1 109 109 rfl) (hF139.2.2.1 109 23 rfl) p139 (by rw [← e139, ← (show z111b = s131.2.2.1 109 111 from fr_F e111a hF131 rfl)]; exact n139a) (inv_F hI131 0 200 rfl rfl).1 (Or.inr ⟨by first | (have hi := i76x3; unfold In at hi; omega) | (have hi := i76x13; unfold In at hi; omega) | (have hi := i76x19; unfold In at hi; omega) | (have hi := i76x29; unfold In at hi; omega) | (have hi := i76x35; unfold In at hi; omega), rfl⟩)))
                                    have n143a : ((Int32.ofInt 0)).toInt ≠ 0 → PR s s139 1 1 := by exact fun h => absurd rfl h
                                    have n143b : (s.2.2.1 109 28).toInt = 0 → ((Int32.ofInt 0)).toInt = 2 := by rw [← e_109_28]; intro h0; first | rfl | (exfalso; have a0 := oa9 i76x29 ro_109_29 i12 ((inv_F hI 0 200 rfl e_109_111)) ((inv_F hI 0 400 rfl e_109_109)) h1 ((in_c 1 rfl)) i139a i111a; omega)
                                    have n143c : (z111a).toInt + (z139a).toInt ≤ (u_109_109).toInt + (u_109_111).toInt + 1 := by have a0 := oa9 i76x29 ro_109_29 i12 ((inv_F hI 0 200 rfl e_109_111)) ((inv_F hI 0 400 rfl e_109_109)) h1 ((in_c 1 rfl)) i139a i111a; omega
                                    have n143d : (s139.2.2.1 109 109).toInt + (s139.2.2.1 109 111).toInt ≤ (s.2.2.1 109 109).toInt + (s.2.2.1 109 111).toInt + 1 := by have b0 : z111a = s139.2.2.1 109 109 := fr_F (e111) hF139 rfl; have b1 : z139a = s139.2.2.1 109 111 := e139; first | (rw [← b0, ← b1, ← e_109_109, ← e_109_111]; exact n143c) | (rw [← b0, ← b1]; exact n143c)
                                    have n143e : (u_109_28).toInt = 0 → (z111a).toInt + (z139a).toInt = (u_109_109).toInt + (u_109_111).toInt := by have a0 := oa9 i76x29 ro_109_29 i12 ((inv_F hI 0 200 rfl e_109_111)) ((inv_F hI 0 400 rfl e_109_109)) h1 ((in_c 1 rfl)) i139a i111a; omega
                                    have n143f : (s.2.2.1 109 28).toInt = 0 → (s139.2.2.1 109 109).toInt + (s139.2.2.1 109 111).toInt = (s.2.2.1 109 109).toInt + (s.2.2.1 109 111).toInt := by have b0 : z111a = s139.2.2.1 109 109 := fr_F (e111) hF139 rfl; have b1 : z139a = s139.2.2.1 109 111 := e139; first | (rw [← b0, ← b1, ← e_109_28, ← e_109_109, ← e_109_111]; exact n143e) | (rw [← b0, ← b1]; exact n143e)
                                    exact g_ireturn (gd rfl) rfl rfl (hP _ _ ⟨s139, hI139, (fr_tr rfl (fr_tr rfl fr_rf hF111) hF139), n143d, n143f, (Int32.ofInt 0), rfl, rfl, in_w 0 2 (in_c 0 rfl) rfl, n143, n143a, n143b⟩)
                                  · skip
                                    exact n_eq c122 (in_c 0 rfl) (in_c 1 rfl) rfl
                                · skip
                                  exact n_eq c118x35 (in_c 0 rfl) (in_c 61 rfl) rfl
                            · skip
                              exact n_eq c118x19 (in_c 0 rfl) (in_c 45 rfl) rfl
                        · skip
                          exact n_eq c118x3 (in_c 0 rfl) (in_c 42 rfl) rfl
                  · skip
                    exact n_lt c86 (in_c 1 rfl) (in_c 1 rfl) rfl
                · skip
                  refine g_iload_n 33 (gd rfl) rfl rfl ?_
                  refine g_bipush 61 35 (gd rfl) rfl rfl ?_
                  refine g_cmp_ne 38 42 (gd rfl) rfl rfl (fun c76x35 => ?_) (fun c76x35 => ?_)
                  · skip
                    refine g_iconst 0 43 (gd rfl) rfl rfl ?_
                    refine g_ireturn (gd rfl) rfl rfl (hp76 _ _ ?_)
                    show GG _ _ _ _ _ _ _ _ [.int (Int32.ofInt 0)] _ _ _
                    refine g_goto 83 (gd rfl) rfl ?_
                    refine g_istore_n 84 (gd rfl) rfl (Nat.le_of_ble_eq_true rfl) ?_
                    refine g_iload_n 85 (gd rfl) rfl rfl ?_
                    refine g_iconst 1 86 (gd rfl) rfl rfl ?_
                    refine g_cmp_le 89 104 (gd rfl) rfl rfl (fun c86 => ?_) (fun c86 => ?_)
                    · skip
                      refine g_iload_n 105 (gd rfl) rfl rfl ?_
                      refine g_iconst 1 106 (gd rfl) rfl rfl ?_
                      refine g_cmp_ne 109 144 (gd rfl) rfl rfl (fun c106 => ?_) (fun c106 => ?_)
                      · skip
                        refine g_aload_n 145 (gd rfl) rfl rfl ?_
                        refine g_getI 148 (gd rfl) rfl rfl rfl (fun z145 e145 => ?_)
                        have q145 : u_109_28 = z145 := (e_109_28).trans e145.symm
                        subst q145
                        refine g_iconst 3 149 (gd rfl) rfl rfl ?_
                        refine g_cmp_ne 152 196 (gd rfl) rfl rfl (fun c149 => ?_) (fun c149 => ?_)
                        · skip
                          exact n_ne c149 i12 (in_c 3 rfl) rfl
                        · skip
                          refine g_aload_n 153 (gd rfl) rfl rfl ?_
                          refine g_getI 156 (gd rfl) rfl rfl rfl (fun z153 e153 => ?_)
                          have q153 : u_109_30 = z153 := (e_109_30).trans e153.symm
                          subst q153
                          refine g_bipush 41 158 (gd rfl) rfl rfl ?_
                          refine g_cmp_ne 161 196 (gd rfl) rfl rfl (fun c158 => ?_) (fun c158 => ?_)
                          · skip
                            refine g_aload_n 197 (gd rfl) rfl rfl ?_
                            refine g_iconst 2 198 (gd rfl) rfl rfl ?_
                            refine g_aload_n 199 (gd rfl) rfl rfl ?_
                            refine g_getI 202 (gd rfl) rfl rfl rfl (fun z199 e199 => ?_)
                            have q199 : u_109_29 = z199 := (e_109_29).trans e199.symm
                            subst q199
                            refine g_callv (X := _) (As := [.int (Int32.ofInt 2), .int u_109_29]) (r := []) (b := A 109) (q := 109) 205 (gd rfl) rfl rfl rfl rfl rfl (ww_o rfl) (Nat.le_of_ble_eq_true rfl) (Nat.zero_le _) (Nat.zero_le _) (k_298 (by first | exact dq1 hd rfl | exact dq0 hd rfl | exact dq2 hd rfl | exact dq3 hd rfl | omega) hI (in_w 1 5 (in_c 2 rfl) rfl)) (fun e u h => h) (fun v u h => ?_)
                            obtain ⟨s202, hI202, hF202, n202, rfl, rfl⟩ := h
                            obtain ⟨z202a, e202⟩ : ∃ w, w = s202.2.2.1 109 23 := ⟨_, rfl⟩
                            have i202a := inv_F hI202 0 9 rfl e202
                            rw [← (show z202a = s202.2.2.1 109 23 from e202)] at n202
                            show GG _ _ _ _ _ _ _ _ [] _ _ _
                            refine g_iconst 1 206 (gd rfl) rfl rfl ?_
                            have n206 : ((Int32.ofInt 1)).toInt = 0 → PR s s202 1 0 := by exact fun h => absurd h (by decide)
                            have n206a : ((Int32.ofInt 1)).toInt ≠ 0 → PR s s202 1 1 := by intro hR; first | (exact absurd rfl hR) | exact p26 | exact pr_tr p26 (pr_flt (hF59.1 187 rfl) (hF59.1 188 rfl) (hF59.2.2.1 109 109 rfl) (by rw [← e59]; omega)) | exact pr_tr p163 (pr_flt (hF181.1 187 rfl) (hF181.1 188 rfl) (hF181.2.2.1 109 109 rfl) (by rw [← e181]; omega)) | exact pr_flt (hF202.1 187 rfl) (hF202.1 188 rfl) (hF202.2.2.1 109 109 rfl) (by rw [← e202]; omega) | exact pr_tr p163 (pr_tr (pr_drop (x := z167x21) (b := z167x20) (hF187.1 187 rfl) (hF187.1 188 rfl) (hF187.2.2.1 109 109 rfl) (hF187.2.2.1 109 23 rfl) (hF187.1 190 rfl) (by rw [← e187]; have a0 := oa7 ro_109_29 i12 ((inv_F hI 0 200 rfl e_109_111)) ((inv_F hI 0 400 rfl e_109_109)) h1 ((in_c 0 rfl)) i202a; omega) (by rw [← e163a]; have a0 := oa7 ro_109_29 i12 ((inv_F hI 0 200 rfl e_109_111)) ((inv_F hI 0 400 rfl e_109_109)) h1 ((in_c 0 rfl)) i202a; omega) i167x20.1 e167x21 (Or.inr (c172.trans rfl))) p191)
                            have n206b : (s.2.2.1 109 28).toInt = 0 → ((Int32.ofInt 1)).toInt = 2 := by rw [← e_109_28]; intro h0; first | rfl | (exfalso; have a0 := oa7 ro_109_29 i12 ((inv_F hI 0 200 rfl e_109_111)) ((inv_F hI 0 400 rfl e_109_109)) h1 ((in_c 0 rfl)) i202a; omega)
                            have n206c : (u_109_109).toInt + (u_109_111).toInt ≤ (u_109_109).toInt + (u_109_111).toInt + 1 := by have a0 := oa7 ro_109_29 i12 ((inv_F hI 0 200 rfl e_109_111)) ((inv_F hI 0 400 rfl e_109_109)) h1 ((in_c 0 rfl)) i202a; omega
                            have n206d : (s202.2.2.1 109 109).toInt + (s202.2.2.1 109 111).toInt ≤ (s.2.2.1 109 109).toInt + (s.2.2.1 109 111).toInt + 1 := by have b0 : u_109_109 = s202.2.2.1 109 109 := fr_F (e_109_109) hF202 rfl; have b1 : u_109_111 = s202.2.2.1 109 111 := fr_F (e_109_111) hF202 rfl; first | (rw [← b0, ← b1, ← e_109_109, ← e_109_111]; exact n206c) | (rw [← b0, ← b1]; exact n206c)
                            have n206e : (u_109_28).toInt = 0 → (u_109_109).toInt + (u_109_111).toInt = (u_109_109).toInt + (u_109_111).toInt := by have a0 := oa7 ro_109_29 i12 ((inv_F hI 0 200 rfl e_109_111)) ((inv_F hI 0 400 rfl e_109_109)) h1 ((in_c 0 rfl)) i202a; omega
                            have n206f : (s.2.2.1 109 28).toInt = 0 → (s202.2.2.1 109 109).toInt + (s202.2.2.1 109 111).toInt = (s.2.2.1 109 109).toInt + (s.2.2.1 109 111).toInt := by have b0 : u_109_109 = s202.2.2.1 109 109 := fr_F (e_109_109) hF202 rfl; have b1 : u_109_111 = s202.2.2.1 109 111 := fr_F (e_109_111) hF202 rfl; first | (rw [← b0, ← b1, ← e_109_28, ← e_109_109, ← e_109_111]; exact n206e) | (rw [← b0, ← b1]; exact n206e)
                            exact g_ireturn (gd rfl) rfl rfl (hP _ _ ⟨s202, hI202, (fr_tr rfl fr_rf hF202), n206d, n206f, (Int32.ofInt 1), rfl, rfl, in_w 0 2 (in_c 1 rfl) rfl, n206, n206a, n206b⟩)
                          · skip
                            have i158 := r_eq1 41 41 c158 (i_rng u_109_30) (in_c 41 rfl) rfl
                            refine g_aload_n 162 (gd rfl) rfl rfl ?_
                            refine g_iconst 1 163 (gd rfl) rfl rfl ?_
                            have n163 : (u_109_109).toInt + (u_109_111).toInt ≤ 120 := by have a0 := oa7 i158 ro_109_29 i12 ((inv_F hI 0 200 rfl e_109_111)) ((inv_F hI 0 400 rfl e_109_109)) h1 ((in_c 0 rfl)); omega
                            refine g_callv (X := _) (As := [.int (Int32.ofInt 1)]) (r := []) (b := A 109) (q := 109) 166 (gd rfl) rfl rfl rfl rfl rfl (ww_o rfl) (Nat.le_of_ble_eq_true rfl) (Nat.zero_le _) (Nat.zero_le _) (k_399 (by first | exact dq1 hd rfl | exact dq0 hd rfl | exact dq2 hd rfl | exact dq3 hd rfl | omega) hI (in_w 1 3 (in_c 1 rfl) rfl) e_109_109 e_109_111 n163) (fun e u h => h) (fun v u h => ?_)
                            obtain ⟨s163, hI163, hF163, n163a, rfl, rfl, p163⟩ := h
                            obtain ⟨z163a, e163⟩ : ∃ w, w = s163.2.2.1 109 109 := ⟨_, rfl⟩
                            have i163a := inv_F hI163 0 400 rfl e163
                            obtain ⟨z163b, e163a⟩ : ∃ w, w = s163.2.2.1 109 111 := ⟨_, rfl⟩
                            have i163b := inv_F hI163 0 200 rfl e163a
                            rw [← (show u_109_109 = s.2.2.1 109 109 from e_109_109)] at n163a
                            rw [← (show u_109_111 = s.2.2.1 109 111 from e_109_111)] at n163a
                            rw [← (show z163a = s163.2.2.1 109 109 from e163)] at n163a
                            rw [← (show z163b = s163.2.2.1 109 111 from e163a)] at n163a
                            show GG _ _ _ _ _ _ _ _ [] _ _ _
                            refine g_aload_n 167 (gd rfl) rfl rfl ?_
                            refine g_callv (X := _) (As := []) (r := []) (b := A 109) (q := 109) 170 (gd rfl) rfl rfl rfl rfl rfl (ww_o rfl) (Nat.le_of_ble_eq_true rfl) (mc := 0) (ms := 0) (Nat.zero_le _) (Nat.zero_le _) (P := fun v u => _) ?_ (fun e u h => h) (fun v u h => h)
                            intro po167 xx167 hp167 hx167
                            refine g_enter2 (k := 395) (N := 300) (by first | exact dq1 hd rfl | exact dq0 hd rfl | exact dq2 hd rfl | exact dq3 hd rfl | omega) rfl (Nat.le_of_ble_eq_true rfl) ?_
                            refine g_aload_n 1 (gd rfl) rfl rfl ?_
                            refine g_getI 4 (gd rfl) rfl rfl rfl (fun z167x1 e167x1 => ?_)
                            have q167x1 : z163b = z167x1 := (e163a).trans e167x1.symm
                            subst q167x1
                            refine g_if_ne 7 11 (gd rfl) rfl rfl (fun c167x4 => ?_) (fun c167x4 => ?_)
                            · skip
                              have i167x4 := z_ne 1 200 c167x4 i163b rfl
                              refine g_aload_n 12 (gd rfl) rfl rfl ?_
                              refine g_getA (q2 := 190) 15 (gd rfl) rfl rfl rfl rfl ?_
                              refine g_aload_n 16 (gd rfl) rfl rfl ?_
                              refine g_getI 19 (gd rfl) rfl rfl rfl (fun z167x16 e167x16 => ?_)
                              have q167x16 : z163b = z167x16 := (e163a).trans e167x16.symm
                              subst q167x16
                              refine g_iconst 1 20 (gd rfl) rfl rfl ?_
                              refine g_isub 21 (gd rfl) rfl (fun z167x20 e167x20 => ?_)
                              have i167x20 := in_sub 0 199 e167x20 i167x4 (in_c 1 rfl) rfl rfl
                              refine g_iaload 22 (gd rfl) rfl (n := 200) rfl (in_ix i167x20 rfl) (fun z167x21 e167x21 => ?_)
                              refine g_ireturn (gd rfl) rfl rfl (hp167 _ _ ?_)
                              show GG _ _ _ _ _ _ _ _ [.int z167x21] _ _ _
                              refine g_bipush 40 172 (gd rfl) rfl rfl ?_
                              refine g_cmp_eq 175 186 (gd rfl) rfl rfl (fun c172 => ?_) (fun c172 => ?_)
                              · skip
                                have i172 := r_eq1 40 40 c172 (i_rng z167x21) (in_c 40 rfl) rfl
                                refine g_aload_n 187 (gd rfl) rfl rfl ?_
                                have n187 : 1 ≤ (z163b).toInt := by have a0 := oa10 i158 ro_109_29 i12 ((inv_F hI 0 200 rfl e_109_111)) ((inv_F hI 0 400 rfl e_109_109)) h1 ((in_c 0 rfl)) i167x4 i163a i167x20; have a10 := t_sub e167x20 i167x4 (in_c 1 rfl) rfl; have a11 := in_u ((in_c 1 rfl)); omega
                                refine g_callv (X := _) (As := []) (r := []) (b := A 109) (q := 109) 190 (gd rfl) rfl rfl rfl rfl rfl (ww_o rfl) (Nat.le_of_ble_eq_true rfl) (Nat.zero_le _) (Nat.zero_le _) (k_397 (by first | exact dq1 hd rfl | exact dq0 hd rfl | exact dq2 hd rfl | exact dq3 hd rfl | omega) hI163 e163a n187) (fun e u h => h) (fun v u h => ?_)
                                obtain ⟨s187, hI187, hF187, n187a, rfl, rfl⟩ := h
                                obtain ⟨z187a, e187⟩ : ∃ w, w = s187.2.2.1 109 111 := ⟨_, rfl⟩
                                have i187a := inv_F hI187 0 200 rfl e187
                                rw [← (show z163b = s163.2.2.1 109 111 from e163a)] at n187a
                                rw [← (show z187a = s187.2.2.1 109 111 from e187)] at n187a
                                show GG _ _ _ _ _ _ _ _ [] _ _ _
                                refine g_aload_n 191 (gd rfl) rfl rfl ?_
                                have v191 : z163a = s187.2.2.1 109 109 := fr_F (e163) hF187 rfl
                                have n191 : (z163a).toInt + (z187a).toInt ≤ 120 := by have a0 := oa10 i158 ro_109_29 i12 ((inv_F hI 0 200 rfl e_109_111)) ((inv_F hI 0 400 rfl e_109_109)) h1 ((in_c 0 rfl)) i187a i163a i167x20; have a10 := t_sub e167x20 i167x4 (in_c 1 rfl) rfl; have a11 := oa2 ((in_c 1 rfl)) i167x4; omega
                                refine g_callv (X := _) (As := []) (r := []) (b := A 109) (q := 109) 194 (gd rfl) rfl rfl rfl rfl rfl (ww_o rfl) (Nat.le_of_ble_eq_true rfl) (Nat.zero_le _) (Nat.zero_le _) (k_400 (by first | exact dq1 hd rfl | exact dq0 hd rfl | exact dq2 hd rfl | exact dq3 hd rfl | omega) hI187 v191 e187 n191) (fun e u h => h) (fun v u h => ?_)
                                obtain ⟨s191, hI191, hF191, n191a, rfl, rfl, p191⟩ := h
                                obtain ⟨z191a, e191⟩ : ∃ w, w = s191.2.2.1 109 109 := ⟨_, rfl⟩
                                have i191a := inv_F hI191 0 400 rfl e191
                                obtain ⟨z191b, e191a⟩ : ∃ w, w = s191.2.2.1 109 111 := ⟨_, rfl⟩
                                have i191b := inv_F hI191 0 200 rfl e191a
                                rw [← (show z163a = s187.2.2.1 109 109 from fr_F (e163) hF187 rfl)] at n191a
                                rw [← (show z187a = s187.2.2.1 109 111 from e187)] at n191a
                                rw [← (show z191a = s191.2.2.1 109 109 from e191)] at n191a
                                rw [← (show z191b = s191.2.2.1 109 111 from e191a)] at n191a
                                show GG _ _ _ _ _ _ _ _ [] _ _ _
                                refine g_iconst 1 195 (gd rfl) rfl rfl ?_
                                have n195 : ((Int32.ofInt 1)).toInt = 0 → PR s s191 1 0 := by exact fun h => absurd h (by decide)
                                have n195a : ((Int32.ofInt 1)).toInt ≠ 0 → PR s s191 1 1 := by intro hR; first | (exact absurd rfl hR) | exact p26 | exact pr_tr p26 (pr_flt (hF59.1 187 rfl) (hF59.1 188 rfl) (hF59.2.2.1 109 109 rfl) (by rw [← e59]; omega)) | exact pr_tr p163 (pr_flt (hF181.1 187 rfl) (hF181.1 188 rfl) (hF181.2.2.1 109 109 rfl) (by rw [← e181]; omega)) | exact pr_flt (hF202.1 187 rfl) (hF202.1 188 rfl) (hF202.2.2.1 109 109 rfl) (by rw [← e202]; omega) | exact pr_tr p163 (pr_tr (pr_drop (x := z167x21) (b := z167x20) (hF187.1 187 rfl) (hF187.1 188 rfl) (hF187.2.2.1 109 109 rfl) (hF187.2.2.1 109 23 rfl) (hF187.1 190 rfl) (by rw [← e187]; have a0 := oa10 i158 ro_109_29 i12 ((inv_F hI 0 200 rfl e_109_111)) ((inv_F hI 0 400 rfl e_109_109)) h1 ((in_c 0 rfl)) i191b i191a i167x20; have a10 := t_sub e167x20 i167x4 (in_c 1 rfl) rfl; have a11 := oa2 ((in_c 1 rfl)) i167x4; omega) (by rw [← e163a]; have a0 := oa10 i158 ro_109_29 i12 ((inv_F hI 0 200 rfl e_109_111)) ((inv_F hI 0 400 rfl e_109_109)) h1 ((in_c 0 rfl)) i191b i191a i167x20; have a10 := t_sub e167x20 i167x4 (in_c 1 rfl) rfl; have a11 := oa2 ((in_c 1 rfl)) i167x4; omega) i167x20.1 e167x21 (Or.inr (c172.trans rfl))) p191)
                                have n195b : (s.2.2.1 109 28).toInt = 0 → ((Int32.ofInt 1)).toInt = 2 := by rw [← e_109_28]; intro h0; first | rfl | (exfalso; have a0 := oa10 i158 ro_109_29 i12 ((inv_F hI 0 200 rfl e_109_111)) ((inv_F hI 0 400 rfl e_109_109)) h1 ((in_c 0 rfl)) i191b i191a i167x20; have a10 := t_sub e167x20 i167x4 (in_c 1 rfl) rfl; have a11 := oa2 ((in_c 1 rfl)) i167x4; omega)
                                have n195c : (z191a).toInt + (z191b).toInt ≤ (u_109_109).toInt + (u_109_111).toInt + 1 := by have a0 := oa10 i158 ro_109_29 i12 ((inv_F hI 0 200 rfl e_109_111)) ((inv_F hI 0 400 rfl e_109_109)) h1 ((in_c 0 rfl)) i191b i191a i167x20; have a10 := t_sub e167x20 i167x4 (in_c 1 rfl) rfl; have a11 := oa2 ((in_c 1 rfl)) i167x4; omega
                                have n195d : (s191.2.2.1 109 109).toInt + (s191.2.2.1 109 111).toInt ≤ (s.2.2.1 109 109).toInt + (s.2.2.1 109 111).toInt + 1 := by have b0 : z191a = s191.2.2.1 109 109 := e191; have b1 : z191b = s191.2.2.1 109 111 := e191a; first | (rw [← b0, ← b1, ← e_109_109, ← e_109_111]; exact n195c) | (rw [← b0, ← b1]; exact n195c)
                                have n195e : (u_109_28).toInt = 0 → (z191a).toInt + (z191b).toInt = (u_109_109).toInt + (u_109_111).toInt := by have a0 := oa10 i158 ro_109_29 i12 ((inv_F hI 0 200 rfl e_109_111)) ((inv_F hI 0 400 rfl e_109_109)) h1 ((in_c 0 rfl)) i191b i191a i167x20; have a10 := t_sub e167x20 i167x4 (in_c 1 rfl) rfl; have a11 := oa2 ((in_c 1 rfl)) i167x4; omega
                                have n195f : (s.2.2.1 109 28).toInt = 0 → (s191.2.2.1 109 109).toInt + (s191.2.2.1 109 111).toInt = (s.2.2.1 109 109).toInt + (s.2.2.1 109 111).toInt := by have b0 : z191a = s191.2.2.1 109 109 := e191; have b1 : z191b = s191.2.2.1 109 111 := e191a; first | (rw [← b0, ← b1, ← e_109_28, ← e_109_109, ← e_109_111]; exact n195e) | (rw [← b0, ← b1]; exact n195e)
                                exact g_ireturn (gd rfl) rfl rfl (hP _ _ ⟨s191, hI191, (fr_tr rfl (fr_tr rfl (fr_tr rfl fr_rf hF163) hF187) hF191), n195d, n195f, (Int32.ofInt 1), rfl, rfl, in_w 0 2 (in_c 1 rfl) rfl, n195, n195a, n195b⟩)
                              · skip
                                refine g_aload_n 176 (gd rfl) rfl rfl ?_
                                refine g_iconst 2 177 (gd rfl) rfl rfl ?_
                                refine g_aload_n 178 (gd rfl) rfl rfl ?_
                                refine g_getI 181 (gd rfl) rfl rfl rfl (fun z178 e178 => ?_)
                                have q178 : u_109_29 = z178 := (fr_F (e_109_29) hF163 rfl).trans e178.symm
                                subst q178
                                refine g_callv (X := _) (As := [.int (Int32.ofInt 2), .int u_109_29]) (r := []) (b := A 109) (q := 109) 184 (gd rfl) rfl rfl rfl rfl rfl (ww_o rfl) (Nat.le_of_ble_eq_true rfl) (Nat.zero_le _) (Nat.zero_le _) (k_298 (by first | exact dq1 hd rfl | exact dq0 hd rfl | exact dq2 hd rfl | exact dq3 hd rfl | omega) hI163 (in_w 1 5 (in_c 2 rfl) rfl)) (fun e u h => h) (fun v u h => ?_)
                                obtain ⟨s181, hI181, hF181, n181, rfl, rfl⟩ := h
                                obtain ⟨z181a, e181⟩ : ∃ w, w = s181.2.2.1 109 23 := ⟨_, rfl⟩
                                have i181a := inv_F hI181 0 9 rfl e181
                                rw [← (show z181a = s181.2.2.1 109 23 from e181)] at n181
                                show GG _ _ _ _ _ _ _ _ [] _ _ _
                                refine g_iconst 1 185 (gd rfl) rfl rfl ?_
                                have n185 : ((Int32.ofInt 1)).toInt = 0 → PR s s181 1 0 := by exact fun h => absurd h (by decide)
                                have n185a : ((Int32.ofInt 1)).toInt ≠ 0 → PR s s181 1 1 := by intro hR; first | (exact absurd rfl hR) | exact p26 | exact pr_tr p26 (pr_flt (hF59.1 187 rfl) (hF59.1 188 rfl) (hF59.2.2.1 109 109 rfl) (by rw [← e59]; omega)) | exact pr_tr p163 (pr_flt (hF181.1 187 rfl) (hF181.1 188 rfl) (hF181.2.2.1 109 109 rfl) (by rw [← e181]; omega)) | exact pr_flt (hF202.1 187 rfl) (hF202.1 188 rfl) (hF202.2.2.1 109 109 rfl) (by rw [← e202]; omega) | exact pr_tr p163 (pr_tr (pr_drop (x := z167x21) (b := z167x20) (hF187.1 187 rfl) (hF187.1 188 rfl) (hF187.2.2.1 109 109 rfl) (hF187.2.2.1 109 23 rfl) (hF187.1 190 rfl) (by rw [← e187]; have a0 := oa11 i158 ro_109_29 i12 ((inv_F hI 0 200 rfl e_109_111)) ((inv_F hI 0 400 rfl e_109_109)) h1 ((in_c 0 rfl)) i181a i167x4 i163a i167x20; have a11 := t_sub e167x20 i167x4 (in_c 1 rfl) rfl; have a12 := in_u ((in_c 1 rfl)); omega) (by rw [← e163a]; have a0 := oa11 i158 ro_109_29 i12 ((inv_F hI 0 200 rfl e_109_111)) ((inv_F hI 0 400 rfl e_109_109)) h1 ((in_c 0 rfl)) i181a i167x4 i163a i167x20; have a11 := t_sub e167x20 i167x4 (in_c 1 rfl) rfl; have a12 := in_u ((in_c 1 rfl)); omega) i167x20.1 e167x21 (Or.inr (c172.trans rfl))) p191)
                                have n185b : (s.2.2.1 109 28).toInt = 0 → ((Int32.ofInt 1)).toInt = 2 := by rw [← e_109_28]; intro h0; first | rfl | (exfalso; have a0 := oa11 i158 ro_109_29 i12 ((inv_F hI 0 200 rfl e_109_111)) ((inv_F hI 0 400 rfl e_109_109)) h1 ((in_c 0 rfl)) i181a i167x4 i163a i167x20; have a11 := t_sub e167x20 i167x4 (in_c 1 rfl) rfl; have a12 := in_u ((in_c 1 rfl)); omega)
                                have n185c : (z163a).toInt + (z163b).toInt ≤ (u_109_109).toInt + (u_109_111).toInt + 1 := by have a0 := oa11 i158 ro_109_29 i12 ((inv_F hI 0 200 rfl e_109_111)) ((inv_F hI 0 400 rfl e_109_109)) h1 ((in_c 0 rfl)) i181a i167x4 i163a i167x20; have a11 := t_sub e167x20 i167x4 (in_c 1 rfl) rfl; have a12 := in_u ((in_c 1 rfl)); omega
                                have n185d : (s181.2.2.1 109 109).toInt + (s181.2.2.1 109 111).toInt ≤ (s.2.2.1 109 109).toInt + (s.2.2.1 109 111).toInt + 1 := by have b0 : z163a = s181.2.2.1 109 109 := fr_F (e163) hF181 rfl; have b1 : z163b = s181.2.2.1 109 111 := fr_F (e163a) hF181 rfl; first | (rw [← b0, ← b1, ← e_109_109, ← e_109_111]; exact n185c) | (rw [← b0, ← b1]; exact n185c)
                                have n185e : (u_109_28).toInt = 0 → (z163a).toInt + (z163b).toInt = (u_109_109).toInt + (u_109_111).toInt := by have a0 := oa11 i158 ro_109_29 i12 ((inv_F hI 0 200 rfl e_109_111)) ((inv_F hI 0 400 rfl e_109_109)) h1 ((in_c 0 rfl)) i181a i167x4 i163a i167x20; have a11 := t_sub e167x20 i167x4 (in_c 1 rfl) rfl; have a12 := in_u ((in_c 1 rfl)); omega
                                have n185f : (s.2.2.1 109 28).toInt = 0 → (s181.2.2.1 109 109).toInt + (s181.2.2.1 109 111).toInt = (s.2.2.1 109 109).toInt + (s.2.2.1 109 111).toInt := by have b0 : z163a = s181.2.2.1 109 109 := fr_F (e163) hF181 rfl; have b1 : z163b = s181.2.2.1 109 111 := fr_F (e163a) hF181 rfl; first | (rw [← b0, ← b1, ← e_109_28, ← e_109_109, ← e_109_111]; exact n185e) | (rw [← b0, ← b1]; exact n185e)
                                exact g_ireturn (gd rfl) rfl rfl (hP _ _ ⟨s181, hI181, (fr_tr rfl (fr_tr rfl fr_rf hF163) hF181), n185d, n185f, (Int32.ofInt 1), rfl, rfl, in_w 0 2 (in_c 1 rfl) rfl, n185, n185a, n185b⟩)
                            · skip
                              have i167x4 := z_eq 0 0 c167x4 i163b rfl
                              refine g_iconst 0 8 (gd rfl) rfl rfl ?_
                              refine g_goto 22 (gd rfl) rfl ?_
                              refine g_ireturn (gd rfl) rfl rfl (hp167 _ _ ?_)
                              show GG _ _ _ _ _ _ _ _ [.int (Int32.ofInt 0)] _ _ _
                              refine g_bipush 40 172 (gd rfl) rfl rfl ?_
                              refine g_cmp_eq 175 186 (gd rfl) rfl rfl (fun c172 => ?_) (fun c172 => ?_)
                              · skip
                                exact n_eq c172 (in_c 0 rfl) (in_c 40 rfl) rfl
                              · skip
                                refine g_aload_n 176 (gd rfl) rfl rfl ?_
                                refine g_iconst 2 177 (gd rfl) rfl rfl ?_
                                refine g_aload_n 178 (gd rfl) rfl rfl ?_
                                refine g_getI 181 (gd rfl) rfl rfl rfl (fun z178 e178 => ?_)
                                have q178 : u_109_29 = z178 := (fr_F (e_109_29) hF163 rfl).trans e178.symm
                                subst q178
                                refine g_callv (X := _) (As := [.int (Int32.ofInt 2), .int u_109_29]) (r := []) (b := A 109) (q := 109) 184 (gd rfl) rfl rfl rfl rfl rfl (ww_o rfl) (Nat.le_of_ble_eq_true rfl) (Nat.zero_le _) (Nat.zero_le _) (k_298 (by first | exact dq1 hd rfl | exact dq0 hd rfl | exact dq2 hd rfl | exact dq3 hd rfl | omega) hI163 (in_w 1 5 (in_c 2 rfl) rfl)) (fun e u h => h) (fun v u h => ?_)
                                obtain ⟨s181, hI181, hF181, n181, rfl, rfl⟩ := h
                                obtain ⟨z181a, e181⟩ : ∃ w, w = s181.2.2.1 109 23 := ⟨_, rfl⟩
                                have i181a := inv_F hI181 0 9 rfl e181
                                rw [← (show z181a = s181.2.2.1 109 23 from e181)] at n181
                                show GG _ _ _ _ _ _ _ _ [] _ _ _
                                refine g_iconst 1 185 (gd rfl) rfl rfl ?_
                                have n185 : ((Int32.ofInt 1)).toInt = 0 → PR s s181 1 0 := by exact fun h => absurd h (by decide)
                                have n185a : ((Int32.ofInt 1)).toInt ≠ 0 → PR s s181 1 1 := by intro hR; first | (exact absurd rfl hR) | exact p26 | exact pr_tr p26 (pr_flt (hF59.1 187 rfl) (hF59.1 188 rfl) (hF59.2.2.1 109 109 rfl) (by rw [← e59]; omega)) | exact pr_tr p163 (pr_flt (hF181.1 187 rfl) (hF181.1 188 rfl) (hF181.2.2.1 109 109 rfl) (by rw [← e181]; omega)) | exact pr_flt (hF202.1 187 rfl) (hF202.1 188 rfl) (hF202.2.2.1 109 109 rfl) (by rw [← e202]; omega) | exact pr_tr p163 (pr_tr (pr_drop (x := z167x21) (b := z167x20) (hF187.1 187 rfl) (hF187.1 188 rfl) (hF187.2.2.1 109 109 rfl) (hF187.2.2.1 109 23 rfl) (hF187.1 190 rfl) (by rw [← e187]; have a0 := oa10 i158 ro_109_29 i12 ((inv_F hI 0 200 rfl e_109_111)) ((inv_F hI 0 400 rfl e_109_109)) h1 ((in_c 0 rfl)) i181a i167x4 i163a; omega) (by rw [← e163a]; have a0 := oa10 i158 ro_109_29 i12 ((inv_F hI 0 200 rfl e_109_111)) ((inv_F hI 0 400 rfl e_109_109)) h1 ((in_c 0 rfl)) i181a i167x4 i163a; omega) i167x20.1 e167x21 (Or.inr (c172.trans rfl))) p191)
                                have n185b : (s.2.2.1 109 28).toInt = 0 → ((Int32.ofInt 1)).toInt = 2 := by rw [← e_109_28]; intro h0; first | rfl | (exfalso; have a0 := oa10 i158 ro_109_29 i12 ((inv_F hI 0 200 rfl e_109_111)) ((inv_F hI 0 400 rfl e_109_109)) h1 ((in_c 0 rfl)) i181a i167x4 i163a; omega)
                                have n185c : (z163a).toInt + (z163b).toInt ≤ (u_109_109).toInt + (u_109_111).toInt + 1 := by have a0 := oa10 i158 ro_109_29 i12 ((inv_F hI 0 200 rfl e_109_111)) ((inv_F hI 0 400 rfl e_109_109)) h1 ((in_c 0 rfl)) i181a i167x4 i163a; omega
                                have n185d : (s181.2.2.1 109 109).toInt + (s181.2.2.1 109 111).toInt ≤ (s.2.2.1 109 109).toInt + (s.2.2.1 109 111).toInt + 1 := by have b0 : z163a = s181.2.2.1 109 109 := fr_F (e163) hF181 rfl; have b1 : z163b = s181.2.2.1 109 111 := fr_F (e163a) hF181 rfl; first | (rw [← b0, ← b1, ← e_109_109, ← e_109_111]; exact n185c) | (rw [← b0, ← b1]; exact n185c)
                                have n185e : (u_109_28).toInt = 0 → (z163a).toInt + (z163b).toInt = (u_109_109).toInt + (u_109_111).toInt := by have a0 := oa10 i158 ro_109_29 i12 ((inv_F hI 0 200 rfl e_109_111)) ((inv_F hI 0 400 rfl e_109_109)) h1 ((in_c 0 rfl)) i181a i167x4 i163a; omega
                                have n185f : (s.2.2.1 109 28).toInt = 0 → (s181.2.2.1 109 109).toInt + (s181.2.2.1 109 111).toInt = (s.2.2.1 109 109).toInt + (s.2.2.1 109 111).toInt := by have b0 : z163a = s181.2.2.1 109 109 := fr_F (e163) hF181 rfl; have b1 : z163b = s181.2.2.1 109 111 := fr_F (e163a) hF181 rfl; first | (rw [← b0, ← b1, ← e_109_28, ← e_109_109, ← e_109_111]; exact n185e) | (rw [← b0, ← b1]; exact n185e)
                                exact g_ireturn (gd rfl) rfl rfl (hP _ _ ⟨s181, hI181, (fr_tr rfl (fr_tr rfl fr_rf hF163) hF181), n185d, n185f, (Int32.ofInt 1), rfl, rfl, in_w 0 2 (in_c 1 rfl) rfl, n185, n185a, n185b⟩)
                      · skip
                        exact n_eq c106 (in_c 0 rfl) (in_c 1 rfl) rfl
                    · skip
                      exact n_lt c86 (in_c 1 rfl) (in_c 0 rfl) rfl
                  · skip
                    have i76x35 := r_eq1 61 61 c76x35 (i_rng u_109_30) (in_c 61 rfl) rfl
                    refine g_iconst 1 39 (gd rfl) rfl rfl ?_
                    refine g_goto 43 (gd rfl) rfl ?_
                    refine g_ireturn (gd rfl) rfl rfl (hp76 _ _ ?_)
                    show GG _ _ _ _ _ _ _ _ [.int (Int32.ofInt 1)] _ _ _
                    refine g_goto 83 (gd rfl) rfl ?_
                    refine g_istore_n 84 (gd rfl) rfl (Nat.le_of_ble_eq_true rfl) ?_
                    refine g_iload_n 85 (gd rfl) rfl rfl ?_
                    refine g_iconst 1 86 (gd rfl) rfl rfl ?_
                    refine g_cmp_le 89 104 (gd rfl) rfl rfl (fun c86 => ?_) (fun c86 => ?_)
                    · skip
                      refine g_iload_n 105 (gd rfl) rfl rfl ?_
                      refine g_iconst 1 106 (gd rfl) rfl rfl ?_
                      refine g_cmp_ne 109 144 (gd rfl) rfl rfl (fun c106 => ?_) (fun c106 => ?_)
                      · skip
                        exact n_ne c106 (in_c 1 rfl) (in_c 1 rfl) rfl
                      · skip
                        refine g_aload_n 110 (gd rfl) rfl rfl ?_
                        refine g_iconst 2 111 (gd rfl) rfl rfl ?_
                        have n111 : (u_109_109).toInt + (u_109_111).toInt ≤ 120 := by have a0 := oa7 i76x35 ro_109_29 i12 ((inv_F hI 0 200 rfl e_109_111)) ((inv_F hI 0 400 rfl e_109_109)) h1 ((in_c 1 rfl)); omega
                        refine g_callv (X := _) (As := [.int (Int32.ofInt 2)]) (r := []) (b := A 109) (q := 109) 114 (gd rfl) rfl rfl rfl rfl rfl (ww_o rfl) (Nat.le_of_ble_eq_true rfl) (Nat.zero_le _) (Nat.zero_le _) (k_399 (by first | exact dq1 hd rfl | exact dq0 hd rfl | exact dq2 hd rfl | exact dq3 hd rfl | omega) hI (in_w 1 3 (in_c 2 rfl) rfl) e_109_109 e_109_111 n111) (fun e u h => h) (fun v u h => ?_)
                        obtain ⟨s111, hI111, hF111, n111a, rfl, rfl, p111⟩ := h
                        obtain ⟨z111a, e111⟩ : ∃ w, w = s111.2.2.1 109 109 := ⟨_, rfl⟩
                        have i111a := inv_F hI111 0 400 rfl e111
                        obtain ⟨z111b, e111a⟩ : ∃ w, w = s111.2.2.1 109 111 := ⟨_, rfl⟩
                        have i111b := inv_F hI111 0 200 rfl e111a
                        rw [← (show u_109_109 = s.2.2.1 109 109 from e_109_109)] at n111a
                        rw [← (show u_109_111 = s.2.2.1 109 111 from e_109_111)] at n111a
                        rw [← (show z111a = s111.2.2.1 109 109 from e111)] at n111a
                        rw [← (show z111b = s111.2.2.1 109 111 from e111a)] at n111a
                        show GG _ _ _ _ _ _ _ _ [] _ _ _
                        refine g_aload_n 115 (gd rfl) rfl rfl ?_
                        refine g_callv (X := _) (As := []) (r := []) (b := A 109) (q := 109) 118 (gd rfl) rfl rfl rfl rfl rfl (ww_o rfl) (Nat.le_of_ble_eq_true rfl) (mc := 0) (ms := 0) (Nat.zero_le _) (Nat.zero_le _) (P := fun v u => _) ?_ (fun e u h => h) (fun v u h => h)
                        intro po115 xx115 hp115 hx115
                        refine g_enter2 (k := 395) (N := 300) (by first | exact dq1 hd rfl | exact dq0 hd rfl | exact dq2 hd rfl | exact dq3 hd rfl | omega) rfl (Nat.le_of_ble_eq_true rfl) ?_
                        refine g_aload_n 1 (gd rfl) rfl rfl ?_
                        refine g_getI 4 (gd rfl) rfl rfl rfl (fun z115x1 e115x1 => ?_)
                        have q115x1 : z111b = z115x1 := (e111a).trans e115x1.symm
                        subst q115x1
                        refine g_if_ne 7 11 (gd rfl) rfl rfl (fun c115x4 => ?_) (fun c115x4 => ?_)
                        · skip
                          have i115x4 := z_ne 1 200 c115x4 i111b rfl
                          refine g_aload_n 12 (gd rfl) rfl rfl ?_
                          refine g_getA (q2 := 190) 15 (gd rfl) rfl rfl rfl rfl ?_
                          refine g_aload_n 16 (gd rfl) rfl rfl ?_
                          refine g_getI 19 (gd rfl) rfl rfl rfl (fun z115x16 e115x16 => ?_)
                          have q115x16 : z111b = z115x16 := (e111a).trans e115x16.symm
                          subst q115x16
                          refine g_iconst 1 20 (gd rfl) rfl rfl ?_
                          refine g_isub 21 (gd rfl) rfl (fun z115x20 e115x20 => ?_)
                          have i115x20 := in_sub 0 199 e115x20 i115x4 (in_c 1 rfl) rfl rfl
                          refine g_iaload 22 (gd rfl) rfl (n := 200) rfl (in_ix i115x20 rfl) (fun z115x21 e115x21 => ?_)
                          refine g_ireturn (gd rfl) rfl rfl (hp115 _ _ ?_)
                          show GG _ _ _ _ _ _ _ _ [.int z115x21] _ _ _
                          refine g_calls (As := [.int z115x21]) (r := []) 121 (gd rfl) rfl rfl rfl rfl rfl (Nat.le_of_ble_eq_true rfl) (mc := 0) (ms := 0) (Nat.zero_le _) (Nat.zero_le _) (P := fun v u => _) ?_ (fun v u h => h)
                          intro po118 xx118 hp118 hx118
                          refine g_enter2 (k := 398) (N := 300) (by first | exact dq1 hd rfl | exact dq0 hd rfl | exact dq2 hd rfl | exact dq3 hd rfl | omega) rfl (Nat.le_of_ble_eq_true rfl) ?_
                          refine g_iload_n 1 (gd rfl) rfl rfl ?_
                          refine g_bipush 42 3 (gd rfl) rfl rfl ?_
                          refine g_cmp_ne 6 10 (gd rfl) rfl rfl (fun c118x3 => ?_) (fun c118x3 => ?_)
                          · skip
                            refine g_iload_n 11 (gd rfl) rfl rfl ?_
                            refine g_bipush 43 13 (gd rfl) rfl rfl ?_
                            refine g_cmp_eq 16 22 (gd rfl) rfl rfl (fun c118x13 => ?_) (fun c118x13 => ?_)
                            · skip
                              have i118x13 := r_eq1 43 43 c118x13 (i_rng z115x21) (in_c 43 rfl) rfl
                              refine g_iconst 2 23 (gd rfl) rfl rfl ?_
                              refine g_goto 43 (gd rfl) rfl ?_
                              refine g_ireturn (gd rfl) rfl rfl (hp118 _ _ ?_)
                              show GG _ _ _ _ _ _ _ _ [.int (Int32.ofInt 2)] _ _ _
                              refine g_iconst 1 122 (gd rfl) rfl rfl ?_
                              refine g_cmp_ne 125 134 (gd rfl) rfl rfl (fun c122 => ?_) (fun c122 => ?_)
                              · skip
                                refine g_aload_n 135 (gd rfl) rfl rfl ?_
                                refine g_aload_n 136 (gd rfl) rfl rfl ?_
                                refine g_getI 139 (gd rfl) rfl rfl rfl (fun z136 e136 => ?_)
                                have q136 : u_109_30 = z136 := (fr_F (e_109_30) hF111 rfl).trans e136.symm
                                subst q136
                                have n139 : (z111b).toInt ≤ 199 := by have a0 := oa10 i76x35 ro_109_29 i12 ((inv_F hI 0 200 rfl e_109_111)) ((inv_F hI 0 400 rfl e_109_109)) h1 ((in_c 1 rfl)) i115x4 i111a i115x20; have a10 := t_sub e115x20 i115x4 (in_c 1 rfl) rfl; omega
                                refine g_callv (X := _) (As := [.int u_109_30]) (r := []) (b := A 109) (q := 109) 142 (gd rfl) rfl rfl rfl rfl rfl (ww_o rfl) (Nat.le_of_ble_eq_true rfl) (Nat.zero_le _) (Nat.zero_le _) (k_396 (by first | exact dq1 hd rfl | exact dq0 hd rfl | exact dq2 hd rfl | exact dq3 hd rfl | omega) hI111 e111a n139) (fun e u h => h) (fun v u h => ?_)
                                obtain ⟨s139, hI139, hF139, n139a, rfl, rfl, p139⟩ := h
                                obtain ⟨z139a, e139⟩ : ∃ w, w = s139.2.2.1 109 111 := ⟨_, rfl⟩
                                have i139a := inv_F hI139 0 200 rfl e139
                                rw [← (show z111b = s111.2.2.1 109 111 from e111a)] at n139a
                                rw [← (show z139a = s139.2.2.1 109 111 from e139)] at n139a
                                show GG _ _ _ _ _ _ _ _ [] _ _ _
                                refine g_iconst 0 143 (gd rfl) rfl rfl ?_
                                have n143 : ((Int32.ofInt 0)).toInt = 0 → PR s s139 1 0 := by intro hR; first | (exfalso; revert hR; decide) | exact pr_tr p91 (pr_hold (hF99.1 187 rfl) (hF99.1 188 rfl) (hF99.2.2.1 109 109 rfl) (hF99.2.2.1 109 23 rfl) p99 (by rw [← e99, ← e91a]; exact n99a) (inv_F hI91 0 200 rfl rfl).1 (Or.inr ⟨by first | (have hi := i76x3; unfold In at hi; omega) | (have hi := i76x13; unfold In at hi; omega) | (have hi := i76x19; unfold In at hi; omega) | (have hi := i76x29; unfold In at hi; omega) | (have hi := i76x35; unfold In at hi; omega), rfl⟩)) | exact pr_tr p111 (pr_hold (hF139.1 187 rfl) (hF139.1 188 rfl) (hF139.2.2.1 109 109 rfl) (hF139.2.2.1 109 23 rfl) p139 (by rw [← e139, ← e111a]; exact n139a) (inv_F hI111 0 200 rfl rfl).1 (Or.inr ⟨by first | (have hi := i76x3; unfold In at hi; omega) | (have hi := i76x13; unfold In at hi; omega) | (have hi := i76x19; unfold In at hi; omega) | (have hi := i76x29; unfold In at hi; omega) | (have hi := i76x35; unfold In at hi; omega), rfl⟩)) | exact pr_tr p111 (pr_tr (b := 1) (pr_flt (hF131.1 187 rfl) (hF131.1 188 rfl) (hF131.2.2.1 109 109 rfl) (by rw [← e131]; omega)) (pr_hold (hF139.1 187 rfl) (hF139.1 188 rfl) (hF139.2.2.1 109 109 rfl) (hF139.2.2.1 109 23 rfl) p139 (by rw [← e139, ← (show z111b = s131.2.2.1 109 111 from fr_F e111a hF131 rfl)]; exact n139a) (inv_F hI131 0 200 rfl rfl).1 (Or.inr ⟨by first | (have hi := i76x3; unfold In at hi; omega) | (have hi := i76x13; unfold In at hi; omega) | (have hi := i76x19; unfold In at hi; omega) | (have hi := i76x29; unfold In at hi; omega) | (have hi := i76x35; unfold In at hi; omega), rfl⟩)))
                                have n143a : ((Int32.ofInt 0)).toInt ≠ 0 → PR s s139 1 1 := by exact fun h => absurd rfl h
                                have n143b : (s.2.2.1 109 28).toInt = 0 → ((Int32.ofInt 0)).toInt = 2 := by rw [← e_109_28]; intro h0; first | rfl | (exfalso; have a0 := oa10 i76x35 ro_109_29 i12 ((inv_F hI 0 200 rfl e_109_111)) ((inv_F hI 0 400 rfl e_109_109)) h1 ((in_c 1 rfl)) i139a i111a i115x20; have a10 := t_sub e115x20 i115x4 (in_c 1 rfl) rfl; have a11 := in_u i115x4; omega)
                                have n143c : (z111a).toInt + (z139a).toInt ≤ (u_109_109).toInt + (u_109_111).toInt + 1 := by have a0 := oa10 i76x35 ro_109_29 i12 ((inv_F hI 0 200 rfl e_109_111)) ((inv_F hI 0 400 rfl e_109_109)) h1 ((in_c 1 rfl)) i139a i111a i115x20; have a10 := t_sub e115x20 i115x4 (in_c 1 rfl) rfl; have a11 := in_u i115x4; omega
                                have n143d : (s139.2.2.1 109 109).toInt + (s139.2.2.1 109 111).toInt ≤ (s.2.2.1 109 109).toInt + (s.2.2.1 109 111).toInt + 1 := by have b0 : z111a = s139.2.2.1 109 109 := fr_F (e111) hF139 rfl; have b1 : z139a = s139.2.2.1 109 111 := e139; first | (rw [← b0, ← b1, ← e_109_109, ← e_109_111]; exact n143c) | (rw [← b0, ← b1]; exact n143c)
                                have n143e : (u_109_28).toInt = 0 → (z111a).toInt + (z139a).toInt = (u_109_109).toInt + (u_109_111).toInt := by have a0 := oa10 i76x35 ro_109_29 i12 ((inv_F hI 0 200 rfl e_109_111)) ((inv_F hI 0 400 rfl e_109_109)) h1 ((in_c 1 rfl)) i139a i111a i115x20; have a10 := t_sub e115x20 i115x4 (in_c 1 rfl) rfl; have a11 := in_u i115x4; omega
                                have n143f : (s.2.2.1 109 28).toInt = 0 → (s139.2.2.1 109 109).toInt + (s139.2.2.1 109 111).toInt = (s.2.2.1 109 109).toInt + (s.2.2.1 109 111).toInt := by have b0 : z111a = s139.2.2.1 109 109 := fr_F (e111) hF139 rfl; have b1 : z139a = s139.2.2.1 109 111 := e139; first | (rw [← b0, ← b1, ← e_109_28, ← e_109_109, ← e_109_111]; exact n143e) | (rw [← b0, ← b1]; exact n143e)
                                exact g_ireturn (gd rfl) rfl rfl (hP _ _ ⟨s139, hI139, (fr_tr rfl (fr_tr rfl fr_rf hF111) hF139), n143d, n143f, (Int32.ofInt 0), rfl, rfl, in_w 0 2 (in_c 0 rfl) rfl, n143, n143a, n143b⟩)
                              · skip
                                exact n_eq c122 (in_c 2 rfl) (in_c 1 rfl) rfl
                            · skip
                              refine g_iload_n 17 (gd rfl) rfl rfl ?_
                              refine g_bipush 45 19 (gd rfl) rfl rfl ?_
                              refine g_cmp_ne 22 26 (gd rfl) rfl rfl (fun c118x19 => ?_) (fun c118x19 => ?_)
                              · skip
                                refine g_iload_n 27 (gd rfl) rfl rfl ?_
                                refine g_bipush 60 29 (gd rfl) rfl rfl ?_
                                refine g_cmp_eq 32 38 (gd rfl) rfl rfl (fun c118x29 => ?_) (fun c118x29 => ?_)
                                · skip
                                  have i118x29 := r_eq1 60 60 c118x29 (i_rng z115x21) (in_c 60 rfl) rfl
                                  refine g_iconst 1 39 (gd rfl) rfl rfl ?_
                                  refine g_goto 43 (gd rfl) rfl ?_
                                  refine g_ireturn (gd rfl) rfl rfl (hp118 _ _ ?_)
                                  show GG _ _ _ _ _ _ _ _ [.int (Int32.ofInt 1)] _ _ _
                                  refine g_iconst 1 122 (gd rfl) rfl rfl ?_
                                  refine g_cmp_ne 125 134 (gd rfl) rfl rfl (fun c122 => ?_) (fun c122 => ?_)
                                  · skip
                                    exact n_ne c122 (in_c 1 rfl) (in_c 1 rfl) rfl
                                  · skip
                                    refine g_aload_n 126 (gd rfl) rfl rfl ?_
                                    refine g_iconst 2 127 (gd rfl) rfl rfl ?_
                                    refine g_aload_n 128 (gd rfl) rfl rfl ?_
                                    refine g_getI 131 (gd rfl) rfl rfl rfl (fun z128 e128 => ?_)
                                    have q128 : u_109_29 = z128 := (fr_F (e_109_29) hF111 rfl).trans e128.symm
                                    subst q128
                                    refine g_callv (X := _) (As := [.int (Int32.ofInt 2), .int u_109_29]) (r := []) (b := A 109) (q := 109) 134 (gd rfl) rfl rfl rfl rfl rfl (ww_o rfl) (Nat.le_of_ble_eq_true rfl) (Nat.zero_le _) (Nat.zero_le _) (k_298 (by first | exact dq1 hd rfl | exact dq0 hd rfl | exact dq2 hd rfl | exact dq3 hd rfl | omega) hI111 (in_w 1 5 (in_c 2 rfl) rfl)) (fun e u h => h) (fun v u h => ?_)
                                    obtain ⟨s131, hI131, hF131, n131, rfl, rfl⟩ := h
                                    obtain ⟨z131a, e131⟩ : ∃ w, w = s131.2.2.1 109 23 := ⟨_, rfl⟩
                                    have i131a := inv_F hI131 0 9 rfl e131
                                    rw [← (show z131a = s131.2.2.1 109 23 from e131)] at n131
                                    show GG _ _ _ _ _ _ _ _ [] _ _ _
                                    refine g_aload_n 135 (gd rfl) rfl rfl ?_
                                    refine g_aload_n 136 (gd rfl) rfl rfl ?_
                                    refine g_getI 139 (gd rfl) rfl rfl rfl (fun z136 e136 => ?_)
                                    have q136 : u_109_30 = z136 := (fr_F (fr_F (e_109_30) hF111 rfl) hF131 rfl).trans e136.symm
                                    subst q136
                                    have v139 : z111b = s131.2.2.1 109 111 := fr_F (e111a) hF131 rfl
                                    have n139 : (z111b).toInt ≤ 199 := by have a0 := oa11 i76x35 ro_109_29 i12 ((inv_F hI 0 200 rfl e_109_111)) ((inv_F hI 0 400 rfl e_109_109)) h1 ((in_c 1 rfl)) i131a i115x4 i111a i115x20; have a11 := t_sub e115x20 i115x4 (in_c 1 rfl) rfl; omega
                                    refine g_callv (X := _) (As := [.int u_109_30]) (r := []) (b := A 109) (q := 109) 142 (gd rfl) rfl rfl rfl rfl rfl (ww_o rfl) (Nat.le_of_ble_eq_true rfl) (Nat.zero_le _) (Nat.zero_le _) (k_396 (by first | exact dq1 hd rfl | exact dq0 hd rfl | exact dq2 hd rfl | exact dq3 hd rfl | omega) hI131 v139 n139) (fun e u h => h) (fun v u h => ?_)
                                    obtain ⟨s139, hI139, hF139, n139a, rfl, rfl, p139⟩ := h
                                    obtain ⟨z139a, e139⟩ : ∃ w, w = s139.2.2.1 109 111 := ⟨_, rfl⟩
                                    have i139a := inv_F hI139 0 200 rfl e139
                                    rw [← (show z111b = s131.2.2.1 109 111 from fr_F (e111a) hF131 rfl)] at n139a
                                    rw [← (show z139a = s139.2.2.1 109 111 from e139)] at n139a
                                    show GG _ _ _ _ _ _ _ _ [] _ _ _
                                    refine g_iconst 0 143 (gd rfl) rfl rfl ?_
                                    have n143 : ((Int32.ofInt 0)).toInt = 0 → PR s s139 1 0 := by intro hR; first | (exfalso; revert hR; decide) | exact pr_tr p91 (pr_hold (hF99.1 187 rfl) (hF99.1 188 rfl) (hF99.2.2.1 109 109 rfl) (hF99.2.2.1 109 23 rfl) p99 (by rw [← e99, ← e91a]; exact n99a) (inv_F hI91 0 200 rfl rfl).1 (Or.inr ⟨by first | (have hi := i76x3; unfold In at hi; omega) | (have hi := i76x13; unfold In at hi; omega) | (have hi := i76x19; unfold In at hi; omega) | (have hi := i76x29; unfold In at hi; omega) | (have hi := i76x35; unfold In at hi; omega), rfl⟩)) | exact pr_tr p111 (pr_hold (hF139.1 187 rfl) (hF139.1 188 rfl) (hF139.2.2.1 109 109 rfl) (hF139.2.2.1 109 23 rfl) p139 (by rw [← e139, ← e111a]; exact n139a) (inv_F hI111 0 200 rfl rfl).1 (Or.inr ⟨by first | (have hi := i76x3; unfold In at hi; omega) | (have hi := i76x13; unfold In at hi; omega) | (have hi := i76x19; unfold In at hi; omega) | (have hi := i76x29; unfold In at hi; omega) | (have hi := i76x35; unfold In at hi; omega), rfl⟩)) | exact pr_tr p111 (pr_tr (b := 1) (pr_flt (hF131.1 187 rfl) (hF131.1 188 rfl) (hF131.2.2.1 109 109 rfl) (by rw [← e131]; omega)) (pr_hold (hF139.1 187 rfl) (hF139.1 188 rfl) (hF139.2.2.1 109 109 rfl) (hF139.2.2.1 109 23 rfl) p139 (by rw [← e139, ← (show z111b = s131.2.2.1 109 111 from fr_F e111a hF131 rfl)]; exact n139a) (inv_F hI131 0 200 rfl rfl).1 (Or.inr ⟨by first | (have hi := i76x3; unfold In at hi; omega) | (have hi := i76x13; unfold In at hi; omega) | (have hi := i76x19; unfold In at hi; omega) | (have hi := i76x29; unfold In at hi; omega) | (have hi := i76x35; unfold In at hi; omega), rfl⟩)))
                                    have n143a : ((Int32.ofInt 0)).toInt ≠ 0 → PR s s139 1 1 := by exact fun h => absurd rfl h
                                    have n143b : (s.2.2.1 109 28).toInt = 0 → ((Int32.ofInt 0)).toInt = 2 := by rw [← e_109_28]; intro h0; first | rfl | (exfalso; have a0 := oa11 i76x35 ro_109_29 i12 ((inv_F hI 0 200 rfl e_109_111)) ((inv_F hI 0 400 rfl e_109_109)) h1 ((in_c 1 rfl)) i139a i131a i111a i115x20; have a11 := t_sub e115x20 i115x4 (in_c 1 rfl) rfl; have a12 := in_u i115x4; omega)
                                    have n143c : (z111a).toInt + (z139a).toInt ≤ (u_109_109).toInt + (u_109_111).toInt + 1 := by have a0 := oa11 i76x35 ro_109_29 i12 ((inv_F hI 0 200 rfl e_109_111)) ((inv_F hI 0 400 rfl e_109_109)) h1 ((in_c 1 rfl)) i139a i131a i111a i115x20; have a11 := t_sub e115x20 i115x4 (in_c 1 rfl) rfl; have a12 := in_u i115x4; omega
                                    have n143d : (s139.2.2.1 109 109).toInt + (s139.2.2.1 109 111).toInt ≤ (s.2.2.1 109 109).toInt + (s.2.2.1 109 111).toInt + 1 := by have b0 : z111a = s139.2.2.1 109 109 := fr_F (fr_F (e111) hF131 rfl) hF139 rfl; have b1 : z139a = s139.2.2.1 109 111 := e139; first | (rw [← b0, ← b1, ← e_109_109, ← e_109_111]; exact n143c) | (rw [← b0, ← b1]; exact n143c)
                                    have n143e : (u_109_28).toInt = 0 → (z111a).toInt + (z139a).toInt = (u_109_109).toInt + (u_109_111).toInt := by have a0 := oa11 i76x35 ro_109_29 i12 ((inv_F hI 0 200 rfl e_109_111)) ((inv_F hI 0 400 rfl e_109_109)) h1 ((in_c 1 rfl)) i139a i131a i111a i115x20; have a11 := t_sub e115x20 i115x4 (in_c 1 rfl) rfl; have a12 := in_u i115x4; omega
                                    have n143f : (s.2.2.1 109 28).toInt = 0 → (s139.2.2.1 109 109).toInt + (s139.2.2.1 109 111).toInt = (s.2.2.1 109 109).toInt + (s.2.2.1 109 111).toInt := by have b0 : z111a = s139.2.2.1 109 109 := fr_F (fr_F (e111) hF131 rfl) hF139 rfl; have b1 : z139a = s139.2.2.1 109 111 := e139; first | (rw [← b0, ← b1, ← e_109_28, ← e_109_109, ← e_109_111]; exact n143e) | (rw [← b0, ← b1]; exact n143e)
                                    exact g_ireturn (gd rfl) rfl rfl (hP _ _ ⟨s139, hI139, (fr_tr rfl (fr_tr rfl (fr_tr rfl fr_rf hF111) hF131) hF139), n143d, n143f, (Int32.ofInt 0), rfl, rfl, in_w 0 2 (in_c 0 rfl) rfl, n143, n143a, n143b⟩)
                                · skip
                                  refine g_iload_n 33 (gd rfl) rfl rfl ?_
                                  refine g_bipush 61 35 (gd rfl) rfl rfl ?_
                                  refine g_cmp_ne 38 42 (gd rfl) rfl rfl (fun c118x35 => ?_) (fun c118x35 => ?_)
                                  · skip
                                    refine g_iconst 0 43 (gd rfl) rfl rfl ?_
                                    refine g_ireturn (gd rfl) rfl rfl (hp118 _ _ ?_)
                                    show GG _ _ _ _ _ _ _ _ [.int (Int32.ofInt 0)] _ _ _
                                    refine g_iconst 1 122 (gd rfl) rfl rfl ?_
                                    refine g_cmp_ne 125 134 (gd rfl) rfl rfl (fun c122 => ?_) (fun c122 => ?_)
                                    · skip
                                      refine g_aload_n 135 (gd rfl) rfl rfl ?_
                                      refine g_aload_n 136 (gd rfl) rfl rfl ?_
                                      refine g_getI 139 (gd rfl) rfl rfl rfl (fun z136 e136 => ?_)
                                      have q136 : u_109_30 = z136 := (fr_F (e_109_30) hF111 rfl).trans e136.symm
                                      subst q136
                                      have n139 : (z111b).toInt ≤ 199 := by have a0 := oa10 i76x35 ro_109_29 i12 ((inv_F hI 0 200 rfl e_109_111)) ((inv_F hI 0 400 rfl e_109_109)) h1 ((in_c 1 rfl)) i115x4 i111a i115x20; have a10 := t_sub e115x20 i115x4 (in_c 1 rfl) rfl; omega
                                      refine g_callv (X := _) (As := [.int u_109_30]) (r := []) (b := A 109) (q := 109) 142 (gd rfl) rfl rfl rfl rfl rfl (ww_o rfl) (Nat.le_of_ble_eq_true rfl) (Nat.zero_le _) (Nat.zero_le _) (k_396 (by first | exact dq1 hd rfl | exact dq0 hd rfl | exact dq2 hd rfl | exact dq3 hd rfl | omega) hI111 e111a n139) (fun e u h => h) (fun v u h => ?_)
                                      obtain ⟨s139, hI139, hF139, n139a, rfl, rfl, p139⟩ := h
                                      obtain ⟨z139a, e139⟩ : ∃ w, w = s139.2.2.1 109 111 := ⟨_, rfl⟩
                                      have i139a := inv_F hI139 0 200 rfl e139
                                      rw [← (show z111b = s111.2.2.1 109 111 from e111a)] at n139a
                                      rw [← (show z139a = s139.2.2.1 109 111 from e139)] at n139a
                                      show GG _ _ _ _ _ _ _ _ [] _ _ _
                                      refine g_iconst 0 143 (gd rfl) rfl rfl ?_
                                      have n143 : ((Int32.ofInt 0)).toInt = 0 → PR s s139 1 0 := by intro hR; first | (exfalso; revert hR; decide) | exact pr_tr p91 (pr_hold (hF99.1 187 rfl) (hF99.1 188 rfl) (hF99.2.2.1 109 109 rfl) (hF99.2.2.1 109 23 rfl) p99 (by rw [← e99, ← e91a]; exact n99a) (inv_F hI91 0 200 rfl rfl).1 (Or.inr ⟨by first | (have hi := i76x3; unfold In at hi; omega) | (have hi := i76x13; unfold In at hi; omega) | (have hi := i76x19; unfold In at hi; omega) | (have hi := i76x29; unfold In at hi; omega) | (have hi := i76x35; unfold In at hi; omega), rfl⟩)) | exact pr_tr p111 (pr_hold (hF139.1 187 rfl) (hF139.1 188 rfl) (hF139.2.2.1 109 109 rfl) (hF139.2.2.1 109 23 rfl) p139 (by rw [← e139, ← e111a]; exact n139a) (inv_F hI111 0 200 rfl rfl).1 (Or.inr ⟨by first | (have hi := i76x3; unfold In at hi; omega) | (have hi := i76x13; unfold In at hi; omega) | (have hi := i76x19; unfold In at hi; omega) | (have hi := i76x29; unfold In at hi; omega) | (have hi := i76x35; unfold In at hi; omega), rfl⟩)) | exact pr_tr p111 (pr_tr (b := 1) (pr_flt (hF131.1 187 rfl) (hF131.1 188 rfl) (hF131.2.2.1 109 109 rfl) (by rw [← e131]; omega)) (pr_hold (hF139.1 187 rfl) (hF139.1 188 rfl) (hF139.2.2.1 109 109 rfl) (hF139.2.2.1 109 23 rfl) p139 (by rw [← e139, ← (show z111b = s131.2.2.1 109 111 from fr_F e111a hF131 rfl)]; exact n139a) (inv_F hI131 0 200 rfl rfl).1 (Or.inr ⟨by first | (have hi := i76x3; unfold In at hi; omega) | (have hi := i76x13; unfold In at hi; omega) | (have hi := i76x19; unfold In at hi; omega) | (have hi := i76x29; unfold In at hi; omega) | (have hi := i76x35; unfold In at hi; omega), rfl⟩)))
                                      have n143a : ((Int32.ofInt 0)).toInt ≠ 0 → PR s s139 1 1 := by exact fun h => absurd rfl h
                                      have n143b : (s.2.2.1 109 28).toInt = 0 → ((Int32.ofInt 0)).toInt = 2 := by rw [← e_109_28]; intro h0; first | rfl | (exfalso; have a0 := oa10 i76x35 ro_109_29 i12 ((inv_F hI 0 200 rfl e_109_111)) ((inv_F hI 0 400 rfl e_109_109)) h1 ((in_c 1 rfl)) i139a i111a i115x20; have a10 := t_sub e115x20 i115x4 (in_c 1 rfl) rfl; have a11 := in_u i115x4; omega)
                                      have n143c : (z111a).toInt + (z139a).toInt ≤ (u_109_109).toInt + (u_109_111).toInt + 1 := by have a0 := oa10 i76x35 ro_109_29 i12 ((inv_F hI 0 200 rfl e_109_111)) ((inv_F hI 0 400 rfl e_109_109)) h1 ((in_c 1 rfl)) i139a i111a i115x20; have a10 := t_sub e115x20 i115x4 (in_c 1 rfl) rfl; have a11 := in_u i115x4; omega
                                      have n143d : (s139.2.2.1 109 109).toInt + (s139.2.2.1 109 111).toInt ≤ (s.2.2.1 109 109).toInt + (s.2.2.1 109 111).toInt + 1 := by have b0 : z111a = s139.2.2.1 109 109 := fr_F (e111) hF139 rfl; have b1 : z139a = s139.2.2.1 109 111 := e139; first | (rw [← b0, ← b1, ← e_109_109, ← e_109_111]; exact n143c) | (rw [← b0, ← b1]; exact n143c)
                                      have n143e : (u_109_28).toInt = 0 → (z111a).toInt + (z139a).toInt = (u_109_109).toInt + (u_109_111).toInt := by have a0 := oa10 i76x35 ro_109_29 i12 ((inv_F hI 0 200 rfl e_109_111)) ((inv_F hI 0 400 rfl e_109_109)) h1 ((in_c 1 rfl)) i139a i111a i115x20; have a10 := t_sub e115x20 i115x4 (in_c 1 rfl) rfl; have a11 := in_u i115x4; omega
                                      have n143f : (s.2.2.1 109 28).toInt = 0 → (s139.2.2.1 109 109).toInt + (s139.2.2.1 109 111).toInt = (s.2.2.1 109 109).toInt + (s.2.2.1 109 111).toInt := by have b0 : z111a = s139.2.2.1 109 109 := fr_F (e111) hF139 rfl; have b1 : z139a = s139.2.2.1 109 111 := e139; first | (rw [← b0, ← b1, ← e_109_28, ← e_109_109, ← e_109_111]; exact n143e) | (rw [← b0, ← b1]; exact n143e)
                                      exact g_ireturn (gd rfl) rfl rfl (hP _ _ ⟨s139, hI139, (fr_tr rfl (fr_tr rfl fr_rf hF111) hF139), n143d, n143f, (Int32.ofInt 0), rfl, rfl, in_w 0 2 (in_c 0 rfl) rfl, n143, n143a, n143b⟩)
                                    · skip
                                      exact n_eq c122 (in_c 0 rfl) (in_c 1 rfl) rfl
                                  · skip
                                    have i118x35 := r_eq1 61 61 c118x35 (i_rng z115x21) (in_c 61 rfl) rfl
                                    refine g_iconst 1 39 (gd rfl) rfl rfl ?_
                                    refine g_goto 43 (gd rfl) rfl ?_
                                    refine g_ireturn (gd rfl) rfl rfl (hp118 _ _ ?_)
                                    show GG _ _ _ _ _ _ _ _ [.int (Int32.ofInt 1)] _ _ _
                                    refine g_iconst 1 122 (gd rfl) rfl rfl ?_
                                    refine g_cmp_ne 125 134 (gd rfl) rfl rfl (fun c122 => ?_) (fun c122 => ?_)
                                    · skip
                                      exact n_ne c122 (in_c 1 rfl) (in_c 1 rfl) rfl
                                    · skip
                                      refine g_aload_n 126 (gd rfl) rfl rfl ?_
                                      refine g_iconst 2 127 (gd rfl) rfl rfl ?_
                                      refine g_aload_n 128 (gd rfl) rfl rfl ?_
                                      refine g_getI 131 (gd rfl) rfl rfl rfl (fun z128 e128 => ?_)
                                      have q128 : u_109_29 = z128 := (fr_F (e_109_29) hF111 rfl).trans e128.symm
                                      subst q128
                                      refine g_callv (X := _) (As := [.int (Int32.ofInt 2), .int u_109_29]) (r := []) (b := A 109) (q := 109) 134 (gd rfl) rfl rfl rfl rfl rfl (ww_o rfl) (Nat.le_of_ble_eq_true rfl) (Nat.zero_le _) (Nat.zero_le _) (k_298 (by first | exact dq1 hd rfl | exact dq0 hd rfl | exact dq2 hd rfl | exact dq3 hd rfl | omega) hI111 (in_w 1 5 (in_c 2 rfl) rfl)) (fun e u h => h) (fun v u h => ?_)
                                      obtain ⟨s131, hI131, hF131, n131, rfl, rfl⟩ := h
                                      obtain ⟨z131a, e131⟩ : ∃ w, w = s131.2.2.1 109 23 := ⟨_, rfl⟩
                                      have i131a := inv_F hI131 0 9 rfl e131
                                      rw [← (show z131a = s131.2.2.1 109 23 from e131)] at n131
                                      show GG _ _ _ _ _ _ _ _ [] _ _ _
                                      refine g_aload_n 135 (gd rfl) rfl rfl ?_
                                      refine g_aload_n 136 (gd rfl) rfl rfl ?_
                                      refine g_getI 139 (gd rfl) rfl rfl rfl (fun z136 e136 => ?_)
                                      have q136 : u_109_30 = z136 := (fr_F (fr_F (e_109_30) hF111 rfl) hF131 rfl).trans e136.symm
                                      subst q136
                                      have v139 : z111b = s131.2.2.1 109 111 := fr_F (e111a) hF131 rfl
                                      have n139 : (z111b).toInt ≤ 199 := by have a0 := oa11 i76x35 ro_109_29 i12 ((inv_F hI 0 200 rfl e_109_111)) ((inv_F hI 0 400 rfl e_109_109)) h1 ((in_c 1 rfl)) i131a i115x4 i111a i115x20; have a11 := t_sub e115x20 i115x4 (in_c 1 rfl) rfl; omega
                                      refine g_callv (X := _) (As := [.int u_109_30]) (r := []) (b := A 109) (q := 109) 142 (gd rfl) rfl rfl rfl rfl rfl (ww_o rfl) (Nat.le_of_ble_eq_true rfl) (Nat.zero_le _) (Nat.zero_le _) (k_396 (by first | exact dq1 hd rfl | exact dq0 hd rfl | exact dq2 hd rfl | exact dq3 hd rfl | omega) hI131 v139 n139) (fun e u h => h) (fun v u h => ?_)
                                      obtain ⟨s139, hI139, hF139, n139a, rfl, rfl, p139⟩ := h
                                      obtain ⟨z139a, e139⟩ : ∃ w, w = s139.2.2.1 109 111 := ⟨_, rfl⟩
                                      have i139a := inv_F hI139 0 200 rfl e139
                                      rw [← (show z111b = s131.2.2.1 109 111 from fr_F (e111a) hF131 rfl)] at n139a
                                      rw [← (show z139a = s139.2.2.1 109 111 from e139)] at n139a
                                      show GG _ _ _ _ _ _ _ _ [] _ _ _
                                      refine g_iconst 0 143 (gd rfl) rfl rfl ?_
                                      have n143 : ((Int32.ofInt 0)).toInt = 0 → PR s s139 1 0 := by intro hR; first | (exfalso; revert hR; decide) | exact pr_tr p91 (pr_hold (hF99.1 187 rfl) (hF99.1 188 rfl) (hF99.2.2.1 109 109 rfl) (hF99.2.2.1 109 23 rfl) p99 (by rw [← e99, ← e91a]; exact n99a) (inv_F hI91 0 200 rfl rfl).1 (Or.inr ⟨by first | (have hi := i76x3; unfold In at hi; omega) | (have hi := i76x13; unfold In at hi; omega) | (have hi := i76x19; unfold In at hi; omega) | (have hi := i76x29; unfold In at hi; omega) | (have hi := i76x35; unfold In at hi; omega), rfl⟩)) | exact pr_tr p111 (pr_hold (hF139.1 187 rfl) (hF139.1 188 rfl) (hF139.2.2.1 109 109 rfl) (hF139.2.2.1 109 23 rfl) p139 (by rw [← e139, ← e111a]; exact n139a) (inv_F hI111 0 200 rfl rfl).1 (Or.inr ⟨by first | (have hi := i76x3; unfold In at hi; omega) | (have hi := i76x13; unfold In at hi; omega) | (have hi := i76x19; unfold In at hi; omega) | (have hi := i76x29; unfold In at hi; omega) | (have hi := i76x35; unfold In at hi; omega), rfl⟩)) | exact pr_tr p111 (pr_tr (b := 1) (pr_flt (hF131.1 187 rfl) (hF131.1 188 rfl) (hF131.2.2.1 109 109 rfl) (by rw [← e131]; omega)) (pr_hold (hF139.1 187 rfl) (hF139.1 188 rfl) (hF139.2.2.1 109 109 rfl) (hF139.2.2.1 109 23 rfl) p139 (by rw [← e139, ← (show z111b = s131.2.2.1 109 111 from fr_F e111a hF131 rfl)]; exact n139a) (inv_F hI131 0 200 rfl rfl).1 (Or.inr ⟨by first | (have hi := i76x3; unfold In at hi; omega) | (have hi := i76x13; unfold In at hi; omega) | (have hi := i76x19; unfold In at hi; omega) | (have hi := i76x29; unfold In at hi; omega) | (have hi := i76x35; unfold In at hi; omega), rfl⟩)))
                                      have n143a : ((Int32.ofInt 0)).toInt ≠ 0 → PR s s139 1 1 := by exact fun h => absurd rfl h
                                      have n143b : (s.2.2.1 109 28).toInt = 0 → ((Int32.ofInt 0)).toInt = 2 := by rw [← e_109_28]; intro h0; first | rfl | (exfalso; have a0 := oa11 i76x35 ro_109_29 i12 ((inv_F hI 0 200 rfl e_109_111)) ((inv_F hI 0 400 rfl e_109_109)) h1 ((in_c 1 rfl)) i139a i131a i111a i115x20; have a11 := t_sub e115x20 i115x4 (in_c 1 rfl) rfl; have a12 := in_u i115x4; omega)
                                      have n143c : (z111a).toInt + (z139a).toInt ≤ (u_109_109).toInt + (u_109_111).toInt + 1 := by have a0 := oa11 i76x35 ro_109_29 i12 ((inv_F hI 0 200 rfl e_109_111)) ((inv_F hI 0 400 rfl e_109_109)) h1 ((in_c 1 rfl)) i139a i131a i111a i115x20; have a11 := t_sub e115x20 i115x4 (in_c 1 rfl) rfl; have a12 := in_u i115x4; omega
                                      have n143d : (s139.2.2.1 109 109).toInt + (s139.2.2.1 109 111).toInt ≤ (s.2.2.1 109 109).toInt + (s.2.2.1 109 111).toInt + 1 := by have b0 : z111a = s139.2.2.1 109 109 := fr_F (fr_F (e111) hF131 rfl) hF139 rfl; have b1 : z139a = s139.2.2.1 109 111 := e139; first | (rw [← b0, ← b1, ← e_109_109, ← e_109_111]; exact n143c) | (rw [← b0, ← b1]; exact n143c)
                                      have n143e : (u_109_28).toInt = 0 → (z111a).toInt + (z139a).toInt = (u_109_109).toInt + (u_109_111).toInt := by have a0 := oa11 i76x35 ro_109_29 i12 ((inv_F hI 0 200 rfl e_109_111)) ((inv_F hI 0 400 rfl e_109_109)) h1 ((in_c 1 rfl)) i139a i131a i111a i115x20; have a11 := t_sub e115x20 i115x4 (in_c 1 rfl) rfl; have a12 := in_u i115x4; omega
                                      have n143f : (s.2.2.1 109 28).toInt = 0 → (s139.2.2.1 109 109).toInt + (s139.2.2.1 109 111).toInt = (s.2.2.1 109 109).toInt + (s.2.2.1 109 111).toInt := by have b0 : z111a = s139.2.2.1 109 109 := fr_F (fr_F (e111) hF131 rfl) hF139 rfl; have b1 : z139a = s139.2.2.1 109 111 := e139; first | (rw [← b0, ← b1, ← e_109_28, ← e_109_109, ← e_109_111]; exact n143e) | (rw [← b0, ← b1]; exact n143e)
                                      exact g_ireturn (gd rfl) rfl rfl (hP _ _ ⟨s139, hI139, (fr_tr rfl (fr_tr rfl (fr_tr rfl fr_rf hF111) hF131) hF139), n143d, n143f, (Int32.ofInt 0), rfl, rfl, in_w 0 2 (in_c 0 rfl) rfl, n143, n143a, n143b⟩)
                              · skip
                                have i118x19 := r_eq1 45 45 c118x19 (i_rng z115x21) (in_c 45 rfl) rfl
                                refine g_iconst 2 23 (gd rfl) rfl rfl ?_
                                refine g_goto 43 (gd rfl) rfl ?_
                                refine g_ireturn (gd rfl) rfl rfl (hp118 _ _ ?_)
                                show GG _ _ _ _ _ _ _ _ [.int (Int32.ofInt 2)] _ _ _
                                refine g_iconst 1 122 (gd rfl) rfl rfl ?_
                                refine g_cmp_ne 125 134 (gd rfl) rfl rfl (fun c122 => ?_) (fun c122 => ?_)
                                · skip
                                  refine g_aload_n 135 (gd rfl) rfl rfl ?_
                                  refine g_aload_n 136 (gd rfl) rfl rfl ?_
                                  refine g_getI 139 (gd rfl) rfl rfl rfl (fun z136 e136 => ?_)
                                  have q136 : u_109_30 = z136 := (fr_F (e_109_30) hF111 rfl).trans e136.symm
                                  subst q136
                                  have n139 : (z111b).toInt ≤ 199 := by have a0 := oa10 i76x35 ro_109_29 i12 ((inv_F hI 0 200 rfl e_109_111)) ((inv_F hI 0 400 rfl e_109_109)) h1 ((in_c 1 rfl)) i115x4 i111a i115x20; have a10 := t_sub e115x20 i115x4 (in_c 1 rfl) rfl; omega
                                  refine g_callv (X := _) (As := [.int u_109_30]) (r := []) (b := A 109) (q := 109) 142 (gd rfl) rfl rfl rfl rfl rfl (ww_o rfl) (Nat.le_of_ble_eq_true rfl) (Nat.zero_le _) (Nat.zero_le _) (k_396 (by first | exact dq1 hd rfl | exact dq0 hd rfl | exact dq2 hd rfl | exact dq3 hd rfl | omega) hI111 e111a n139) (fun e u h => h) (fun v u h => ?_)
                                  obtain ⟨s139, hI139, hF139, n139a, rfl, rfl, p139⟩ := h
                                  obtain ⟨z139a, e139⟩ : ∃ w, w = s139.2.2.1 109 111 := ⟨_, rfl⟩
                                  have i139a := inv_F hI139 0 200 rfl e139
                                  rw [← (show z111b = s111.2.2.1 109 111 from e111a)] at n139a
                                  rw [← (show z139a = s139.2.2.1 109 111 from e139)] at n139a
                                  show GG _ _ _ _ _ _ _ _ [] _ _ _
                                  refine g_iconst 0 143 (gd rfl) rfl rfl ?_
                                  have n143 : ((Int32.ofInt 0)).toInt = 0 → PR s s139 1 0 := by intro hR; first | (exfalso; revert hR; decide) | exact pr_tr p91 (pr_hold (hF99.1 187 rfl) (hF99.1 188 rfl) (hF99.2.2.1 109 109 rfl) (hF99.2.2.1 109 23 rfl) p99 (by rw [← e99, ← e91a]; exact n99a) (inv_F hI91 0 200 rfl rfl).1 (Or.inr ⟨by first | (have hi := i76x3; unfold In at hi; omega) | (have hi := i76x13; unfold In at hi; omega) | (have hi := i76x19; unfold In at hi; omega) | (have hi := i76x29; unfold In at hi; omega) | (have hi := i76x35; unfold In at hi; omega), rfl⟩)) | exact pr_tr p111 (pr_hold (hF139.1 187 rfl) (hF139.1 188 rfl) (hF139.2.2.1 109 109 rfl) (hF139.2.2.1 109 23 rfl) p139 (by rw [← e139, ← e111a]; exact n139a) (inv_F hI111 0 200 rfl rfl).1 (Or.inr ⟨by first | (have hi := i76x3; unfold In at hi; omega) | (have hi := i76x13; unfold In at hi; omega) | (have hi := i76x19; unfold In at hi; omega) | (have hi := i76x29; unfold In at hi; omega) | (have hi := i76x35; unfold In at hi; omega), rfl⟩)) | exact pr_tr p111 (pr_tr (b := 1) (pr_flt (hF131.1 187 rfl) (hF131.1 188 rfl) (hF131.2.2.1 109 109 rfl) (by rw [← e131]; omega)) (pr_hold (hF139.1 187 rfl) (hF139.1 188 rfl) (hF139.2.2.1 109 109 rfl) (hF139.2.2.1 109 23 rfl) p139 (by rw [← e139, ← (show z111b = s131.2.2.1 109 111 from fr_F e111a hF131 rfl)]; exact n139a) (inv_F hI131 0 200 rfl rfl).1 (Or.inr ⟨by first | (have hi := i76x3; unfold In at hi; omega) | (have hi := i76x13; unfold In at hi; omega) | (have hi := i76x19; unfold In at hi; omega) | (have hi := i76x29; unfold In at hi; omega) | (have hi := i76x35; unfold In at hi; omega), rfl⟩)))
                                  have n143a : ((Int32.ofInt 0)).toInt ≠ 0 → PR s s139 1 1 := by exact fun h => absurd rfl h
                                  have n143b : (s.2.2.1 109 28).toInt = 0 → ((Int32.ofInt 0)).toInt = 2 := by rw [← e_109_28]; intro h0; first | rfl | (exfalso; have a0 := oa10 i76x35 ro_109_29 i12 ((inv_F hI 0 200 rfl e_109_111)) ((inv_F hI 0 400 rfl e_109_109)) h1 ((in_c 1 rfl)) i139a i111a i115x20; have a10 := t_sub e115x20 i115x4 (in_c 1 rfl) rfl; have a11 := in_u i115x4; omega)
                                  have n143c : (z111a).toInt + (z139a).toInt ≤ (u_109_109).toInt + (u_109_111).toInt + 1 := by have a0 := oa10 i76x35 ro_109_29 i12 ((inv_F hI 0 200 rfl e_109_111)) ((inv_F hI 0 400 rfl e_109_109)) h1 ((in_c 1 rfl)) i139a i111a i115x20; have a10 := t_sub e115x20 i115x4 (in_c 1 rfl) rfl; have a11 := in_u i115x4; omega
                                  have n143d : (s139.2.2.1 109 109).toInt + (s139.2.2.1 109 111).toInt ≤ (s.2.2.1 109 109).toInt + (s.2.2.1 109 111).toInt + 1 := by have b0 : z111a = s139.2.2.1 109 109 := fr_F (e111) hF139 rfl; have b1 : z139a = s139.2.2.1 109 111 := e139; first | (rw [← b0, ← b1, ← e_109_109, ← e_109_111]; exact n143c) | (rw [← b0, ← b1]; exact n143c)
                                  have n143e : (u_109_28).toInt = 0 → (z111a).toInt + (z139a).toInt = (u_109_109).toInt + (u_109_111).toInt := by have a0 := oa10 i76x35 ro_109_29 i12 ((inv_F hI 0 200 rfl e_109_111)) ((inv_F hI 0 400 rfl e_109_109)) h1 ((in_c 1 rfl)) i139a i111a i115x20; have a10 := t_sub e115x20 i115x4 (in_c 1 rfl) rfl; have a11 := in_u i115x4; omega
                                  have n143f : (s.2.2.1 109 28).toInt = 0 → (s139.2.2.1 109 109).toInt + (s139.2.2.1 109 111).toInt = (s.2.2.1 109 109).toInt + (s.2.2.1 109 111).toInt := by have b0 : z111a = s139.2.2.1 109 109 := fr_F (e111) hF139 rfl; have b1 : z139a = s139.2.2.1 109 111 := e139; first | (rw [← b0, ← b1, ← e_109_28, ← e_109_109, ← e_109_111]; exact n143e) | (rw [← b0, ← b1]; exact n143e)
                                  exact g_ireturn (gd rfl) rfl rfl (hP _ _ ⟨s139, hI139, (fr_tr rfl (fr_tr rfl fr_rf hF111) hF139), n143d, n143f, (Int32.ofInt 0), rfl, rfl, in_w 0 2 (in_c 0 rfl) rfl, n143, n143a, n143b⟩)
                                · skip
                                  exact n_eq c122 (in_c 2 rfl) (in_c 1 rfl) rfl
                          · skip
                            have i118x3 := r_eq1 42 42 c118x3 (i_rng z115x21) (in_c 42 rfl) rfl
                            refine g_iconst 3 7 (gd rfl) rfl rfl ?_
                            refine g_goto 43 (gd rfl) rfl ?_
                            refine g_ireturn (gd rfl) rfl rfl (hp118 _ _ ?_)
                            show GG _ _ _ _ _ _ _ _ [.int (Int32.ofInt 3)] _ _ _
                            refine g_iconst 1 122 (gd rfl) rfl rfl ?_
                            refine g_cmp_ne 125 134 (gd rfl) rfl rfl (fun c122 => ?_) (fun c122 => ?_)
                            · skip
                              refine g_aload_n 135 (gd rfl) rfl rfl ?_
                              refine g_aload_n 136 (gd rfl) rfl rfl ?_
                              refine g_getI 139 (gd rfl) rfl rfl rfl (fun z136 e136 => ?_)
                              have q136 : u_109_30 = z136 := (fr_F (e_109_30) hF111 rfl).trans e136.symm
                              subst q136
                              have n139 : (z111b).toInt ≤ 199 := by have a0 := oa10 i76x35 ro_109_29 i12 ((inv_F hI 0 200 rfl e_109_111)) ((inv_F hI 0 400 rfl e_109_109)) h1 ((in_c 1 rfl)) i115x4 i111a i115x20; have a10 := t_sub e115x20 i115x4 (in_c 1 rfl) rfl; omega
                              refine g_callv (X := _) (As := [.int u_109_30]) (r := []) (b := A 109) (q := 109) 142 (gd rfl) rfl rfl rfl rfl rfl (ww_o rfl) (Nat.le_of_ble_eq_true rfl) (Nat.zero_le _) (Nat.zero_le _) (k_396 (by first | exact dq1 hd rfl | exact dq0 hd rfl | exact dq2 hd rfl | exact dq3 hd rfl | omega) hI111 e111a n139) (fun e u h => h) (fun v u h => ?_)
                              obtain ⟨s139, hI139, hF139, n139a, rfl, rfl, p139⟩ := h
                              obtain ⟨z139a, e139⟩ : ∃ w, w = s139.2.2.1 109 111 := ⟨_, rfl⟩
                              have i139a := inv_F hI139 0 200 rfl e139
                              rw [← (show z111b = s111.2.2.1 109 111 from e111a)] at n139a
                              rw [← (show z139a = s139.2.2.1 109 111 from e139)] at n139a
                              show GG _ _ _ _ _ _ _ _ [] _ _ _
                              refine g_iconst 0 143 (gd rfl) rfl rfl ?_
                              have n143 : ((Int32.ofInt 0)).toInt = 0 → PR s s139 1 0 := by intro hR; first | (exfalso; revert hR; decide) | exact pr_tr p91 (pr_hold (hF99.1 187 rfl) (hF99.1 188 rfl) (hF99.2.2.1 109 109 rfl) (hF99.2.2.1 109 23 rfl) p99 (by rw [← e99, ← e91a]; exact n99a) (inv_F hI91 0 200 rfl rfl).1 (Or.inr ⟨by first | (have hi := i76x3; unfold In at hi; omega) | (have hi := i76x13; unfold In at hi; omega) | (have hi := i76x19; unfold In at hi; omega) | (have hi := i76x29; unfold In at hi; omega) | (have hi := i76x35; unfold In at hi; omega), rfl⟩)) | exact pr_tr p111 (pr_hold (hF139.1 187 rfl) (hF139.1 188 rfl) (hF139.2.2.1 109 109 rfl) (hF139.2.2.1 109 23 rfl) p139 (by rw [← e139, ← e111a]; exact n139a) (inv_F hI111 0 200 rfl rfl).1 (Or.inr ⟨by first | (have hi := i76x3; unfold In at hi; omega) | (have hi := i76x13; unfold In at hi; omega) | (have hi := i76x19; unfold In at hi; omega) | (have hi := i76x29; unfold In at hi; omega) | (have hi := i76x35; unfold In at hi; omega), rfl⟩)) | exact pr_tr p111 (pr_tr (b := 1) (pr_flt (hF131.1 187 rfl) (hF131.1 188 rfl) (hF131.2.2.1 109 109 rfl) (by rw [← e131]; omega)) (pr_hold (hF139.1 187 rfl) (hF139.1 188 rfl) (hF139.2.2.1 109 109 rfl) (hF139.2.2.1 109 23 rfl) p139 (by rw [← e139, ← (show z111b = s131.2.2.1 109 111 from fr_F e111a hF131 rfl)]; exact n139a) (inv_F hI131 0 200 rfl rfl).1 (Or.inr ⟨by first | (have hi := i76x3; unfold In at hi; omega) | (have hi := i76x13; unfold In at hi; omega) | (have hi := i76x19; unfold In at hi; omega) | (have hi := i76x29; unfold In at hi; omega) | (have hi := i76x35; unfold In at hi; omega), rfl⟩)))
                              have n143a : ((Int32.ofInt 0)).toInt ≠ 0 → PR s s139 1 1 := by exact fun h => absurd rfl h
                              have n143b : (s.2.2.1 109 28).toInt = 0 → ((Int32.ofInt 0)).toInt = 2 := by rw [← e_109_28]; intro h0; first | rfl | (exfalso; have a0 := oa10 i76x35 ro_109_29 i12 ((inv_F hI 0 200 rfl e_109_111)) ((inv_F hI 0 400 rfl e_109_109)) h1 ((in_c 1 rfl)) i139a i111a i115x20; have a10 := t_sub e115x20 i115x4 (in_c 1 rfl) rfl; have a11 := in_u i115x4; omega)
                              have n143c : (z111a).toInt + (z139a).toInt ≤ (u_109_109).toInt + (u_109_111).toInt + 1 := by have a0 := oa10 i76x35 ro_109_29 i12 ((inv_F hI 0 200 rfl e_109_111)) ((inv_F hI 0 400 rfl e_109_109)) h1 ((in_c 1 rfl)) i139a i111a i115x20; have a10 := t_sub e115x20 i115x4 (in_c 1 rfl) rfl; have a11 := in_u i115x4; omega
                              have n143d : (s139.2.2.1 109 109).toInt + (s139.2.2.1 109 111).toInt ≤ (s.2.2.1 109 109).toInt + (s.2.2.1 109 111).toInt + 1 := by have b0 : z111a = s139.2.2.1 109 109 := fr_F (e111) hF139 rfl; have b1 : z139a = s139.2.2.1 109 111 := e139; first | (rw [← b0, ← b1, ← e_109_109, ← e_109_111]; exact n143c) | (rw [← b0, ← b1]; exact n143c)
                              have n143e : (u_109_28).toInt = 0 → (z111a).toInt + (z139a).toInt = (u_109_109).toInt + (u_109_111).toInt := by have a0 := oa10 i76x35 ro_109_29 i12 ((inv_F hI 0 200 rfl e_109_111)) ((inv_F hI 0 400 rfl e_109_109)) h1 ((in_c 1 rfl)) i139a i111a i115x20; have a10 := t_sub e115x20 i115x4 (in_c 1 rfl) rfl; have a11 := in_u i115x4; omega
                              have n143f : (s.2.2.1 109 28).toInt = 0 → (s139.2.2.1 109 109).toInt + (s139.2.2.1 109 111).toInt = (s.2.2.1 109 109).toInt + (s.2.2.1 109 111).toInt := by have b0 : z111a = s139.2.2.1 109 109 := fr_F (e111) hF139 rfl; have b1 : z139a = s139.2.2.1 109 111 := e139; first | (rw [← b0, ← b1, ← e_109_28, ← e_109_109, ← e_109_111]; exact n143e) | (rw [← b0, ← b1]; exact n143e)
                              exact g_ireturn (gd rfl) rfl rfl (hP _ _ ⟨s139, hI139, (fr_tr rfl (fr_tr rfl fr_rf hF111) hF139), n143d, n143f, (Int32.ofInt 0), rfl, rfl, in_w 0 2 (in_c 0 rfl) rfl, n143, n143a, n143b⟩)
                            · skip
                              exact n_eq c122 (in_c 3 rfl) (in_c 1 rfl) rfl
                        · skip
                          have i115x4 := z_eq 0 0 c115x4 i111b rfl
                          refine g_iconst 0 8 (gd rfl) rfl rfl ?_
                          refine g_goto 22 (gd rfl) rfl ?_
                          refine g_ireturn (gd rfl) rfl rfl (hp115 _ _ ?_)
                          show GG _ _ _ _ _ _ _ _ [.int (Int32.ofInt 0)] _ _ _
                          refine g_calls (As := [.int (Int32.ofInt 0)]) (r := []) 121 (gd rfl) rfl rfl rfl rfl rfl (Nat.le_of_ble_eq_true rfl) (mc := 0) (ms := 0) (Nat.zero_le _) (Nat.zero_le _) (P := fun v u => _) ?_ (fun v u h => h)
                          intro po118 xx118 hp118 hx118
                          refine g_enter2 (k := 398) (N := 300) (by first | exact dq1 hd rfl | exact dq0 hd rfl | exact dq2 hd rfl | exact dq3 hd rfl | omega) rfl (Nat.le_of_ble_eq_true rfl) ?_
                          refine g_iload_n 1 (gd rfl) rfl rfl ?_
                          refine g_bipush 42 3 (gd rfl) rfl rfl ?_
                          refine g_cmp_ne 6 10 (gd rfl) rfl rfl (fun c118x3 => ?_) (fun c118x3 => ?_)
                          · skip
                            refine g_iload_n 11 (gd rfl) rfl rfl ?_
                            refine g_bipush 43 13 (gd rfl) rfl rfl ?_
                            refine g_cmp_eq 16 22 (gd rfl) rfl rfl (fun c118x13 => ?_) (fun c118x13 => ?_)
                            · skip
                              exact n_eq c118x13 (in_c 0 rfl) (in_c 43 rfl) rfl
                            · skip
                              refine g_iload_n 17 (gd rfl) rfl rfl ?_
                              refine g_bipush 45 19 (gd rfl) rfl rfl ?_
                              refine g_cmp_ne 22 26 (gd rfl) rfl rfl (fun c118x19 => ?_) (fun c118x19 => ?_)
                              · skip
                                refine g_iload_n 27 (gd rfl) rfl rfl ?_
                                refine g_bipush 60 29 (gd rfl) rfl rfl ?_
                                refine g_cmp_eq 32 38 (gd rfl) rfl rfl (fun c118x29 => ?_) (fun c118x29 => ?_)
                                · skip
                                  exact n_eq c118x29 (in_c 0 rfl) (in_c 60 rfl) rfl
                                · skip
                                  refine g_iload_n 33 (gd rfl) rfl rfl ?_
                                  refine g_bipush 61 35 (gd rfl) rfl rfl ?_
                                  refine g_cmp_ne 38 42 (gd rfl) rfl rfl (fun c118x35 => ?_) (fun c118x35 => ?_)
                                  · skip
                                    refine g_iconst 0 43 (gd rfl) rfl rfl ?_
                                    refine g_ireturn (gd rfl) rfl rfl (hp118 _ _ ?_)
                                    show GG _ _ _ _ _ _ _ _ [.int (Int32.ofInt 0)] _ _ _
                                    refine g_iconst 1 122 (gd rfl) rfl rfl ?_
                                    refine g_cmp_ne 125 134 (gd rfl) rfl rfl (fun c122 => ?_) (fun c122 => ?_)
                                    · skip
                                      refine g_aload_n 135 (gd rfl) rfl rfl ?_
                                      refine g_aload_n 136 (gd rfl) rfl rfl ?_
                                      refine g_getI 139 (gd rfl) rfl rfl rfl (fun z136 e136 => ?_)
                                      have q136 : u_109_30 = z136 := (fr_F (e_109_30) hF111 rfl).trans e136.symm
                                      subst q136
                                      have n139 : (z111b).toInt ≤ 199 := by have a0 := oa9 i76x35 ro_109_29 i12 ((inv_F hI 0 200 rfl e_109_111)) ((inv_F hI 0 400 rfl e_109_109)) h1 ((in_c 1 rfl)) i115x4 i111a; omega
                                      refine g_callv (X := _) (As := [.int u_109_30]) (r := []) (b := A 109) (q := 109) 142 (gd rfl) rfl rfl rfl rfl rfl (ww_o rfl) (Nat.le_of_ble_eq_true rfl) (Nat.zero_le _) (Nat.zero_le _) (k_396 (by first | exact dq1 hd rfl | exact dq0 hd rfl | exact dq2 hd rfl | exact dq3 hd rfl | omega) hI111 e111a n139) (fun e u h => h) (fun v u h => ?_)
                                      obtain ⟨s139, hI139, hF139, n139a, rfl, rfl, p139⟩ := h
                                      obtain ⟨z139a, e139⟩ : ∃ w, w = s139.2.2.1 109 111 := ⟨_, rfl⟩
                                      have i139a := inv_F hI139 0 200 rfl e139
                                      rw [← (show z111b = s111.2.2.1 109 111 from e111a)] at n139a
                                      rw [← (show z139a = s139.2.2.1 109 111 from e139)] at n139a
                                      show GG _ _ _ _ _ _ _ _ [] _ _ _
                                      refine g_iconst 0 143 (gd rfl) rfl rfl ?_
                                      have n143 : ((Int32.ofInt 0)).toInt = 0 → PR s s139 1 0 := by intro hR; first | (exfalso; revert hR; decide) | exact pr_tr p91 (pr_hold (hF99.1 187 rfl) (hF99.1 188 rfl) (hF99.2.2.1 109 109 rfl) (hF99.2.2.1 109 23 rfl) p99 (by rw [← e99, ← e91a]; exact n99a) (inv_F hI91 0 200 rfl rfl).1 (Or.inr ⟨by first | (have hi := i76x3; unfold In at hi; omega) | (have hi := i76x13; unfold In at hi; omega) | (have hi := i76x19; unfold In at hi; omega) | (have hi := i76x29; unfold In at hi; omega) | (have hi := i76x35; unfold In at hi; omega), rfl⟩)) | exact pr_tr p111 (pr_hold (hF139.1 187 rfl) (hF139.1 188 rfl) (hF139.2.2.1 109 109 rfl) (hF139.2.2.1 109 23 rfl) p139 (by rw [← e139, ← e111a]; exact n139a) (inv_F hI111 0 200 rfl rfl).1 (Or.inr ⟨by first | (have hi := i76x3; unfold In at hi; omega) | (have hi := i76x13; unfold In at hi; omega) | (have hi := i76x19; unfold In at hi; omega) | (have hi := i76x29; unfold In at hi; omega) | (have hi := i76x35; unfold In at hi; omega), rfl⟩)) | exact pr_tr p111 (pr_tr (b := 1) (pr_flt (hF131.1 187 rfl) (hF131.1 188 rfl) (hF131.2.2.1 109 109 rfl) (by rw [← e131]; omega)) (pr_hold (hF139.1 187 rfl) (hF139.1 188 rfl) (hF139.2.2.1 109 109 rfl) (hF139.2.2.1 109 23 rfl) p139 (by rw [← e139, ← (show z111b = s131.2.2.1 109 111 from fr_F e111a hF131 rfl)]; exact n139a) (inv_F hI131 0 200 rfl rfl).1 (Or.inr ⟨by first | (have hi := i76x3; unfold In at hi; omega) | (have hi := i76x13; unfold In at hi; omega) | (have hi := i76x19; unfold In at hi; omega) | (have hi := i76x29; unfold In at hi; omega) | (have hi := i76x35; unfold In at hi; omega), rfl⟩)))
                                      have n143a : ((Int32.ofInt 0)).toInt ≠ 0 → PR s s139 1 1 := by exact fun h => absurd rfl h
                                      have n143b : (s.2.2.1 109 28).toInt = 0 → ((Int32.ofInt 0)).toInt = 2 := by rw [← e_109_28]; intro h0; first | rfl | (exfalso; have a0 := oa9 i76x35 ro_109_29 i12 ((inv_F hI 0 200 rfl e_109_111)) ((inv_F hI 0 400 rfl e_109_109)) h1 ((in_c 1 rfl)) i139a i111a; omega)
                                      have n143c : (z111a).toInt + (z139a).toInt ≤ (u_109_109).toInt + (u_109_111).toInt + 1 := by have a0 := oa9 i76x35 ro_109_29 i12 ((inv_F hI 0 200 rfl e_109_111)) ((inv_F hI 0 400 rfl e_109_109)) h1 ((in_c 1 rfl)) i139a i111a; omega
                                      have n143d : (s139.2.2.1 109 109).toInt + (s139.2.2.1 109 111).toInt ≤ (s.2.2.1 109 109).toInt + (s.2.2.1 109 111).toInt + 1 := by have b0 : z111a = s139.2.2.1 109 109 := fr_F (e111) hF139 rfl; have b1 : z139a = s139.2.2.1 109 111 := e139; first | (rw [← b0, ← b1, ← e_109_109, ← e_109_111]; exact n143c) | (rw [← b0, ← b1]; exact n143c)
                                      have n143e : (u_109_28).toInt = 0 → (z111a).toInt + (z139a).toInt = (u_109_109).toInt + (u_109_111).toInt := by have a0 := oa9 i76x35 ro_109_29 i12 ((inv_F hI 0 200 rfl e_109_111)) ((inv_F hI 0 400 rfl e_109_109)) h1 ((in_c 1 rfl)) i139a i111a; omega
                                      have n143f : (s.2.2.1 109 28).toInt = 0 → (s139.2.2.1 109 109).toInt + (s139.2.2.1 109 111).toInt = (s.2.2.1 109 109).toInt + (s.2.2.1 109 111).toInt := by have b0 : z111a = s139.2.2.1 109 109 := fr_F (e111) hF139 rfl; have b1 : z139a = s139.2.2.1 109 111 := e139; first | (rw [← b0, ← b1, ← e_109_28, ← e_109_109, ← e_109_111]; exact n143e) | (rw [← b0, ← b1]; exact n143e)
                                      exact g_ireturn (gd rfl) rfl rfl (hP _ _ ⟨s139, hI139, (fr_tr rfl (fr_tr rfl fr_rf hF111) hF139), n143d, n143f, (Int32.ofInt 0), rfl, rfl, in_w 0 2 (in_c 0 rfl) rfl, n143, n143a, n143b⟩)
                                    · skip
                                      exact n_eq c122 (in_c 0 rfl) (in_c 1 rfl) rfl
                                  · skip
                                    exact n_eq c118x35 (in_c 0 rfl) (in_c 61 rfl) rfl
                              · skip
                                exact n_eq c118x19 (in_c 0 rfl) (in_c 45 rfl) rfl
                          · skip
                            exact n_eq c118x3 (in_c 0 rfl) (in_c 42 rfl) rfl
                    · skip
                      exact n_lt c86 (in_c 1 rfl) (in_c 1 rfl) rfl
              · skip
                have i76x19 := r_eq1 45 45 c76x19 (i_rng u_109_30) (in_c 45 rfl) rfl
                refine g_iconst 2 23 (gd rfl) rfl rfl ?_
                refine g_goto 43 (gd rfl) rfl ?_
                refine g_ireturn (gd rfl) rfl rfl (hp76 _ _ ?_)
                show GG _ _ _ _ _ _ _ _ [.int (Int32.ofInt 2)] _ _ _
                refine g_goto 83 (gd rfl) rfl ?_
                refine g_istore_n 84 (gd rfl) rfl (Nat.le_of_ble_eq_true rfl) ?_
                refine g_iload_n 85 (gd rfl) rfl rfl ?_
                refine g_iconst 1 86 (gd rfl) rfl rfl ?_
                refine g_cmp_le 89 104 (gd rfl) rfl rfl (fun c86 => ?_) (fun c86 => ?_)
                · skip
                  exact n_le c86 (in_c 2 rfl) (in_c 1 rfl) rfl
                · skip
                  refine g_aload_n 90 (gd rfl) rfl rfl ?_
                  refine g_iload_n 91 (gd rfl) rfl rfl ?_
                  have n91 : (u_109_109).toInt + (u_109_111).toInt ≤ 120 := by have a0 := oa7 i76x19 ro_109_29 i12 ((inv_F hI 0 200 rfl e_109_111)) ((inv_F hI 0 400 rfl e_109_109)) h1 ((in_c 2 rfl)); omega
                  refine g_callv (X := _) (As := [.int (Int32.ofInt 2)]) (r := []) (b := A 109) (q := 109) 94 (gd rfl) rfl rfl rfl rfl rfl (ww_o rfl) (Nat.le_of_ble_eq_true rfl) (Nat.zero_le _) (Nat.zero_le _) (k_399 (by first | exact dq1 hd rfl | exact dq0 hd rfl | exact dq2 hd rfl | exact dq3 hd rfl | omega) hI (in_w 1 3 (in_c 2 rfl) rfl) e_109_109 e_109_111 n91) (fun e u h => h) (fun v u h => ?_)
                  obtain ⟨s91, hI91, hF91, n91a, rfl, rfl, p91⟩ := h
                  obtain ⟨z91a, e91⟩ : ∃ w, w = s91.2.2.1 109 109 := ⟨_, rfl⟩
                  have i91a := inv_F hI91 0 400 rfl e91
                  obtain ⟨z91b, e91a⟩ : ∃ w, w = s91.2.2.1 109 111 := ⟨_, rfl⟩
                  have i91b := inv_F hI91 0 200 rfl e91a
                  rw [← (show u_109_109 = s.2.2.1 109 109 from e_109_109)] at n91a
                  rw [← (show u_109_111 = s.2.2.1 109 111 from e_109_111)] at n91a
                  rw [← (show z91a = s91.2.2.1 109 109 from e91)] at n91a
                  rw [← (show z91b = s91.2.2.1 109 111 from e91a)] at n91a
                  show GG _ _ _ _ _ _ _ _ [] _ _ _
                  refine g_aload_n 95 (gd rfl) rfl rfl ?_
                  refine g_aload_n 96 (gd rfl) rfl rfl ?_
                  refine g_getI 99 (gd rfl) rfl rfl rfl (fun z96 e96 => ?_)
                  have q96 : u_109_30 = z96 := (fr_F (e_109_30) hF91 rfl).trans e96.symm
                  subst q96
                  have n99 : (z91b).toInt ≤ 199 := by have a0 := oa9 i76x19 ro_109_29 i12 ((inv_F hI 0 200 rfl e_109_111)) ((inv_F hI 0 400 rfl e_109_109)) h1 ((in_c 2 rfl)) i91b i91a; omega
                  refine g_callv (X := _) (As := [.int u_109_30]) (r := []) (b := A 109) (q := 109) 102 (gd rfl) rfl rfl rfl rfl rfl (ww_o rfl) (Nat.le_of_ble_eq_true rfl) (Nat.zero_le _) (Nat.zero_le _) (k_396 (by first | exact dq1 hd rfl | exact dq0 hd rfl | exact dq2 hd rfl | exact dq3 hd rfl | omega) hI91 e91a n99) (fun e u h => h) (fun v u h => ?_)
                  obtain ⟨s99, hI99, hF99, n99a, rfl, rfl, p99⟩ := h
                  obtain ⟨z99a, e99⟩ : ∃ w, w = s99.2.2.1 109 111 := ⟨_, rfl⟩
                  have i99a := inv_F hI99 0 200 rfl e99
                  rw [← (show z91b = s91.2.2.1 109 111 from e91a)] at n99a
                  rw [← (show z99a = s99.2.2.1 109 111 from e99)] at n99a
                  show GG _ _ _ _ _ _ _ _ [] _ _ _
                  refine g_iconst 0 103 (gd rfl) rfl rfl ?_
                  have n103 : ((Int32.ofInt 0)).toInt = 0 → PR s s99 1 0 := by intro hR; first | (exfalso; revert hR; decide) | exact pr_tr p91 (pr_hold (hF99.1 187 rfl) (hF99.1 188 rfl) (hF99.2.2.1 109 109 rfl) (hF99.2.2.1 109 23 rfl) p99 (by rw [← e99, ← e91a]; exact n99a) (inv_F hI91 0 200 rfl rfl).1 (Or.inr ⟨by first | (have hi := i76x3; unfold In at hi; omega) | (have hi := i76x13; unfold In at hi; omega) | (have hi := i76x19; unfold In at hi; omega) | (have hi := i76x29; unfold In at hi; omega) | (have hi := i76x35; unfold In at hi; omega), rfl⟩)) | exact pr_tr p111 (pr_hold (hF139.1 187 rfl) (hF139.1 188 rfl) (hF139.2.2.1 109 109 rfl) (hF139.2.2.1 109 23 rfl) p139 (by rw [← e139, ← e111a]; exact n139a) (inv_F hI111 0 200 rfl rfl).1 (Or.inr ⟨by first | (have hi := i76x3; unfold In at hi; omega) | (have hi := i76x13; unfold In at hi; omega) | (have hi := i76x19; unfold In at hi; omega) | (have hi := i76x29; unfold In at hi; omega) | (have hi := i76x35; unfold In at hi; omega), rfl⟩)) | exact pr_tr p111 (pr_tr (b := 1) (pr_flt (hF131.1 187 rfl) (hF131.1 188 rfl) (hF131.2.2.1 109 109 rfl) (by rw [← e131]; omega)) (pr_hold (hF139.1 187 rfl) (hF139.1 188 rfl) (hF139.2.2.1 109 109 rfl) (hF139.2.2.1 109 23 rfl) p139 (by rw [← e139, ← (show z111b = s131.2.2.1 109 111 from fr_F e111a hF131 rfl)]; exact n139a) (inv_F hI131 0 200 rfl rfl).1 (Or.inr ⟨by first | (have hi := i76x3; unfold In at hi; omega) | (have hi := i76x13; unfold In at hi; omega) | (have hi := i76x19; unfold In at hi; omega) | (have hi := i76x29; unfold In at hi; omega) | (have hi := i76x35; unfold In at hi; omega), rfl⟩)))
                  have n103a : ((Int32.ofInt 0)).toInt ≠ 0 → PR s s99 1 1 := by exact fun h => absurd rfl h
                  have n103b : (s.2.2.1 109 28).toInt = 0 → ((Int32.ofInt 0)).toInt = 2 := by rw [← e_109_28]; intro h0; first | rfl | (exfalso; have a0 := oa9 i76x19 ro_109_29 i12 ((inv_F hI 0 200 rfl e_109_111)) ((inv_F hI 0 400 rfl e_109_109)) h1 ((in_c 2 rfl)) i99a i91a; omega)
                  have n103c : (z91a).toInt + (z99a).toInt ≤ (u_109_109).toInt + (u_109_111).toInt + 1 := by have a0 := oa9 i76x19 ro_109_29 i12 ((inv_F hI 0 200 rfl e_109_111)) ((inv_F hI 0 400 rfl e_109_109)) h1 ((in_c 2 rfl)) i99a i91a; omega
                  have n103d : (s99.2.2.1 109 109).toInt + (s99.2.2.1 109 111).toInt ≤ (s.2.2.1 109 109).toInt + (s.2.2.1 109 111).toInt + 1 := by have b0 : z91a = s99.2.2.1 109 109 := fr_F (e91) hF99 rfl; have b1 : z99a = s99.2.2.1 109 111 := e99; first | (rw [← b0, ← b1, ← e_109_109, ← e_109_111]; exact n103c) | (rw [← b0, ← b1]; exact n103c)
                  have n103e : (u_109_28).toInt = 0 → (z91a).toInt + (z99a).toInt = (u_109_109).toInt + (u_109_111).toInt := by have a0 := oa9 i76x19 ro_109_29 i12 ((inv_F hI 0 200 rfl e_109_111)) ((inv_F hI 0 400 rfl e_109_109)) h1 ((in_c 2 rfl)) i99a i91a; omega
                  have n103f : (s.2.2.1 109 28).toInt = 0 → (s99.2.2.1 109 109).toInt + (s99.2.2.1 109 111).toInt = (s.2.2.1 109 109).toInt + (s.2.2.1 109 111).toInt := by have b0 : z91a = s99.2.2.1 109 109 := fr_F (e91) hF99 rfl; have b1 : z99a = s99.2.2.1 109 111 := e99; first | (rw [← b0, ← b1, ← e_109_28, ← e_109_109, ← e_109_111]; exact n103e) | (rw [← b0, ← b1]; exact n103e)
                  exact g_ireturn (gd rfl) rfl rfl (hP _ _ ⟨s99, hI99, (fr_tr rfl (fr_tr rfl fr_rf hF91) hF99), n103d, n103f, (Int32.ofInt 0), rfl, rfl, in_w 0 2 (in_c 0 rfl) rfl, n103, n103a, n103b⟩)
          · skip
            have i76x3 := r_eq1 42 42 c76x3 (i_rng u_109_30) (in_c 42 rfl) rfl
            refine g_iconst 3 7 (gd rfl) rfl rfl ?_
            refine g_goto 43 (gd rfl) rfl ?_
            refine g_ireturn (gd rfl) rfl rfl (hp76 _ _ ?_)
            show GG _ _ _ _ _ _ _ _ [.int (Int32.ofInt 3)] _ _ _
            refine g_goto 83 (gd rfl) rfl ?_
            refine g_istore_n 84 (gd rfl) rfl (Nat.le_of_ble_eq_true rfl) ?_
            refine g_iload_n 85 (gd rfl) rfl rfl ?_
            refine g_iconst 1 86 (gd rfl) rfl rfl ?_
            refine g_cmp_le 89 104 (gd rfl) rfl rfl (fun c86 => ?_) (fun c86 => ?_)
            · skip
              exact n_le c86 (in_c 3 rfl) (in_c 1 rfl) rfl
            · skip
              refine g_aload_n 90 (gd rfl) rfl rfl ?_
              refine g_iload_n 91 (gd rfl) rfl rfl ?_
              have n91 : (u_109_109).toInt + (u_109_111).toInt ≤ 120 := by have a0 := oa7 i76x3 ro_109_29 i12 ((inv_F hI 0 200 rfl e_109_111)) ((inv_F hI 0 400 rfl e_109_109)) h1 ((in_c 3 rfl)); omega
              refine g_callv (X := _) (As := [.int (Int32.ofInt 3)]) (r := []) (b := A 109) (q := 109) 94 (gd rfl) rfl rfl rfl rfl rfl (ww_o rfl) (Nat.le_of_ble_eq_true rfl) (Nat.zero_le _) (Nat.zero_le _) (k_399 (by first | exact dq1 hd rfl | exact dq0 hd rfl | exact dq2 hd rfl | exact dq3 hd rfl | omega) hI (in_w 1 3 (in_c 3 rfl) rfl) e_109_109 e_109_111 n91) (fun e u h => h) (fun v u h => ?_)
              obtain ⟨s91, hI91, hF91, n91a, rfl, rfl, p91⟩ := h
              obtain ⟨z91a, e91⟩ : ∃ w, w = s91.2.2.1 109 109 := ⟨_, rfl⟩
              have i91a := inv_F hI91 0 400 rfl e91
              obtain ⟨z91b, e91a⟩ : ∃ w, w = s91.2.2.1 109 111 := ⟨_, rfl⟩
              have i91b := inv_F hI91 0 200 rfl e91a
              rw [← (show u_109_109 = s.2.2.1 109 109 from e_109_109)] at n91a
              rw [← (show u_109_111 = s.2.2.1 109 111 from e_109_111)] at n91a
              rw [← (show z91a = s91.2.2.1 109 109 from e91)] at n91a
              rw [← (show z91b = s91.2.2.1 109 111 from e91a)] at n91a
              show GG _ _ _ _ _ _ _ _ [] _ _ _
              refine g_aload_n 95 (gd rfl) rfl rfl ?_
              refine g_aload_n 96 (gd rfl) rfl rfl ?_
              refine g_getI 99 (gd rfl) rfl rfl rfl (fun z96 e96 => ?_)
              have q96 : u_109_30 = z96 := (fr_F (e_109_30) hF91 rfl).trans e96.symm
              subst q96
              have n99 : (z91b).toInt ≤ 199 := by have a0 := oa9 i76x3 ro_109_29 i12 ((inv_F hI 0 200 rfl e_109_111)) ((inv_F hI 0 400 rfl e_109_109)) h1 ((in_c 3 rfl)) i91b i91a; omega
              refine g_callv (X := _) (As := [.int u_109_30]) (r := []) (b := A 109) (q := 109) 102 (gd rfl) rfl rfl rfl rfl rfl (ww_o rfl) (Nat.le_of_ble_eq_true rfl) (Nat.zero_le _) (Nat.zero_le _) (k_396 (by first | exact dq1 hd rfl | exact dq0 hd rfl | exact dq2 hd rfl | exact dq3 hd rfl | omega) hI91 e91a n99) (fun e u h => h) (fun v u h => ?_)
              obtain ⟨s99, hI99, hF99, n99a, rfl, rfl, p99⟩ := h
              obtain ⟨z99a, e99⟩ : ∃ w, w = s99.2.2.1 109 111 := ⟨_, rfl⟩
              have i99a := inv_F hI99 0 200 rfl e99
              rw [← (show z91b = s91.2.2.1 109 111 from e91a)] at n99a
              rw [← (show z99a = s99.2.2.1 109 111 from e99)] at n99a
              show GG _ _ _ _ _ _ _ _ [] _ _ _
              refine g_iconst 0 103 (gd rfl) rfl rfl ?_
              have n103 : ((Int32.ofInt 0)).toInt = 0 → PR s s99 1 0 := by intro hR; first | (exfalso; revert hR; decide) | exact pr_tr p91 (pr_hold (hF99.1 187 rfl) (hF99.1 188 rfl) (hF99.2.2.1 109 109 rfl) (hF99.2.2.1 109 23 rfl) p99 (by rw [← e99, ← e91a]; exact n99a) (inv_F hI91 0 200 rfl rfl).1 (Or.inr ⟨by first | (have hi := i76x3; unfold In at hi; omega) | (have hi := i76x13; unfold In at hi; omega) | (have hi := i76x19; unfold In at hi; omega) | (have hi := i76x29; unfold In at hi; omega) | (have hi := i76x35; unfold In at hi; omega), rfl⟩)) | exact pr_tr p111 (pr_hold (hF139.1 187 rfl) (hF139.1 188 rfl) (hF139.2.2.1 109 109 rfl) (hF139.2.2.1 109 23 rfl) p139 (by rw [← e139, ← e111a]; exact n139a) (inv_F hI111 0 200 rfl rfl).1 (Or.inr ⟨by first | (have hi := i76x3; unfold In at hi; omega) | (have hi := i76x13; unfold In at hi; omega) | (have hi := i76x19; unfold In at hi; omega) | (have hi := i76x29; unfold In at hi; omega) | (have hi := i76x35; unfold In at hi; omega), rfl⟩)) | exact pr_tr p111 (pr_tr (b := 1) (pr_flt (hF131.1 187 rfl) (hF131.1 188 rfl) (hF131.2.2.1 109 109 rfl) (by rw [← e131]; omega)) (pr_hold (hF139.1 187 rfl) (hF139.1 188 rfl) (hF139.2.2.1 109 109 rfl) (hF139.2.2.1 109 23 rfl) p139 (by rw [← e139, ← (show z111b = s131.2.2.1 109 111 from fr_F e111a hF131 rfl)]; exact n139a) (inv_F hI131 0 200 rfl rfl).1 (Or.inr ⟨by first | (have hi := i76x3; unfold In at hi; omega) | (have hi := i76x13; unfold In at hi; omega) | (have hi := i76x19; unfold In at hi; omega) | (have hi := i76x29; unfold In at hi; omega) | (have hi := i76x35; unfold In at hi; omega), rfl⟩)))
              have n103a : ((Int32.ofInt 0)).toInt ≠ 0 → PR s s99 1 1 := by exact fun h => absurd rfl h
              have n103b : (s.2.2.1 109 28).toInt = 0 → ((Int32.ofInt 0)).toInt = 2 := by rw [← e_109_28]; intro h0; first | rfl | (exfalso; have a0 := oa9 i76x3 ro_109_29 i12 ((inv_F hI 0 200 rfl e_109_111)) ((inv_F hI 0 400 rfl e_109_109)) h1 ((in_c 3 rfl)) i99a i91a; omega)
              have n103c : (z91a).toInt + (z99a).toInt ≤ (u_109_109).toInt + (u_109_111).toInt + 1 := by have a0 := oa9 i76x3 ro_109_29 i12 ((inv_F hI 0 200 rfl e_109_111)) ((inv_F hI 0 400 rfl e_109_109)) h1 ((in_c 3 rfl)) i99a i91a; omega
              have n103d : (s99.2.2.1 109 109).toInt + (s99.2.2.1 109 111).toInt ≤ (s.2.2.1 109 109).toInt + (s.2.2.1 109 111).toInt + 1 := by have b0 : z91a = s99.2.2.1 109 109 := fr_F (e91) hF99 rfl; have b1 : z99a = s99.2.2.1 109 111 := e99; first | (rw [← b0, ← b1, ← e_109_109, ← e_109_111]; exact n103c) | (rw [← b0, ← b1]; exact n103c)
              have n103e : (u_109_28).toInt = 0 → (z91a).toInt + (z99a).toInt = (u_109_109).toInt + (u_109_111).toInt := by have a0 := oa9 i76x3 ro_109_29 i12 ((inv_F hI 0 200 rfl e_109_111)) ((inv_F hI 0 400 rfl e_109_109)) h1 ((in_c 3 rfl)) i99a i91a; omega
              have n103f : (s.2.2.1 109 28).toInt = 0 → (s99.2.2.1 109 109).toInt + (s99.2.2.1 109 111).toInt = (s.2.2.1 109 109).toInt + (s.2.2.1 109 111).toInt := by have b0 : z91a = s99.2.2.1 109 109 := fr_F (e91) hF99 rfl; have b1 : z99a = s99.2.2.1 109 111 := e99; first | (rw [← b0, ← b1, ← e_109_28, ← e_109_109, ← e_109_111]; exact n103e) | (rw [← b0, ← b1]; exact n103e)
              exact g_ireturn (gd rfl) rfl rfl (hP _ _ ⟨s99, hI99, (fr_tr rfl (fr_tr rfl fr_rf hF91) hF99), n103d, n103f, (Int32.ofInt 0), rfl, rfl, in_w 0 2 (in_c 0 rfl) rfl, n103, n103a, n103b⟩)
      · skip
        have i21 := r_eq1 59 59 c21 (i_rng u_109_30) (in_c 59 rfl) rfl
        refine g_aload_n 25 (gd rfl) rfl rfl ?_
        refine g_iconst 1 26 (gd rfl) rfl rfl ?_
        have n26 : (u_109_109).toInt + (u_109_111).toInt ≤ 120 := by have a0 := oa6 i21 ro_109_29 i12 ((inv_F hI 0 200 rfl e_109_111)) ((inv_F hI 0 400 rfl e_109_109)) h1; omega
        refine g_callv (X := _) (As := [.int (Int32.ofInt 1)]) (r := []) (b := A 109) (q := 109) 29 (gd rfl) rfl rfl rfl rfl rfl (ww_o rfl) (Nat.le_of_ble_eq_true rfl) (Nat.zero_le _) (Nat.zero_le _) (k_399 (by first | exact dq1 hd rfl | exact dq0 hd rfl | exact dq2 hd rfl | exact dq3 hd rfl | omega) hI (in_w 1 3 (in_c 1 rfl) rfl) e_109_109 e_109_111 n26) (fun e u h => h) (fun v u h => ?_)
        obtain ⟨s26, hI26, hF26, n26a, rfl, rfl, p26⟩ := h
        obtain ⟨z26a, e26⟩ : ∃ w, w = s26.2.2.1 109 109 := ⟨_, rfl⟩
        have i26a := inv_F hI26 0 400 rfl e26
        obtain ⟨z26b, e26a⟩ : ∃ w, w = s26.2.2.1 109 111 := ⟨_, rfl⟩
        have i26b := inv_F hI26 0 200 rfl e26a
        rw [← (show u_109_109 = s.2.2.1 109 109 from e_109_109)] at n26a
        rw [← (show u_109_111 = s.2.2.1 109 111 from e_109_111)] at n26a
        rw [← (show z26a = s26.2.2.1 109 109 from e26)] at n26a
        rw [← (show z26b = s26.2.2.1 109 111 from e26a)] at n26a
        show GG _ _ _ _ _ _ _ _ [] _ _ _
        refine g_aload_n 30 (gd rfl) rfl rfl ?_
        refine g_getI 33 (gd rfl) rfl rfl rfl (fun z30 e30 => ?_)
        have q30 : z26b = z30 := (e26a).trans e30.symm
        subst q30
        refine g_if_gt 36 53 (gd rfl) rfl rfl (fun c33 => ?_) (fun c33 => ?_)
        · skip
          have i33 := z_gt 1 200 c33 i26b rfl
          refine g_aload_n 54 (gd rfl) rfl rfl ?_
          refine g_iconst 2 55 (gd rfl) rfl rfl ?_
          refine g_aload_n 56 (gd rfl) rfl rfl ?_
          refine g_getI 59 (gd rfl) rfl rfl rfl (fun z56 e56 => ?_)
          have q56 : u_109_29 = z56 := (fr_F (e_109_29) hF26 rfl).trans e56.symm
          subst q56
          refine g_callv (X := _) (As := [.int (Int32.ofInt 2), .int u_109_29]) (r := []) (b := A 109) (q := 109) 62 (gd rfl) rfl rfl rfl rfl rfl (ww_o rfl) (Nat.le_of_ble_eq_true rfl) (Nat.zero_le _) (Nat.zero_le _) (k_298 (by first | exact dq1 hd rfl | exact dq0 hd rfl | exact dq2 hd rfl | exact dq3 hd rfl | omega) hI26 (in_w 1 5 (in_c 2 rfl) rfl)) (fun e u h => h) (fun v u h => ?_)
          obtain ⟨s59, hI59, hF59, n59, rfl, rfl⟩ := h
          obtain ⟨z59a, e59⟩ : ∃ w, w = s59.2.2.1 109 23 := ⟨_, rfl⟩
          have i59a := inv_F hI59 0 9 rfl e59
          rw [← (show z59a = s59.2.2.1 109 23 from e59)] at n59
          show GG _ _ _ _ _ _ _ _ [] _ _ _
          refine g_iconst 2 63 (gd rfl) rfl rfl ?_
          have n63 : ((Int32.ofInt 2)).toInt = 0 → PR s s59 1 0 := by exact fun h => absurd h (by decide)
          have n63a : ((Int32.ofInt 2)).toInt ≠ 0 → PR s s59 1 1 := by intro hR; first | (exact absurd rfl hR) | exact p26 | exact pr_tr p26 (pr_flt (hF59.1 187 rfl) (hF59.1 188 rfl) (hF59.2.2.1 109 109 rfl) (by rw [← e59]; omega)) | exact pr_tr p163 (pr_flt (hF181.1 187 rfl) (hF181.1 188 rfl) (hF181.2.2.1 109 109 rfl) (by rw [← e181]; omega)) | exact pr_flt (hF202.1 187 rfl) (hF202.1 188 rfl) (hF202.2.2.1 109 109 rfl) (by rw [← e202]; omega) | exact pr_tr p163 (pr_tr (pr_drop (x := z167x21) (b := z167x20) (hF187.1 187 rfl) (hF187.1 188 rfl) (hF187.2.2.1 109 109 rfl) (hF187.2.2.1 109 23 rfl) (hF187.1 190 rfl) (by rw [← e187]; have a0 := oa9 i21 ro_109_29 i12 ((inv_F hI 0 200 rfl e_109_111)) ((inv_F hI 0 400 rfl e_109_109)) h1 i59a i33 i26a; omega) (by rw [← e163a]; have a0 := oa9 i21 ro_109_29 i12 ((inv_F hI 0 200 rfl e_109_111)) ((inv_F hI 0 400 rfl e_109_109)) h1 i59a i33 i26a; omega) i167x20.1 e167x21 (Or.inr (c172.trans rfl))) p191)
          have n63b : (s.2.2.1 109 28).toInt = 0 → ((Int32.ofInt 2)).toInt = 2 := by rw [← e_109_28]; intro h0; first | rfl | (exfalso; have a0 := oa9 i21 ro_109_29 i12 ((inv_F hI 0 200 rfl e_109_111)) ((inv_F hI 0 400 rfl e_109_109)) h1 i59a i33 i26a; omega)
          have n63c : (z26a).toInt + (z26b).toInt ≤ (u_109_109).toInt + (u_109_111).toInt + 1 := by have a0 := oa9 i21 ro_109_29 i12 ((inv_F hI 0 200 rfl e_109_111)) ((inv_F hI 0 400 rfl e_109_109)) h1 i59a i33 i26a; omega
          have n63d : (s59.2.2.1 109 109).toInt + (s59.2.2.1 109 111).toInt ≤ (s.2.2.1 109 109).toInt + (s.2.2.1 109 111).toInt + 1 := by have b0 : z26a = s59.2.2.1 109 109 := fr_F (e26) hF59 rfl; have b1 : z26b = s59.2.2.1 109 111 := fr_F (e26a) hF59 rfl; first | (rw [← b0, ← b1, ← e_109_109, ← e_109_111]; exact n63c) | (rw [← b0, ← b1]; exact n63c)
          have n63e : (u_109_28).toInt = 0 → (z26a).toInt + (z26b).toInt = (u_109_109).toInt + (u_109_111).toInt := by have a0 := oa9 i21 ro_109_29 i12 ((inv_F hI 0 200 rfl e_109_111)) ((inv_F hI 0 400 rfl e_109_109)) h1 i59a i33 i26a; omega
          have n63f : (s.2.2.1 109 28).toInt = 0 → (s59.2.2.1 109 109).toInt + (s59.2.2.1 109 111).toInt = (s.2.2.1 109 109).toInt + (s.2.2.1 109 111).toInt := by have b0 : z26a = s59.2.2.1 109 109 := fr_F (e26) hF59 rfl; have b1 : z26b = s59.2.2.1 109 111 := fr_F (e26a) hF59 rfl; first | (rw [← b0, ← b1, ← e_109_28, ← e_109_109, ← e_109_111]; exact n63e) | (rw [← b0, ← b1]; exact n63e)
          exact g_ireturn (gd rfl) rfl rfl (hP _ _ ⟨s59, hI59, (fr_tr rfl (fr_tr rfl fr_rf hF26) hF59), n63d, n63f, (Int32.ofInt 2), rfl, rfl, in_w 0 2 (in_c 2 rfl) rfl, n63, n63a, n63b⟩)
        · skip
          have i33 := z_le 0 0 c33 i26b rfl
          refine g_iload_n 37 (gd rfl) rfl rfl ?_
          refine g_aload_n 38 (gd rfl) rfl rfl ?_
          refine g_getI 41 (gd rfl) rfl rfl rfl (fun z38 e38 => ?_)
          have q38 : u_109_28 = z38 := (fr_F (e_109_28) hF26 rfl).trans e38.symm
          subst q38
          refine g_iconst 3 42 (gd rfl) rfl rfl ?_
          refine g_cmp_ne 45 49 (gd rfl) rfl rfl (fun c42 => ?_) (fun c42 => ?_)
          · skip
            exact n_ne c42 i12 (in_c 3 rfl) rfl
          · skip
            refine g_iconst 1 46 (gd rfl) rfl rfl ?_
            refine g_goto 50 (gd rfl) rfl ?_
            refine g_cmp_eq 53 62 (gd rfl) rfl rfl (fun c50 => ?_) (fun c50 => ?_)
            · skip
              have i50 := r_eq1 1 1 c50 h1 (in_c 1 rfl) rfl
              refine g_iconst 2 63 (gd rfl) rfl rfl ?_
              have n63 : ((Int32.ofInt 2)).toInt = 0 → PR s s26 1 0 := by exact fun h => absurd h (by decide)
              have n63a : ((Int32.ofInt 2)).toInt ≠ 0 → PR s s26 1 1 := by intro hR; first | (exact absurd rfl hR) | exact p26 | exact pr_tr p26 (pr_flt (hF59.1 187 rfl) (hF59.1 188 rfl) (hF59.2.2.1 109 109 rfl) (by rw [← e59]; omega)) | exact pr_tr p163 (pr_flt (hF181.1 187 rfl) (hF181.1 188 rfl) (hF181.2.2.1 109 109 rfl) (by rw [← e181]; omega)) | exact pr_flt (hF202.1 187 rfl) (hF202.1 188 rfl) (hF202.2.2.1 109 109 rfl) (by rw [← e202]; omega) | exact pr_tr p163 (pr_tr (pr_drop (x := z167x21) (b := z167x20) (hF187.1 187 rfl) (hF187.1 188 rfl) (hF187.2.2.1 109 109 rfl) (hF187.2.2.1 109 23 rfl) (hF187.1 190 rfl) (by rw [← e187]; have a0 := oa8 i21 ro_109_29 i12 ((inv_F hI 0 200 rfl e_109_111)) ((inv_F hI 0 400 rfl e_109_109)) i50 i33 i26a; omega) (by rw [← e163a]; have a0 := oa8 i21 ro_109_29 i12 ((inv_F hI 0 200 rfl e_109_111)) ((inv_F hI 0 400 rfl e_109_109)) i50 i33 i26a; omega) i167x20.1 e167x21 (Or.inr (c172.trans rfl))) p191)
              have n63b : (s.2.2.1 109 28).toInt = 0 → ((Int32.ofInt 2)).toInt = 2 := by rw [← e_109_28]; intro h0; first | rfl | (exfalso; have a0 := oa8 i21 ro_109_29 i12 ((inv_F hI 0 200 rfl e_109_111)) ((inv_F hI 0 400 rfl e_109_109)) i50 i33 i26a; omega)
              have n63c : (z26a).toInt + (z26b).toInt ≤ (u_109_109).toInt + (u_109_111).toInt + 1 := by have a0 := oa8 i21 ro_109_29 i12 ((inv_F hI 0 200 rfl e_109_111)) ((inv_F hI 0 400 rfl e_109_109)) i50 i33 i26a; omega
              have n63d : (s26.2.2.1 109 109).toInt + (s26.2.2.1 109 111).toInt ≤ (s.2.2.1 109 109).toInt + (s.2.2.1 109 111).toInt + 1 := by have b0 : z26a = s26.2.2.1 109 109 := e26; have b1 : z26b = s26.2.2.1 109 111 := e26a; first | (rw [← b0, ← b1, ← e_109_109, ← e_109_111]; exact n63c) | (rw [← b0, ← b1]; exact n63c)
              have n63e : (u_109_28).toInt = 0 → (z26a).toInt + (z26b).toInt = (u_109_109).toInt + (u_109_111).toInt := by have a0 := oa8 i21 ro_109_29 i12 ((inv_F hI 0 200 rfl e_109_111)) ((inv_F hI 0 400 rfl e_109_109)) i50 i33 i26a; omega
              have n63f : (s.2.2.1 109 28).toInt = 0 → (s26.2.2.1 109 109).toInt + (s26.2.2.1 109 111).toInt = (s.2.2.1 109 109).toInt + (s.2.2.1 109 111).toInt := by have b0 : z26a = s26.2.2.1 109 109 := e26; have b1 : z26b = s26.2.2.1 109 111 := e26a; first | (rw [← b0, ← b1, ← e_109_28, ← e_109_109, ← e_109_111]; exact n63e) | (rw [← b0, ← b1]; exact n63e)
              exact g_ireturn (gd rfl) rfl rfl (hP _ _ ⟨s26, hI26, (fr_tr rfl fr_rf hF26), n63d, n63f, (Int32.ofInt 2), rfl, rfl, in_w 0 2 (in_c 2 rfl) rfl, n63, n63a, n63b⟩)
            · skip
              have i50 := r_ne1 0 0 c50 h1 (in_c 1 rfl) rfl
              refine g_aload_n 54 (gd rfl) rfl rfl ?_
              refine g_iconst 2 55 (gd rfl) rfl rfl ?_
              refine g_aload_n 56 (gd rfl) rfl rfl ?_
              refine g_getI 59 (gd rfl) rfl rfl rfl (fun z56 e56 => ?_)
              have q56 : u_109_29 = z56 := (fr_F (e_109_29) hF26 rfl).trans e56.symm
              subst q56
              refine g_callv (X := _) (As := [.int (Int32.ofInt 2), .int u_109_29]) (r := []) (b := A 109) (q := 109) 62 (gd rfl) rfl rfl rfl rfl rfl (ww_o rfl) (Nat.le_of_ble_eq_true rfl) (Nat.zero_le _) (Nat.zero_le _) (k_298 (by first | exact dq1 hd rfl | exact dq0 hd rfl | exact dq2 hd rfl | exact dq3 hd rfl | omega) hI26 (in_w 1 5 (in_c 2 rfl) rfl)) (fun e u h => h) (fun v u h => ?_)
              obtain ⟨s59, hI59, hF59, n59, rfl, rfl⟩ := h
              obtain ⟨z59a, e59⟩ : ∃ w, w = s59.2.2.1 109 23 := ⟨_, rfl⟩
              have i59a := inv_F hI59 0 9 rfl e59
              rw [← (show z59a = s59.2.2.1 109 23 from e59)] at n59
              show GG _ _ _ _ _ _ _ _ [] _ _ _
              refine g_iconst 2 63 (gd rfl) rfl rfl ?_
              have n63 : ((Int32.ofInt 2)).toInt = 0 → PR s s59 1 0 := by exact fun h => absurd h (by decide)
              have n63a : ((Int32.ofInt 2)).toInt ≠ 0 → PR s s59 1 1 := by intro hR; first | (exact absurd rfl hR) | exact p26 | exact pr_tr p26 (pr_flt (hF59.1 187 rfl) (hF59.1 188 rfl) (hF59.2.2.1 109 109 rfl) (by rw [← e59]; omega)) | exact pr_tr p163 (pr_flt (hF181.1 187 rfl) (hF181.1 188 rfl) (hF181.2.2.1 109 109 rfl) (by rw [← e181]; omega)) | exact pr_flt (hF202.1 187 rfl) (hF202.1 188 rfl) (hF202.2.2.1 109 109 rfl) (by rw [← e202]; omega) | exact pr_tr p163 (pr_tr (pr_drop (x := z167x21) (b := z167x20) (hF187.1 187 rfl) (hF187.1 188 rfl) (hF187.2.2.1 109 109 rfl) (hF187.2.2.1 109 23 rfl) (hF187.1 190 rfl) (by rw [← e187]; have a0 := oa9 i21 ro_109_29 i12 ((inv_F hI 0 200 rfl e_109_111)) ((inv_F hI 0 400 rfl e_109_109)) i50 i59a i33 i26a; omega) (by rw [← e163a]; have a0 := oa9 i21 ro_109_29 i12 ((inv_F hI 0 200 rfl e_109_111)) ((inv_F hI 0 400 rfl e_109_109)) i50 i59a i33 i26a; omega) i167x20.1 e167x21 (Or.inr (c172.trans rfl))) p191)
              have n63b : (s.2.2.1 109 28).toInt = 0 → ((Int32.ofInt 2)).toInt = 2 := by rw [← e_109_28]; intro h0; first | rfl | (exfalso; have a0 := oa9 i21 ro_109_29 i12 ((inv_F hI 0 200 rfl e_109_111)) ((inv_F hI 0 400 rfl e_109_109)) i50 i59a i33 i26a; omega)
              have n63c : (z26a).toInt + (z26b).toInt ≤ (u_109_109).toInt + (u_109_111).toInt + 1 := by have a0 := oa9 i21 ro_109_29 i12 ((inv_F hI 0 200 rfl e_109_111)) ((inv_F hI 0 400 rfl e_109_109)) i50 i59a i33 i26a; omega
              have n63d : (s59.2.2.1 109 109).toInt + (s59.2.2.1 109 111).toInt ≤ (s.2.2.1 109 109).toInt + (s.2.2.1 109 111).toInt + 1 := by have b0 : z26a = s59.2.2.1 109 109 := fr_F (e26) hF59 rfl; have b1 : z26b = s59.2.2.1 109 111 := fr_F (e26a) hF59 rfl; first | (rw [← b0, ← b1, ← e_109_109, ← e_109_111]; exact n63c) | (rw [← b0, ← b1]; exact n63c)
              have n63e : (u_109_28).toInt = 0 → (z26a).toInt + (z26b).toInt = (u_109_109).toInt + (u_109_111).toInt := by have a0 := oa9 i21 ro_109_29 i12 ((inv_F hI 0 200 rfl e_109_111)) ((inv_F hI 0 400 rfl e_109_109)) i50 i59a i33 i26a; omega
              have n63f : (s.2.2.1 109 28).toInt = 0 → (s59.2.2.1 109 109).toInt + (s59.2.2.1 109 111).toInt = (s.2.2.1 109 109).toInt + (s.2.2.1 109 111).toInt := by have b0 : z26a = s59.2.2.1 109 109 := fr_F (e26) hF59 rfl; have b1 : z26b = s59.2.2.1 109 111 := fr_F (e26a) hF59 rfl; first | (rw [← b0, ← b1, ← e_109_28, ← e_109_109, ← e_109_111]; exact n63e) | (rw [← b0, ← b1]; exact n63e)
              exact g_ireturn (gd rfl) rfl rfl (hP _ _ ⟨s59, hI59, (fr_tr rfl (fr_tr rfl fr_rf hF26) hF59), n63d, n63f, (Int32.ofInt 2), rfl, rfl, in_w 0 2 (in_c 2 rfl) rfl, n63, n63a, n63b⟩)
end
section
/-! methods, by vc.py -/
def fm_403 : FM := ([187, 188, 190], [], [(109, 23), (109, 24), (109, 27), (109, 28), (109, 29), (109, 30), (109, 109), (109, 111), (109, 112)], [(109, 31)])
/-- GraphHouseModel.expression -/
theorem k_403 {Z : AmZ} {A : Nat → Nat} {s : GS} {ex : va_W} {d : Nat} {X : AmX} {x1 : Int32} {u_109_27 : Int32} {u_109_22 : Int32} {u_109_109 : Int32} (hd : 5 ≤ d) (hI : Inv s) (h1 : In x1 0 1) (e_109_27 : u_109_27 = s.2.2.1 109 27) (e_109_22 : u_109_22 = s.2.2.1 109 22) (e_109_109 : u_109_109 = s.2.2.1 109 109) (p_0 : (u_109_27).toInt ≤ (u_109_22).toInt) (p_1 : (u_109_22).toInt ≤ 120) (p_2 : (u_109_109).toInt ≤ (u_109_27).toInt) : GC Z d 403 [.ref (A 109), .int x1] (WW Z A s ++ ex) 0 0 (fun v u => ∃ t : GS, Inv t ∧ Fr fm_403 s t ∧ ((t.2.2.1 109 27).toInt ≤ (t.2.2.1 109 22).toInt) ∧ ((t.2.2.1 109 109).toInt ≤ (t.2.2.1 109 27).toInt) ∧ ((s.2.2.1 109 109).toInt ≤ (t.2.2.1 109 109).toInt) ∧ v = none ∧ u = WW Z A t ++ ex ∧ (PQ s t) ∧ ((t.2.2.1 109 23).toInt = 0 → (ht (fun i => hs (t.1 187 i) (t.1 188 i)) (s.2.2.1 109 109).toNatClampNeg ((t.2.2.1 109 109).toNatClampNeg - (s.2.2.1 109 109).toNatClampNeg)).isSome = true)) X := by
  intro post xp hP hX
  have ro_109_22 := inv_F hI 0 1000 rfl e_109_22
  have ct14 : ∀ (k14 : Nat) (sc14 : GS) (y14_2 : Int32) (y14_3 : Int32) (w14_109_27 : Int32) (w14_109_109 : Int32) (w14_109_111 : Int32) (w14_109_23 : Int32), Inv sc14 → Fr fm_403 s sc14 → (In y14_2 0 1) → (In y14_3 0 1) → (w14_109_27 = sc14.2.2.1 109 27) → (w14_109_109 = sc14.2.2.1 109 109) → (w14_109_111 = sc14.2.2.1 109 111) → (w14_109_23 = sc14.2.2.1 109 23) → ((w14_109_27).toInt ≤ (u_109_22).toInt) → ((w14_109_109).toInt + (w14_109_111).toInt ≤ (w14_109_27).toInt) → (PQ s sc14 ∧ PS sc14 (s.2.2.1 109 109).toNatClampNeg (if (y14_2).toInt = 0 then 1 else 0)) → 20 * ((u_109_22).toInt - (w14_109_27).toInt) + 10 * (y14_3).toInt + 10 - (w14_109_23).toInt < (k14 : Int) → GG Z (d - 1) 403 post (gx xp) (1 + k14 * 900) 14 (fun j => xlook j [(0, .ref (A 109)), (1, .int x1), (2, .int y14_2), (3, .int y14_3)]) [] (WW Z A sc14 ++ ex) 0 0 := by
    intro k14
    induction k14 with
    | zero => intro sc14 y14_2 y14_3 w14_109_27 w14_109_109 w14_109_111 w14_109_23 hIc14 hFc14 j14_2 j14_3 v14_109_27 v14_109_109 v14_109_111 v14_109_23 n14_0 n14_1 g14_0 mm14; exfalso; have a0 := oa6 h1 ro_109_22 ((inv_F hIc14 0 9 rfl v14_109_23)) ((inv_F hIc14 0 200 rfl v14_109_111)) ((inv_F hIc14 0 400 rfl v14_109_109)) ((inv_F hIc14 0 1000 rfl v14_109_27)); have a6 := j14_3; unfold In at a6; have a7 := j14_2; unfold In at a7; omega
    | succ k14 ih14 =>
      intro sc14 y14_2 y14_3 w14_109_27 w14_109_109 w14_109_111 w14_109_23 hIc14 hFc14 j14_2 j14_3 v14_109_27 v14_109_109 v14_109_111 v14_109_23 n14_0 n14_1 g14_0 mm14
      refine gg_w (M := 1 + k14 * 900 + 900) gws ?_
      refine g_iload_n 15 (gd rfl) rfl rfl ?_
      refine g_if_eq 18 96 (gd rfl) rfl rfl (fun c15 => ?_) (fun c15 => ?_)
      · skip
        have i15 := z_eq 0 0 c15 j14_3 rfl
        have hpq := g14_0.1.1; rw [← e_109_109, ← v14_109_109] at hpq
        have n96 : PQ s sc14 := by exact g14_0.1
        have n96a : (sc14.2.2.1 109 23).toInt = 0 → (ht (fun i => hs (sc14.1 187 i) (sc14.1 188 i)) (s.2.2.1 109 109).toNatClampNeg ((sc14.2.2.1 109 109).toNatClampNeg - (s.2.2.1 109 109).toNatClampNeg)).isSome = true := by intro hf; rw [(g14_0.2 hf).2]; rfl
        have n96b : (w14_109_27).toInt ≤ (u_109_22).toInt := by first | exact n14_0 | (have a0 := oa8 h1 ro_109_22 ((inv_F hIc14 0 9 rfl v14_109_23)) ((inv_F hIc14 0 200 rfl v14_109_111)) ((inv_F hIc14 0 400 rfl v14_109_109)) ((inv_F hIc14 0 1000 rfl v14_109_27)) i15 j14_2; omega)
        have n96c : (sc14.2.2.1 109 27).toInt ≤ (sc14.2.2.1 109 22).toInt := by have b0 : w14_109_27 = sc14.2.2.1 109 27 := v14_109_27; have b1 : u_109_22 = sc14.2.2.1 109 22 := fr_F e_109_22 hFc14 rfl; rw [← b0, ← b1]; exact n96b
        have n96d : (w14_109_109).toInt ≤ (w14_109_27).toInt := by have a0 := oa8 h1 ro_109_22 ((inv_F hIc14 0 9 rfl v14_109_23)) ((inv_F hIc14 0 200 rfl v14_109_111)) ((inv_F hIc14 0 400 rfl v14_109_109)) ((inv_F hIc14 0 1000 rfl v14_109_27)) i15 j14_2; omega
        have n96e : (sc14.2.2.1 109 109).toInt ≤ (sc14.2.2.1 109 27).toInt := by have b0 : w14_109_109 = sc14.2.2.1 109 109 := v14_109_109; have b1 : w14_109_27 = sc14.2.2.1 109 27 := v14_109_27; rw [← b0, ← b1]; exact n96d
        have n96f : (u_109_109).toInt ≤ (w14_109_109).toInt := by have a0 := oa8 h1 ro_109_22 ((inv_F hIc14 0 9 rfl v14_109_23)) ((inv_F hIc14 0 200 rfl v14_109_111)) ((inv_F hIc14 0 400 rfl v14_109_109)) ((inv_F hIc14 0 1000 rfl v14_109_27)) i15 j14_2; omega
        have n96g : (s.2.2.1 109 109).toInt ≤ (sc14.2.2.1 109 109).toInt := by have b0 : w14_109_109 = sc14.2.2.1 109 109 := v14_109_109; first | (rw [← b0, ← e_109_109]; exact n96f) | (rw [← b0]; exact n96f)
        exact g_return (gd rfl) rfl (hP _ _ ⟨sc14, hIc14, hFc14, n96c, n96e, n96g, rfl, rfl, n96, n96a⟩)
      · skip
        have i15 := z_ne 1 1 c15 j14_3 rfl
        refine g_aload_n 19 (gd rfl) rfl rfl ?_
        refine g_getI 22 (gd rfl) rfl rfl rfl (fun z19 e19 => ?_)
        have q19 : w14_109_23 = z19 := (v14_109_23).trans e19.symm
        subst q19
        refine g_if_ne 25 96 (gd rfl) rfl rfl (fun c22 => ?_) (fun c22 => ?_)
        · skip
          have i22 := z_ne 1 9 c22 (inv_F hIc14 0 9 rfl v14_109_23) rfl
          have hpq := g14_0.1.1; rw [← e_109_109, ← v14_109_109] at hpq
          have n96 : PQ s sc14 := by exact g14_0.1
          have n96a : (sc14.2.2.1 109 23).toInt = 0 → (ht (fun i => hs (sc14.1 187 i) (sc14.1 188 i)) (s.2.2.1 109 109).toNatClampNeg ((sc14.2.2.1 109 109).toNatClampNeg - (s.2.2.1 109 109).toNatClampNeg)).isSome = true := by intro hf; rw [(g14_0.2 hf).2]; rfl
          have n96b : (w14_109_27).toInt ≤ (u_109_22).toInt := by first | exact n14_0 | (have a0 := oa8 h1 ro_109_22 i22 ((inv_F hIc14 0 200 rfl v14_109_111)) ((inv_F hIc14 0 400 rfl v14_109_109)) ((inv_F hIc14 0 1000 rfl v14_109_27)) i15 j14_2; omega)
          have n96c : (sc14.2.2.1 109 27).toInt ≤ (sc14.2.2.1 109 22).toInt := by have b0 : w14_109_27 = sc14.2.2.1 109 27 := v14_109_27; have b1 : u_109_22 = sc14.2.2.1 109 22 := fr_F e_109_22 hFc14 rfl; rw [← b0, ← b1]; exact n96b
          have n96d : (w14_109_109).toInt ≤ (w14_109_27).toInt := by have a0 := oa8 h1 ro_109_22 i22 ((inv_F hIc14 0 200 rfl v14_109_111)) ((inv_F hIc14 0 400 rfl v14_109_109)) ((inv_F hIc14 0 1000 rfl v14_109_27)) i15 j14_2; omega
          have n96e : (sc14.2.2.1 109 109).toInt ≤ (sc14.2.2.1 109 27).toInt := by have b0 : w14_109_109 = sc14.2.2.1 109 109 := v14_109_109; have b1 : w14_109_27 = sc14.2.2.1 109 27 := v14_109_27; rw [← b0, ← b1]; exact n96d
          have n96f : (u_109_109).toInt ≤ (w14_109_109).toInt := by have a0 := oa8 h1 ro_109_22 i22 ((inv_F hIc14 0 200 rfl v14_109_111)) ((inv_F hIc14 0 400 rfl v14_109_109)) ((inv_F hIc14 0 1000 rfl v14_109_27)) i15 j14_2; omega
          have n96g : (s.2.2.1 109 109).toInt ≤ (sc14.2.2.1 109 109).toInt := by have b0 : w14_109_109 = sc14.2.2.1 109 109 := v14_109_109; first | (rw [← b0, ← e_109_109]; exact n96f) | (rw [← b0]; exact n96f)
          exact g_return (gd rfl) rfl (hP _ _ ⟨sc14, hIc14, hFc14, n96c, n96e, n96g, rfl, rfl, n96, n96a⟩)
        · skip
          have i22 := z_eq 0 0 c22 (inv_F hIc14 0 9 rfl v14_109_23) rfl
          refine g_aload_n 26 (gd rfl) rfl rfl ?_
          have v26 : u_109_22 = sc14.2.2.1 109 22 := fr_F e_109_22 hFc14 rfl
          have n26 : (w14_109_27).toInt ≤ (u_109_22).toInt := by first | exact n14_0 | (have a0 := oa8 h1 ro_109_22 i22 ((inv_F hIc14 0 200 rfl v14_109_111)) ((inv_F hIc14 0 400 rfl v14_109_109)) ((inv_F hIc14 0 1000 rfl v14_109_27)) i15 j14_2; omega)
          refine g_callv (X := _) (As := []) (r := []) (b := A 109) (q := 109) 29 (gd rfl) rfl rfl rfl rfl rfl (ww_o rfl) (Nat.le_of_ble_eq_true rfl) (Nat.zero_le _) (Nat.zero_le _) (k_392 (by first | exact dq1 hd rfl | exact dq0 hd rfl | exact dq2 hd rfl | exact dq3 hd rfl | omega) hIc14 v14_109_27 v26 n26) (fun e u h => h) (fun v u h => ?_)
          obtain ⟨s26, hI26, hF26, n26a, n26b, n26c, rfl, rfl⟩ := h
          obtain ⟨z26a, e26⟩ : ∃ w, w = s26.2.2.1 109 27 := ⟨_, rfl⟩
          have i26a := inv_F hI26 0 1000 rfl e26
          obtain ⟨z26b, e26a⟩ : ∃ w, w = s26.2.2.1 109 28 := ⟨_, rfl⟩
          rw [← (show z26a = s26.2.2.1 109 27 from e26)] at n26a
          rw [← (show u_109_22 = s26.2.2.1 109 22 from fr_F (fr_F e_109_22 hFc14 rfl) hF26 rfl)] at n26a
          rw [← (show w14_109_27 = sc14.2.2.1 109 27 from v14_109_27)] at n26b
          rw [← (show z26a = s26.2.2.1 109 27 from e26)] at n26b
          rw [← (show w14_109_27 = sc14.2.2.1 109 27 from v14_109_27)] at n26c
          rw [← (show z26a = s26.2.2.1 109 27 from e26)] at n26c
          rw [← (show z26b = s26.2.2.1 109 28 from e26a)] at n26c
          show GG _ _ _ _ _ _ _ _ [] _ _ _
          refine g_aload_n 30 (gd rfl) rfl rfl ?_
          refine g_getI 33 (gd rfl) rfl rfl rfl (fun z30 e30 => ?_)
          have i30 := inv_F hI26 0 9 rfl e30
          refine g_if_ne 36 56 (gd rfl) rfl rfl (fun c33 => ?_) (fun c33 => ?_)
          · skip
            have i33 := z_ne 1 9 c33 i30 rfl
            refine g_aload_n 57 (gd rfl) rfl rfl ?_
            refine g_getI 60 (gd rfl) rfl rfl rfl (fun z57 e57 => ?_)
            have q57 : z30 = z57 := (e30).trans e57.symm
            subst q57
            refine g_if_ne 63 14 (gd rfl) rfl rfl (fun c60 => ?_) (fun c60 => ?_)
            · skip
              have v14 : w14_109_109 = s26.2.2.1 109 109 := fr_F (v14_109_109) hF26 rfl
              have v14a : w14_109_111 = s26.2.2.1 109 111 := fr_F (v14_109_111) hF26 rfl
              have n14 : (z26a).toInt ≤ (u_109_22).toInt := by have a0 := oa10 h1 ro_109_22 i22 ((inv_F hIc14 0 200 rfl v14_109_111)) ((inv_F hIc14 0 400 rfl v14_109_109)) ((inv_F hIc14 0 1000 rfl v14_109_27)) i15 j14_2 i33 i26a; omega
              have n14a : (w14_109_109).toInt + (w14_109_111).toInt ≤ (z26a).toInt := by have a0 := oa10 h1 ro_109_22 i22 ((inv_F hIc14 0 200 rfl v14_109_111)) ((inv_F hIc14 0 400 rfl v14_109_109)) ((inv_F hIc14 0 1000 rfl v14_109_27)) i15 j14_2 i33 i26a; omega
              have n14b : PQ s s26 ∧ PS s26 (s.2.2.1 109 109).toNatClampNeg (if (y14_2).toInt = 0 then 1 else 0) := by first | exact pe_tr g14_0 (pr_nx (hF26.1 187 rfl) (hF26.1 188 rfl) (hF26.2.2.1 109 109 rfl) (hF26.1 190 rfl) (hF26.2.2.1 109 111 rfl) (by rw [← e19]; exact c22)) | (have hg := g14_0; rw [if_neg c37] at hg; exact pe_tr hg (pr_tr (pr_nx (hF26.1 187 rfl) (hF26.1 188 rfl) (hF26.2.2.1 109 109 rfl) (hF26.1 190 rfl) (hF26.2.2.1 109 111 rfl) (by rw [← e19]; exact c22)) (p41 c44))) | (have hg := g14_0; rw [if_neg c37] at hg; exact pe_tr hg (pr_tr (pr_nx (hF26.1 187 rfl) (hF26.1 188 rfl) (hF26.2.2.1 109 109 rfl) (hF26.1 190 rfl) (hF26.2.2.1 109 111 rfl) (by rw [← e19]; exact c22)) (p41a c44))) | (have hg := g14_0; rw [if_pos c37] at hg; exact pe_tr hg (pr_tr (pr_nx (hF26.1 187 rfl) (hF26.1 188 rfl) (hF26.2.2.1 109 109 rfl) (hF26.1 190 rfl) (hF26.2.2.1 109 111 rfl) (by rw [← e19]; exact c22)) (p65 c72))) | (have hg := g14_0; rw [if_pos c37] at hg; exact pe_tr hg (pr_tr (pr_nx (hF26.1 187 rfl) (hF26.1 188 rfl) (hF26.2.2.1 109 109 rfl) (hF26.1 190 rfl) (hF26.2.2.1 109 111 rfl) (by rw [← e19]; exact c22)) (p65a c72))) | exact pe_0 (fr_sF rfl (fr_sF rfl fr_rf)) (by rw [← (show w14_109_111 = s26.2.2.1 109 111 from fr_F (v14_109_111) hF26 rfl)]; rfl)
              have m14 : 20 * ((u_109_22).toInt - (z26a).toInt) + 10 * (y14_3).toInt + 10 - (z30).toInt < ((k14 : Nat) : Int) := by have a0 := oa10 h1 ro_109_22 i22 ((inv_F hIc14 0 200 rfl v14_109_111)) ((inv_F hIc14 0 400 rfl v14_109_109)) ((inv_F hIc14 0 1000 rfl v14_109_27)) i15 j14_2 i33 i26a; omega
              exact gg_w (by first | exact Nat.le_add_right _ _ | exact gw2 | exact gw3 | exact gwe rfl | exact gwf rfl | exact gwg rfl | exact gwh rfl | omega) (gg_f (gf_cons rfl (gf_cons rfl (gf_cons rfl (gf_cons rfl gf_nil)))) (ih14  s26 y14_2 y14_3 z26a w14_109_109 w14_109_111 z30 hI26 (fr_tr rfl hFc14 hF26) (in_w 0 1 j14_2 rfl) (in_w 0 1 i15 rfl) e26 v14 v14a e30 n14 n14a n14b m14))
            · skip
              exact zn_eq c60 i33 rfl
          · skip
            have i33 := z_eq 0 0 c33 i30 rfl
            refine g_iload_n 37 (gd rfl) rfl rfl ?_
            refine g_if_eq 40 56 (gd rfl) rfl rfl (fun c37 => ?_) (fun c37 => ?_)
            · skip
              have i37 := z_eq 0 0 c37 j14_2 rfl
              refine g_aload_n 57 (gd rfl) rfl rfl ?_
              refine g_getI 60 (gd rfl) rfl rfl rfl (fun z57 e57 => ?_)
              have q57 : z30 = z57 := (e30).trans e57.symm
              subst q57
              refine g_if_ne 63 14 (gd rfl) rfl rfl (fun c60 => ?_) (fun c60 => ?_)
              · skip
                exact zn_ne c60 i33 rfl
              · skip
                refine g_aload_n 64 (gd rfl) rfl rfl ?_
                refine g_iload_n 65 (gd rfl) rfl rfl ?_
                have v65 : w14_109_109 = s26.2.2.1 109 109 := fr_F (v14_109_109) hF26 rfl
                have v65a : w14_109_111 = s26.2.2.1 109 111 := fr_F (v14_109_111) hF26 rfl
                have n65 : (w14_109_109).toInt + (w14_109_111).toInt ≤ 120 := by have a0 := oa10 h1 ro_109_22 i22 ((inv_F hIc14 0 200 rfl v14_109_111)) ((inv_F hIc14 0 400 rfl v14_109_109)) ((inv_F hIc14 0 1000 rfl v14_109_27)) i15 i37 i33 i26a; omega
                have n65a : (z26b).toInt ≠ 0 → (w14_109_109).toInt + (w14_109_111).toInt ≤ 119 := by have a0 := oa10 h1 ro_109_22 i22 ((inv_F hIc14 0 200 rfl v14_109_111)) ((inv_F hIc14 0 400 rfl v14_109_109)) ((inv_F hIc14 0 1000 rfl v14_109_27)) i15 i37 i33 i26a; omega
                refine g_callv (X := _) (As := [.int x1]) (r := []) (b := A 109) (q := 109) 68 (gd rfl) rfl rfl rfl rfl rfl (ww_o rfl) (Nat.le_of_ble_eq_true rfl) (Nat.zero_le _) (Nat.zero_le _) (k_402 (by first | exact dq1 hd rfl | exact dq0 hd rfl | exact dq2 hd rfl | exact dq3 hd rfl | omega) hI26 (in_w 0 1 h1 rfl) v65 v65a e26a n65 n65a) (fun e u h => h) (fun v u h => ?_)
                obtain ⟨s65, hI65, hF65, n65b, n65c, z65, rfl, rfl, i65, p65, p65a, p65b⟩ := h
                obtain ⟨z65a, e65⟩ : ∃ w, w = s65.2.2.1 109 109 := ⟨_, rfl⟩
                have i65a := inv_F hI65 0 400 rfl e65
                obtain ⟨z65b, e65a⟩ : ∃ w, w = s65.2.2.1 109 111 := ⟨_, rfl⟩
                have i65b := inv_F hI65 0 200 rfl e65a
                rw [← (show w14_109_109 = s26.2.2.1 109 109 from fr_F (v14_109_109) hF26 rfl)] at n65b
                rw [← (show w14_109_111 = s26.2.2.1 109 111 from fr_F (v14_109_111) hF26 rfl)] at n65b
                rw [← (show z65a = s65.2.2.1 109 109 from e65)] at n65b
                rw [← (show z65b = s65.2.2.1 109 111 from e65a)] at n65b
                rw [← (show z26b = s26.2.2.1 109 28 from e26a)] at n65c
                rw [← (show w14_109_109 = s26.2.2.1 109 109 from fr_F (v14_109_109) hF26 rfl)] at n65c
                rw [← (show w14_109_111 = s26.2.2.1 109 111 from fr_F (v14_109_111) hF26 rfl)] at n65c
                rw [← (show z65a = s65.2.2.1 109 109 from e65)] at n65c
                rw [← (show z65b = s65.2.2.1 109 111 from e65a)] at n65c
                show GG _ _ _ _ _ _ _ _ [.int z65] _ _ _
                refine g_istore 70 (gd rfl) rfl (Nat.le_of_ble_eq_true rfl) ?_
                have hb65 := p65b; rw [← e26a] at hb65
                refine g_iload 72 (gd rfl) rfl rfl ?_
                refine g_if_ne 75 79 (gd rfl) rfl rfl (fun c72 => ?_) (fun c72 => ?_)
                · skip
                  have i72 := z_ne 1 2 c72 i65 rfl
                  refine g_iconst 0 80 (gd rfl) rfl rfl ?_
                  refine g_istore_n 81 (gd rfl) rfl (Nat.le_of_ble_eq_true rfl) ?_
                  refine g_iload 83 (gd rfl) rfl rfl ?_
                  refine g_iconst 2 84 (gd rfl) rfl rfl ?_
                  refine g_cmp_ge 87 91 (gd rfl) rfl rfl (fun c84 => ?_) (fun c84 => ?_)
                  · skip
                    have i84 := r_le2 2 2 c84 (in_c 2 rfl) i72 rfl
                    refine g_iconst 0 92 (gd rfl) rfl rfl ?_
                    refine g_istore_n 93 (gd rfl) rfl (Nat.le_of_ble_eq_true rfl) ?_
                    refine g_goto 14 (gd rfl) rfl ?_
                    have v14 : z26a = s65.2.2.1 109 27 := fr_F (e26) hF65 rfl
                    have n14 : (z26a).toInt ≤ (u_109_22).toInt := by have a0 := oa13 h1 ro_109_22 i22 ((inv_F hIc14 0 200 rfl v14_109_111)) ((inv_F hIc14 0 400 rfl v14_109_109)) ((inv_F hIc14 0 1000 rfl v14_109_27)) i15 i37 i84 ((in_c 0 rfl)) i65b i65a i26a; omega
                    have n14a : (z65a).toInt + (z65b).toInt ≤ (z26a).toInt := by have a0 := oa13 h1 ro_109_22 i22 ((inv_F hIc14 0 200 rfl v14_109_111)) ((inv_F hIc14 0 400 rfl v14_109_109)) ((inv_F hIc14 0 1000 rfl v14_109_27)) i15 i37 i84 ((in_c 0 rfl)) i65b i65a i26a; omega
                    have n14b : PQ s s65 ∧ PS s65 (s.2.2.1 109 109).toNatClampNeg (if ((Int32.ofInt 0)).toInt = 0 then 1 else 0) := by first | exact pe_tr g14_0 (pr_nx (hF26.1 187 rfl) (hF26.1 188 rfl) (hF26.2.2.1 109 109 rfl) (hF26.1 190 rfl) (hF26.2.2.1 109 111 rfl) (by rw [← e19]; exact c22)) | (have hg := g14_0; rw [if_neg c37] at hg; exact pe_tr hg (pr_tr (pr_nx (hF26.1 187 rfl) (hF26.1 188 rfl) (hF26.2.2.1 109 109 rfl) (hF26.1 190 rfl) (hF26.2.2.1 109 111 rfl) (by rw [← e19]; exact c22)) (p41 c44))) | (have hg := g14_0; rw [if_neg c37] at hg; exact pe_tr hg (pr_tr (pr_nx (hF26.1 187 rfl) (hF26.1 188 rfl) (hF26.2.2.1 109 109 rfl) (hF26.1 190 rfl) (hF26.2.2.1 109 111 rfl) (by rw [← e19]; exact c22)) (p41a c44))) | (have hg := g14_0; rw [if_pos c37] at hg; exact pe_tr hg (pr_tr (pr_nx (hF26.1 187 rfl) (hF26.1 188 rfl) (hF26.2.2.1 109 109 rfl) (hF26.1 190 rfl) (hF26.2.2.1 109 111 rfl) (by rw [← e19]; exact c22)) (p65 c72))) | (have hg := g14_0; rw [if_pos c37] at hg; exact pe_tr hg (pr_tr (pr_nx (hF26.1 187 rfl) (hF26.1 188 rfl) (hF26.2.2.1 109 109 rfl) (hF26.1 190 rfl) (hF26.2.2.1 109 111 rfl) (by rw [← e19]; exact c22)) (p65a c72))) | exact pe_0 (fr_sF rfl (fr_sF rfl fr_rf)) (by rw [← (show z65b = s65.2.2.1 109 111 from e65a)]; rfl)
                    have m14 : 20 * ((u_109_22).toInt - (z26a).toInt) + 10 * ((Int32.ofInt 0)).toInt + 10 - ((s65.2.2.1 109 23)).toInt < ((k14 : Nat) : Int) := by have a0 := oa14 h1 ro_109_22 i22 ((inv_F hIc14 0 200 rfl v14_109_111)) ((inv_F hIc14 0 400 rfl v14_109_109)) ((inv_F hIc14 0 1000 rfl v14_109_27)) i15 i37 i84 ((in_c 0 rfl)) i65b i65a i26a ((show In (s65.2.2.1 109 23) 0 9 from inv_F hI65 0 9 rfl rfl)); omega
                    exact gg_w (by first | exact Nat.le_add_right _ _ | exact gw2 | exact gw3 | exact gwe rfl | exact gwf rfl | exact gwg rfl | exact gwh rfl | omega) (gg_f (gf_cons rfl (gf_cons rfl (gf_cons rfl (gf_cons rfl gf_nil)))) (ih14  s65 (Int32.ofInt 0) (Int32.ofInt 0) z26a z65a z65b _ hI65 (fr_tr rfl (fr_tr rfl hFc14 hF26) hF65) (in_w 0 1 (in_c 0 rfl) rfl) (in_w 0 1 (in_c 0 rfl) rfl) v14 e65 e65a rfl n14 n14a n14b m14))
                  · skip
                    have i84 := r_lt1 1 1 c84 i72 (in_c 2 rfl) rfl
                    refine g_iconst 1 88 (gd rfl) rfl rfl ?_
                    refine g_goto 92 (gd rfl) rfl ?_
                    refine g_istore_n 93 (gd rfl) rfl (Nat.le_of_ble_eq_true rfl) ?_
                    refine g_goto 14 (gd rfl) rfl ?_
                    have v14 : z26a = s65.2.2.1 109 27 := fr_F (e26) hF65 rfl
                    have n14 : (z26a).toInt ≤ (u_109_22).toInt := by have a0 := oa14 h1 ro_109_22 i22 ((inv_F hIc14 0 200 rfl v14_109_111)) ((inv_F hIc14 0 400 rfl v14_109_109)) ((inv_F hIc14 0 1000 rfl v14_109_27)) i15 i37 i84 ((in_c 1 rfl)) ((in_c 0 rfl)) i65b i65a i26a; omega
                    have n14a : (z65a).toInt + (z65b).toInt ≤ (z26a).toInt := by have a0 := oa14 h1 ro_109_22 i22 ((inv_F hIc14 0 200 rfl v14_109_111)) ((inv_F hIc14 0 400 rfl v14_109_109)) ((inv_F hIc14 0 1000 rfl v14_109_27)) i15 i37 i84 ((in_c 1 rfl)) ((in_c 0 rfl)) i65b i65a i26a; omega
                    have n14b : PQ s s65 ∧ PS s65 (s.2.2.1 109 109).toNatClampNeg (if ((Int32.ofInt 0)).toInt = 0 then 1 else 0) := by first | exact pe_tr g14_0 (pr_nx (hF26.1 187 rfl) (hF26.1 188 rfl) (hF26.2.2.1 109 109 rfl) (hF26.1 190 rfl) (hF26.2.2.1 109 111 rfl) (by rw [← e19]; exact c22)) | (have hg := g14_0; rw [if_neg c37] at hg; exact pe_tr hg (pr_tr (pr_nx (hF26.1 187 rfl) (hF26.1 188 rfl) (hF26.2.2.1 109 109 rfl) (hF26.1 190 rfl) (hF26.2.2.1 109 111 rfl) (by rw [← e19]; exact c22)) (p41 c44))) | (have hg := g14_0; rw [if_neg c37] at hg; exact pe_tr hg (pr_tr (pr_nx (hF26.1 187 rfl) (hF26.1 188 rfl) (hF26.2.2.1 109 109 rfl) (hF26.1 190 rfl) (hF26.2.2.1 109 111 rfl) (by rw [← e19]; exact c22)) (p41a c44))) | (have hg := g14_0; rw [if_pos c37] at hg; exact pe_tr hg (pr_tr (pr_nx (hF26.1 187 rfl) (hF26.1 188 rfl) (hF26.2.2.1 109 109 rfl) (hF26.1 190 rfl) (hF26.2.2.1 109 111 rfl) (by rw [← e19]; exact c22)) (p65 c72))) | (have hg := g14_0; rw [if_pos c37] at hg; exact pe_tr hg (pr_tr (pr_nx (hF26.1 187 rfl) (hF26.1 188 rfl) (hF26.2.2.1 109 109 rfl) (hF26.1 190 rfl) (hF26.2.2.1 109 111 rfl) (by rw [← e19]; exact c22)) (p65a c72))) | exact pe_0 (fr_sF rfl (fr_sF rfl fr_rf)) (by rw [← (show z65b = s65.2.2.1 109 111 from e65a)]; rfl)
                    have m14 : 20 * ((u_109_22).toInt - (z26a).toInt) + 10 * ((Int32.ofInt 1)).toInt + 10 - ((s65.2.2.1 109 23)).toInt < ((k14 : Nat) : Int) := by have a0 := oa15 h1 ro_109_22 i22 ((inv_F hIc14 0 200 rfl v14_109_111)) ((inv_F hIc14 0 400 rfl v14_109_109)) ((inv_F hIc14 0 1000 rfl v14_109_27)) i15 i37 i84 ((in_c 1 rfl)) ((in_c 0 rfl)) i65b i65a i26a ((show In (s65.2.2.1 109 23) 0 9 from inv_F hI65 0 9 rfl rfl)); omega
                    exact gg_w (by first | exact Nat.le_add_right _ _ | exact gw2 | exact gw3 | exact gwe rfl | exact gwf rfl | exact gwg rfl | exact gwh rfl | omega) (gg_f (gf_cons rfl (gf_cons rfl (gf_cons rfl (gf_cons rfl gf_nil)))) (ih14  s65 (Int32.ofInt 0) (Int32.ofInt 1) z26a z65a z65b _ hI65 (fr_tr rfl (fr_tr rfl hFc14 hF26) hF65) (in_w 0 1 (in_c 0 rfl) rfl) (in_w 0 1 (in_c 1 rfl) rfl) v14 e65 e65a rfl n14 n14a n14b m14))
                · skip
                  have i72 := z_eq 0 0 c72 i65 rfl
                  refine g_iconst 1 76 (gd rfl) rfl rfl ?_
                  refine g_goto 80 (gd rfl) rfl ?_
                  refine g_istore_n 81 (gd rfl) rfl (Nat.le_of_ble_eq_true rfl) ?_
                  refine g_iload 83 (gd rfl) rfl rfl ?_
                  refine g_iconst 2 84 (gd rfl) rfl rfl ?_
                  refine g_cmp_ge 87 91 (gd rfl) rfl rfl (fun c84 => ?_) (fun c84 => ?_)
                  · skip
                    exact n_le c84 (in_c 2 rfl) i72 rfl
                  · skip
                    refine g_iconst 1 88 (gd rfl) rfl rfl ?_
                    refine g_goto 92 (gd rfl) rfl ?_
                    refine g_istore_n 93 (gd rfl) rfl (Nat.le_of_ble_eq_true rfl) ?_
                    refine g_goto 14 (gd rfl) rfl ?_
                    have v14 : z26a = s65.2.2.1 109 27 := fr_F (e26) hF65 rfl
                    have n14 : (z26a).toInt ≤ (u_109_22).toInt := by have a0 := oa13 h1 ro_109_22 i22 ((inv_F hIc14 0 200 rfl v14_109_111)) ((inv_F hIc14 0 400 rfl v14_109_109)) ((inv_F hIc14 0 1000 rfl v14_109_27)) i15 i37 i72 ((in_c 1 rfl)) i65b i65a i26a; omega
                    have n14a : (z65a).toInt + (z65b).toInt ≤ (z26a).toInt := by have a0 := oa13 h1 ro_109_22 i22 ((inv_F hIc14 0 200 rfl v14_109_111)) ((inv_F hIc14 0 400 rfl v14_109_109)) ((inv_F hIc14 0 1000 rfl v14_109_27)) i15 i37 i72 ((in_c 1 rfl)) i65b i65a i26a; omega
                    have n14b : PQ s s65 ∧ PS s65 (s.2.2.1 109 109).toNatClampNeg (if ((Int32.ofInt 1)).toInt = 0 then 1 else 0) := by first | exact pe_tr g14_0 (pr_nx (hF26.1 187 rfl) (hF26.1 188 rfl) (hF26.2.2.1 109 109 rfl) (hF26.1 190 rfl) (hF26.2.2.1 109 111 rfl) (by rw [← e19]; exact c22)) | (have hg := g14_0; rw [if_neg c37] at hg; exact pe_tr hg (pr_tr (pr_nx (hF26.1 187 rfl) (hF26.1 188 rfl) (hF26.2.2.1 109 109 rfl) (hF26.1 190 rfl) (hF26.2.2.1 109 111 rfl) (by rw [← e19]; exact c22)) (p41 c44))) | (have hg := g14_0; rw [if_neg c37] at hg; exact pe_tr hg (pr_tr (pr_nx (hF26.1 187 rfl) (hF26.1 188 rfl) (hF26.2.2.1 109 109 rfl) (hF26.1 190 rfl) (hF26.2.2.1 109 111 rfl) (by rw [← e19]; exact c22)) (p41a c44))) | (have hg := g14_0; rw [if_pos c37] at hg; exact pe_tr hg (pr_tr (pr_nx (hF26.1 187 rfl) (hF26.1 188 rfl) (hF26.2.2.1 109 109 rfl) (hF26.1 190 rfl) (hF26.2.2.1 109 111 rfl) (by rw [← e19]; exact c22)) (p65 c72))) | (have hg := g14_0; rw [if_pos c37] at hg; exact pe_tr hg (pr_tr (pr_nx (hF26.1 187 rfl) (hF26.1 188 rfl) (hF26.2.2.1 109 109 rfl) (hF26.1 190 rfl) (hF26.2.2.1 109 111 rfl) (by rw [← e19]; exact c22)) (p65a c72))) | exact pe_0 (fr_sF rfl (fr_sF rfl fr_rf)) (by rw [← (show z65b = s65.2.2.1 109 111 from e65a)]; rfl)
                    have m14 : 20 * ((u_109_22).toInt - (z26a).toInt) + 10 * ((Int32.ofInt 1)).toInt + 10 - ((s65.2.2.1 109 23)).toInt < ((k14 : Nat) : Int) := by have a0 := oa14 h1 ro_109_22 i22 ((inv_F hIc14 0 200 rfl v14_109_111)) ((inv_F hIc14 0 400 rfl v14_109_109)) ((inv_F hIc14 0 1000 rfl v14_109_27)) i15 i37 i72 ((in_c 1 rfl)) i65b i65a i26a ((show In (s65.2.2.1 109 23) 0 9 from inv_F hI65 0 9 rfl rfl)); omega
                    exact gg_w (by first | exact Nat.le_add_right _ _ | exact gw2 | exact gw3 | exact gwe rfl | exact gwf rfl | exact gwg rfl | exact gwh rfl | omega) (gg_f (gf_cons rfl (gf_cons rfl (gf_cons rfl (gf_cons rfl gf_nil)))) (ih14  s65 (Int32.ofInt 1) (Int32.ofInt 1) z26a z65a z65b _ hI65 (fr_tr rfl (fr_tr rfl hFc14 hF26) hF65) (in_w 0 1 (in_c 1 rfl) rfl) (in_w 0 1 (in_c 1 rfl) rfl) v14 e65 e65a rfl n14 n14a n14b m14))
            · skip
              have i37 := z_ne 1 1 c37 j14_2 rfl
              refine g_aload_n 41 (gd rfl) rfl rfl ?_
              have v41 : w14_109_109 = s26.2.2.1 109 109 := fr_F (v14_109_109) hF26 rfl
              have v41a : w14_109_111 = s26.2.2.1 109 111 := fr_F (v14_109_111) hF26 rfl
              have n41 : (w14_109_109).toInt + (w14_109_111).toInt ≤ 120 := by have a0 := oa10 h1 ro_109_22 i22 ((inv_F hIc14 0 200 rfl v14_109_111)) ((inv_F hIc14 0 400 rfl v14_109_109)) ((inv_F hIc14 0 1000 rfl v14_109_27)) i15 i37 i33 i26a; omega
              have n41a : (z26b).toInt ≠ 0 → (w14_109_109).toInt + (w14_109_111).toInt ≤ 119 := by have a0 := oa10 h1 ro_109_22 i22 ((inv_F hIc14 0 200 rfl v14_109_111)) ((inv_F hIc14 0 400 rfl v14_109_109)) ((inv_F hIc14 0 1000 rfl v14_109_27)) i15 i37 i33 i26a; omega
              refine g_callv (X := _) (As := []) (r := []) (b := A 109) (q := 109) 44 (gd rfl) rfl rfl rfl rfl rfl (ww_o rfl) (Nat.le_of_ble_eq_true rfl) (Nat.zero_le _) (Nat.zero_le _) (k_401 (by first | exact dq1 hd rfl | exact dq0 hd rfl | exact dq2 hd rfl | exact dq3 hd rfl | omega) hI26 v41 v41a e26a n41 n41a) (fun e u h => h) (fun v u h => ?_)
              obtain ⟨s41, hI41, hF41, n41b, n41c, n41d, z41, rfl, rfl, i41, p41, p41a⟩ := h
              obtain ⟨z41a, e41⟩ : ∃ w, w = s41.2.2.1 109 109 := ⟨_, rfl⟩
              have i41a := inv_F hI41 0 400 rfl e41
              obtain ⟨z41b, e41a⟩ : ∃ w, w = s41.2.2.1 109 111 := ⟨_, rfl⟩
              have i41b := inv_F hI41 0 200 rfl e41a
              obtain ⟨z41c, e41b⟩ : ∃ w, w = s41.2.2.1 109 23 := ⟨_, rfl⟩
              have i41c := inv_F hI41 0 9 rfl e41b
              rw [← (show w14_109_109 = s26.2.2.1 109 109 from fr_F (v14_109_109) hF26 rfl)] at n41b
              rw [← (show w14_109_111 = s26.2.2.1 109 111 from fr_F (v14_109_111) hF26 rfl)] at n41b
              rw [← (show z41a = s41.2.2.1 109 109 from e41)] at n41b
              rw [← (show z41b = s41.2.2.1 109 111 from e41a)] at n41b
              rw [← (show z26b = s26.2.2.1 109 28 from e26a)] at n41c
              rw [← (show w14_109_109 = s26.2.2.1 109 109 from fr_F (v14_109_109) hF26 rfl)] at n41c
              rw [← (show w14_109_111 = s26.2.2.1 109 111 from fr_F (v14_109_111) hF26 rfl)] at n41c
              rw [← (show z41a = s41.2.2.1 109 109 from e41)] at n41c
              rw [← (show z41b = s41.2.2.1 109 111 from e41a)] at n41c
              rw [← (show z26b = s26.2.2.1 109 28 from e26a)] at n41d
              rw [← (show z41c = s41.2.2.1 109 23 from e41b)] at n41d
              show GG _ _ _ _ _ _ _ _ [.int z41] _ _ _
              refine g_if_ne 47 51 (gd rfl) rfl rfl (fun c44 => ?_) (fun c44 => ?_)
              · skip
                have i44 := z_ne 1 1 c44 i41 rfl
                refine g_iconst 0 52 (gd rfl) rfl rfl ?_
                refine g_istore_n 53 (gd rfl) rfl (Nat.le_of_ble_eq_true rfl) ?_
                refine g_goto 14 (gd rfl) rfl ?_
                have v14 : z26a = s41.2.2.1 109 27 := fr_F (e26) hF41 rfl
                have n14 : (z26a).toInt ≤ (u_109_22).toInt := by have a0 := oa13 h1 ro_109_22 i22 ((inv_F hIc14 0 200 rfl v14_109_111)) ((inv_F hIc14 0 400 rfl v14_109_109)) ((inv_F hIc14 0 1000 rfl v14_109_27)) i15 i37 ((in_c 0 rfl)) i41c i41b i41a i26a; omega
                have n14a : (z41a).toInt + (z41b).toInt ≤ (z26a).toInt := by have a0 := oa13 h1 ro_109_22 i22 ((inv_F hIc14 0 200 rfl v14_109_111)) ((inv_F hIc14 0 400 rfl v14_109_109)) ((inv_F hIc14 0 1000 rfl v14_109_27)) i15 i37 ((in_c 0 rfl)) i41c i41b i41a i26a; omega
                have n14b : PQ s s41 ∧ PS s41 (s.2.2.1 109 109).toNatClampNeg (if ((Int32.ofInt 0)).toInt = 0 then 1 else 0) := by first | exact pe_tr g14_0 (pr_nx (hF26.1 187 rfl) (hF26.1 188 rfl) (hF26.2.2.1 109 109 rfl) (hF26.1 190 rfl) (hF26.2.2.1 109 111 rfl) (by rw [← e19]; exact c22)) | (have hg := g14_0; rw [if_neg c37] at hg; exact pe_tr hg (pr_tr (pr_nx (hF26.1 187 rfl) (hF26.1 188 rfl) (hF26.2.2.1 109 109 rfl) (hF26.1 190 rfl) (hF26.2.2.1 109 111 rfl) (by rw [← e19]; exact c22)) (p41 c44))) | (have hg := g14_0; rw [if_neg c37] at hg; exact pe_tr hg (pr_tr (pr_nx (hF26.1 187 rfl) (hF26.1 188 rfl) (hF26.2.2.1 109 109 rfl) (hF26.1 190 rfl) (hF26.2.2.1 109 111 rfl) (by rw [← e19]; exact c22)) (p41a c44))) | (have hg := g14_0; rw [if_pos c37] at hg; exact pe_tr hg (pr_tr (pr_nx (hF26.1 187 rfl) (hF26.1 188 rfl) (hF26.2.2.1 109 109 rfl) (hF26.1 190 rfl) (hF26.2.2.1 109 111 rfl) (by rw [← e19]; exact c22)) (p65 c72))) | (have hg := g14_0; rw [if_pos c37] at hg; exact pe_tr hg (pr_tr (pr_nx (hF26.1 187 rfl) (hF26.1 188 rfl) (hF26.2.2.1 109 109 rfl) (hF26.1 190 rfl) (hF26.2.2.1 109 111 rfl) (by rw [← e19]; exact c22)) (p65a c72))) | exact pe_0 (fr_sF rfl (fr_sF rfl fr_rf)) (by rw [← (show z41b = s41.2.2.1 109 111 from e41a)]; rfl)
                have m14 : 20 * ((u_109_22).toInt - (z26a).toInt) + 10 * (y14_3).toInt + 10 - (z41c).toInt < ((k14 : Nat) : Int) := by have a0 := oa13 h1 ro_109_22 i22 ((inv_F hIc14 0 200 rfl v14_109_111)) ((inv_F hIc14 0 400 rfl v14_109_109)) ((inv_F hIc14 0 1000 rfl v14_109_27)) i15 i37 ((in_c 0 rfl)) i41c i41b i41a i26a; omega
                exact gg_w (by first | exact Nat.le_add_right _ _ | exact gw2 | exact gw3 | exact gwe rfl | exact gwf rfl | exact gwg rfl | exact gwh rfl | omega) (gg_f (gf_cons rfl (gf_cons rfl (gf_cons rfl (gf_cons rfl gf_nil)))) (ih14  s41 (Int32.ofInt 0) y14_3 z26a z41a z41b z41c hI41 (fr_tr rfl (fr_tr rfl hFc14 hF26) hF41) (in_w 0 1 (in_c 0 rfl) rfl) (in_w 0 1 i15 rfl) v14 e41 e41a e41b n14 n14a n14b m14))
              · skip
                have i44 := z_eq 0 0 c44 i41 rfl
                refine g_iconst 1 48 (gd rfl) rfl rfl ?_
                refine g_goto 52 (gd rfl) rfl ?_
                refine g_istore_n 53 (gd rfl) rfl (Nat.le_of_ble_eq_true rfl) ?_
                refine g_goto 14 (gd rfl) rfl ?_
                have v14 : z26a = s41.2.2.1 109 27 := fr_F (e26) hF41 rfl
                have n14 : (z26a).toInt ≤ (u_109_22).toInt := by have a0 := oa13 h1 ro_109_22 i22 ((inv_F hIc14 0 200 rfl v14_109_111)) ((inv_F hIc14 0 400 rfl v14_109_109)) ((inv_F hIc14 0 1000 rfl v14_109_27)) i15 i37 ((in_c 1 rfl)) i41c i41b i41a i26a; omega
                have n14a : (z41a).toInt + (z41b).toInt ≤ (z26a).toInt := by have a0 := oa13 h1 ro_109_22 i22 ((inv_F hIc14 0 200 rfl v14_109_111)) ((inv_F hIc14 0 400 rfl v14_109_109)) ((inv_F hIc14 0 1000 rfl v14_109_27)) i15 i37 ((in_c 1 rfl)) i41c i41b i41a i26a; omega
                have n14b : PQ s s41 ∧ PS s41 (s.2.2.1 109 109).toNatClampNeg (if ((Int32.ofInt 1)).toInt = 0 then 1 else 0) := by first | exact pe_tr g14_0 (pr_nx (hF26.1 187 rfl) (hF26.1 188 rfl) (hF26.2.2.1 109 109 rfl) (hF26.1 190 rfl) (hF26.2.2.1 109 111 rfl) (by rw [← e19]; exact c22)) | (have hg := g14_0; rw [if_neg c37] at hg; exact pe_tr hg (pr_tr (pr_nx (hF26.1 187 rfl) (hF26.1 188 rfl) (hF26.2.2.1 109 109 rfl) (hF26.1 190 rfl) (hF26.2.2.1 109 111 rfl) (by rw [← e19]; exact c22)) (p41 c44))) | (have hg := g14_0; rw [if_neg c37] at hg; exact pe_tr hg (pr_tr (pr_nx (hF26.1 187 rfl) (hF26.1 188 rfl) (hF26.2.2.1 109 109 rfl) (hF26.1 190 rfl) (hF26.2.2.1 109 111 rfl) (by rw [← e19]; exact c22)) (p41a c44))) | (have hg := g14_0; rw [if_pos c37] at hg; exact pe_tr hg (pr_tr (pr_nx (hF26.1 187 rfl) (hF26.1 188 rfl) (hF26.2.2.1 109 109 rfl) (hF26.1 190 rfl) (hF26.2.2.1 109 111 rfl) (by rw [← e19]; exact c22)) (p65 c72))) | (have hg := g14_0; rw [if_pos c37] at hg; exact pe_tr hg (pr_tr (pr_nx (hF26.1 187 rfl) (hF26.1 188 rfl) (hF26.2.2.1 109 109 rfl) (hF26.1 190 rfl) (hF26.2.2.1 109 111 rfl) (by rw [← e19]; exact c22)) (p65a c72))) | exact pe_0 (fr_sF rfl (fr_sF rfl fr_rf)) (by rw [← (show z41b = s41.2.2.1 109 111 from e41a)]; rfl)
                have m14 : 20 * ((u_109_22).toInt - (z26a).toInt) + 10 * (y14_3).toInt + 10 - (z41c).toInt < ((k14 : Nat) : Int) := by have a0 := oa13 h1 ro_109_22 i22 ((inv_F hIc14 0 200 rfl v14_109_111)) ((inv_F hIc14 0 400 rfl v14_109_109)) ((inv_F hIc14 0 1000 rfl v14_109_27)) i15 i37 ((in_c 1 rfl)) i41c i41b i41a i26a; omega
                exact gg_w (by first | exact Nat.le_add_right _ _ | exact gw2 | exact gw3 | exact gwe rfl | exact gwf rfl | exact gwg rfl | exact gwh rfl | omega) (gg_f (gf_cons rfl (gf_cons rfl (gf_cons rfl (gf_cons rfl gf_nil)))) (ih14  s41 (Int32.ofInt 1) y14_3 z26a z41a z41b z41c hI41 (fr_tr rfl (fr_tr rfl hFc14 hF26) hF41) (in_w 0 1 (in_c 1 rfl) rfl) (in_w 0 1 i15 rfl) v14 e41 e41a e41b n14 n14a n14b m14))
  refine g_enter2 (k := 403) (N := 2250901) (by first | exact dq1 hd rfl | exact dq0 hd rfl | exact dq2 hd rfl | exact dq3 hd rfl | omega) rfl (Nat.le_of_ble_eq_true rfl) ?_
  refine g_aload_n 1 (gd rfl) rfl rfl ?_
  refine g_iconst 0 2 (gd rfl) rfl rfl ?_
  refine g_putI 5 (gd rfl) rfl rfl rfl rfl ?_
  have hI2 := inv_sF (q := 109) (j := 111) hI rfl (in_w 0 200 (in_c 0 rfl) rfl)
  refine g_aload_n 6 (gd rfl) rfl rfl ?_
  refine g_iconst 0 7 (gd rfl) rfl rfl ?_
  refine g_putI 10 (gd rfl) rfl rfl rfl rfl ?_
  have hI7 := inv_sF (q := 109) (j := 112) hI2 rfl (in_w (-2147483648) 2147483647 (in_c 0 rfl) rfl)
  refine g_iconst 1 11 (gd rfl) rfl rfl ?_
  refine g_istore_n 12 (gd rfl) rfl (Nat.le_of_ble_eq_true rfl) ?_
  refine g_iconst 1 13 (gd rfl) rfl rfl ?_
  refine g_istore_n 14 (gd rfl) rfl (Nat.le_of_ble_eq_true rfl) ?_
  have v14 : u_109_27 = (sF (sF s 109 111 (Int32.ofInt 0)) 109 112 (Int32.ofInt 0)).2.2.1 109 27 := sF_ne rfl (sF_ne rfl (e_109_27))
  have v14a : u_109_109 = (sF (sF s 109 111 (Int32.ofInt 0)) 109 112 (Int32.ofInt 0)).2.2.1 109 109 := sF_ne rfl (sF_ne rfl (e_109_109))
  have v14b : (Int32.ofInt 0) = (sF (sF s 109 111 (Int32.ofInt 0)) 109 112 (Int32.ofInt 0)).2.2.1 109 111 := sF_ne rfl (sF_get)
  have n14 : (u_109_27).toInt ≤ (u_109_22).toInt := by have a0 := oa6 ((inv_F hI 0 400 rfl e_109_109)) ((inv_F hI 0 1000 rfl e_109_22)) ((inv_F hI 0 1000 rfl e_109_27)) h1 ((in_c 1 rfl)) ((in_c 0 rfl)); omega
  have n14a : (u_109_109).toInt + ((Int32.ofInt 0)).toInt ≤ (u_109_27).toInt := by have a0 := oa6 ((inv_F hI 0 400 rfl e_109_109)) ((inv_F hI 0 1000 rfl e_109_22)) ((inv_F hI 0 1000 rfl e_109_27)) h1 ((in_c 1 rfl)) ((in_c 0 rfl)); omega
  have n14b : PQ s (sF (sF s 109 111 (Int32.ofInt 0)) 109 112 (Int32.ofInt 0)) ∧ PS (sF (sF s 109 111 (Int32.ofInt 0)) 109 112 (Int32.ofInt 0)) (s.2.2.1 109 109).toNatClampNeg (if ((Int32.ofInt 1)).toInt = 0 then 1 else 0) := by first | exact pe_tr g14_0 (pr_nx (hF26.1 187 rfl) (hF26.1 188 rfl) (hF26.2.2.1 109 109 rfl) (hF26.1 190 rfl) (hF26.2.2.1 109 111 rfl) (by rw [← e19]; exact c22)) | (have hg := g14_0; rw [if_neg c37] at hg; exact pe_tr hg (pr_tr (pr_nx (hF26.1 187 rfl) (hF26.1 188 rfl) (hF26.2.2.1 109 109 rfl) (hF26.1 190 rfl) (hF26.2.2.1 109 111 rfl) (by rw [← e19]; exact c22)) (p41 c44))) | (have hg := g14_0; rw [if_neg c37] at hg; exact pe_tr hg (pr_tr (pr_nx (hF26.1 187 rfl) (hF26.1 188 rfl) (hF26.2.2.1 109 109 rfl) (hF26.1 190 rfl) (hF26.2.2.1 109 111 rfl) (by rw [← e19]; exact c22)) (p41a c44))) | (have hg := g14_0; rw [if_pos c37] at hg; exact pe_tr hg (pr_tr (pr_nx (hF26.1 187 rfl) (hF26.1 188 rfl) (hF26.2.2.1 109 109 rfl) (hF26.1 190 rfl) (hF26.2.2.1 109 111 rfl) (by rw [← e19]; exact c22)) (p65 c72))) | (have hg := g14_0; rw [if_pos c37] at hg; exact pe_tr hg (pr_tr (pr_nx (hF26.1 187 rfl) (hF26.1 188 rfl) (hF26.2.2.1 109 109 rfl) (hF26.1 190 rfl) (hF26.2.2.1 109 111 rfl) (by rw [← e19]; exact c22)) (p65a c72))) | exact pe_0 (fr_sF rfl (fr_sF rfl fr_rf)) (by rw [← (show (Int32.ofInt 0) = (sF (sF s 109 111 (Int32.ofInt 0)) 109 112 (Int32.ofInt 0)).2.2.1 109 111 from sF_ne rfl (sF_get))]; rfl)
  have m14 : 20 * ((u_109_22).toInt - (u_109_27).toInt) + 10 * ((Int32.ofInt 1)).toInt + 10 - (((sF (sF s 109 111 (Int32.ofInt 0)) 109 112 (Int32.ofInt 0)).2.2.1 109 23)).toInt < ((2500 : Nat) : Int) := by have a0 := oa6 ((inv_F hI 0 400 rfl e_109_109)) ((inv_F hI 0 1000 rfl e_109_22)) ((inv_F hI 0 1000 rfl e_109_27)) h1 ((in_c 1 rfl)) ((in_c 0 rfl)); have a6 := in_u ((show In ((sF (sF s 109 111 (Int32.ofInt 0)) 109 112 (Int32.ofInt 0)).2.2.1 109 23) 0 9 from inv_F hI7 0 9 rfl rfl)); omega
  exact gg_w (by first | exact Nat.le_of_ble_eq_true rfl | omega) (gg_f (gf_cons rfl (gf_cons rfl (gf_cons rfl (gf_cons rfl gf_nil)))) (ct14 2500 (sF (sF s 109 111 (Int32.ofInt 0)) 109 112 (Int32.ofInt 0)) (Int32.ofInt 1) (Int32.ofInt 1) u_109_27 u_109_109 (Int32.ofInt 0) _ hI7 (fr_sF rfl (fr_sF rfl fr_rf)) (in_w 0 1 (in_c 1 rfl) rfl) (in_w 0 1 (in_c 1 rfl) rfl) v14 v14a v14b rfl n14 n14a n14b m14))

def fm_404 : FM := ([184, 185, 186, 187, 188, 189, 190], [], [(109, 0), (109, 23), (109, 24), (109, 27), (109, 28), (109, 29), (109, 30), (109, 109), (109, 111), (109, 112)], [(109, 31)])
/-- GraphHouseModel.program -/
theorem k_404 {Z : AmZ} {A : Nat → Nat} {s : GS} {ex : va_W} {d : Nat} {X : AmX}  (hd : 6 ≤ d) (hI : Inv s)  : GC Z d 404 [.ref (A 109)] (WW Z A s ++ ex) 0 0 (fun v u => ∃ t : GS, Inv t ∧ Fr fm_404 s t ∧ ∃ z : Int32, v = some (.int z) ∧ u = WW Z A t ++ ex ∧ In z (-4) 0) X := by
  intro post xp hP hX
  obtain ⟨u_109_22, e_109_22⟩ : ∃ w, w = s.2.2.1 109 22 := ⟨_, rfl⟩
  have ro_109_22 := inv_F hI 0 1000 rfl e_109_22
  have ct88 : ∀ (k88 : Nat) (sc88 : GS) (y88_1 : Int32), Rng sc88 → Fr fm_404 s sc88 → (In y88_1 0 400) → (∀ k : Nat, (k : Int) < (y88_1).toInt → sc88.1 184 k = sc88.1 187 k ∧ sc88.1 185 k = sc88.1 188 k) → (QQ sc88) → 400 - (y88_1).toInt < (k88 : Int) → GG Z (d - 1) 404 post (gx xp) (1 + k88 * 900) 88 (fun j => xlook j [(0, .ref (A 109)), (1, .int y88_1)]) [] (WW Z A sc88 ++ ex) 0 0 := by
    intro k88
    induction k88 with
    | zero => intro sc88 y88_1 hIc88 hFc88 j88_1 g88_0 g88_1 mm88; exact m_no mm88 j88_1 rfl
    | succ k88 ih88 =>
      intro sc88 y88_1 hIc88 hFc88 j88_1 g88_0 g88_1 mm88
      refine gg_w (M := 1 + k88 * 900 + 900) gws ?_
      refine g_iload_n 89 (gd rfl) rfl rfl ?_
      refine g_aload_n 90 (gd rfl) rfl rfl ?_
      refine g_getI 93 (gd rfl) rfl rfl rfl (fun z90 e90 => ?_)
      have i90 := rng_F hIc88 0 400 rfl e90
      refine g_cmp_ge 96 126 (gd rfl) rfl rfl (fun c93 => ?_) (fun c93 => ?_)
      · skip
        refine g_aload_n 127 (gd rfl) rfl rfl ?_
        refine g_getA (q2 := 186) 130 (gd rfl) rfl rfl rfl rfl ?_
        refine g_iconst 1 131 (gd rfl) rfl rfl ?_
        refine g_aload_n 132 (gd rfl) rfl rfl ?_
        refine g_getA (q2 := 189) 135 (gd rfl) rfl rfl rfl rfl ?_
        refine g_iconst 1 136 (gd rfl) rfl rfl ?_
        refine g_iaload 137 (gd rfl) rfl (n := 3) rfl (in_ix (in_c 1 rfl) rfl) (fun z136 e136 => ?_)
        have i136 := rng_I hIc88 (n := 3) (t := 0) 0 120 rfl (in_ix (in_c 1 rfl) rfl) rfl e136
        refine g_iastore 138 (gd rfl) rfl (n := 3) rfl (in_ix (in_c 1 rfl) rfl) ?_
        have hI137 := rng_sI (q := 186) (j := (Int32.ofInt 1).toNatClampNeg) hIc88 rfl (in_w 0 120 i136 rfl)
        refine g_aload_n 139 (gd rfl) rfl rfl ?_
        refine g_getA (q2 := 186) 142 (gd rfl) rfl rfl rfl rfl ?_
        refine g_iconst 2 143 (gd rfl) rfl rfl ?_
        refine g_aload_n 144 (gd rfl) rfl rfl ?_
        refine g_getA (q2 := 189) 147 (gd rfl) rfl rfl rfl rfl ?_
        refine g_iconst 2 148 (gd rfl) rfl rfl ?_
        refine g_iaload 149 (gd rfl) rfl (n := 3) rfl (in_ix (in_c 2 rfl) rfl) (fun z148 e148 => ?_)
        have i148 := rng_I hI137 (n := 3) (t := 0) 0 120 rfl (in_ix (in_c 2 rfl) rfl) rfl e148
        refine g_iastore 150 (gd rfl) rfl (n := 3) rfl (in_ix (in_c 2 rfl) rfl) ?_
        have hI149 := rng_sI (q := 186) (j := (Int32.ofInt 2).toNatClampNeg) hI137 rfl (in_w 0 120 i148 rfl)
        refine g_iconst 0 151 (gd rfl) rfl rfl ?_
        have hI151 : Inv (sI (sI sc88 186 (Int32.ofInt 1).toNatClampNeg z136) 186 (Int32.ofInt 2).toNatClampNeg z148) := by first | (have hFF : Fr ([187, 188, 189, 190], [], [(109, 0), (109, 23), (109, 24), (109, 27), (109, 28), (109, 29), (109, 30), (109, 109), (109, 111), (109, 112)], [(109, 31)]) s (sI (sI sc88 186 (Int32.ofInt 1).toNatClampNeg z136) 186 (Int32.ofInt 2).toNatClampNeg z148) := (fr_sI rfl (fr_sI rfl hFc88)); exact ⟨hI149, kk_all hI.2 hFF rfl⟩) | (have hFF : Fr fm_404 s (sI (sI sc88 186 (Int32.ofInt 1).toNatClampNeg z136) 186 (Int32.ofInt 2).toNatClampNeg z148) := (fr_sI rfl (fr_sI rfl hFc88)); exact ⟨hI149, kk_prog hI.2 hFF rfl (fin_kp g88_0 g88_1 e90 c93 e136 e148)⟩)
        exact g_ireturn (gd rfl) rfl rfl (hP _ _ ⟨(sI (sI sc88 186 (Int32.ofInt 1).toNatClampNeg z136) 186 (Int32.ofInt 2).toNatClampNeg z148), hI151, (fr_sI rfl (fr_sI rfl hFc88)), (Int32.ofInt 0), rfl, rfl, in_w (-4) 0 (in_c 0 rfl) rfl⟩)
      · skip
        have i93 := r_lt1 0 399 c93 j88_1 i90 rfl
        have i93a := r_lt2 1 400 c93 j88_1 i90 rfl
        refine g_aload_n 97 (gd rfl) rfl rfl ?_
        refine g_getA (q2 := 184) 100 (gd rfl) rfl rfl rfl rfl ?_
        refine g_iload_n 101 (gd rfl) rfl rfl ?_
        refine g_aload_n 102 (gd rfl) rfl rfl ?_
        refine g_getA (q2 := 187) 105 (gd rfl) rfl rfl rfl rfl ?_
        refine g_iload_n 106 (gd rfl) rfl rfl ?_
        refine g_iaload 107 (gd rfl) rfl (n := 400) rfl (in_ix i93 rfl) (fun z106 e106 => ?_)
        refine g_iastore 108 (gd rfl) rfl (n := 400) rfl (in_ix i93 rfl) ?_
        have hI107 := rng_sI (q := 184) (j := y88_1.toNatClampNeg) hIc88 rfl (in_w (-2147483648) 2147483647 (i_rng z106) rfl)
        refine g_aload_n 109 (gd rfl) rfl rfl ?_
        refine g_getA (q2 := 185) 112 (gd rfl) rfl rfl rfl rfl ?_
        refine g_iload_n 113 (gd rfl) rfl rfl ?_
        refine g_aload_n 114 (gd rfl) rfl rfl ?_
        refine g_getA (q2 := 188) 117 (gd rfl) rfl rfl rfl rfl ?_
        refine g_iload_n 118 (gd rfl) rfl rfl ?_
        refine g_iaload 119 (gd rfl) rfl (n := 400) rfl (in_ix i93 rfl) (fun z118 e118 => ?_)
        refine g_iastore 120 (gd rfl) rfl (n := 400) rfl (in_ix i93 rfl) ?_
        have hI119 := rng_sI (q := 185) (j := y88_1.toNatClampNeg) hI107 rfl (in_w (-2147483648) 2147483647 (i_rng z118) rfl)
        refine g_iinc 123 (gd rfl) rfl rfl (Nat.le_of_ble_eq_true rfl) (fun z120 e120 => ?_)
        have i120 := in_add 1 400 e120 i93 (in_c 1 rfl) rfl rfl
        refine g_goto 88 (gd rfl) rfl ?_
        have n88 : ∀ k : Nat, (k : Int) < (z120).toInt → (sI (sI sc88 184 y88_1.toNatClampNeg z106) 185 y88_1.toNatClampNeg z118).1 184 k = (sI (sI sc88 184 y88_1.toNatClampNeg z106) 185 y88_1.toNatClampNeg z118).1 187 k ∧ (sI (sI sc88 184 y88_1.toNatClampNeg z106) 185 y88_1.toNatClampNeg z118).1 185 k = (sI (sI sc88 184 y88_1.toNatClampNeg z106) 185 y88_1.toNatClampNeg z118).1 188 k := by first | (intro k hk; exfalso; have h0 : (Int32.ofInt 0).toInt = 0 := rfl; omega) | exact cpy_s g88_0 e106 e118 j88_1.1 (t_add e120 i93 (in_c 1 rfl) rfl)
        have n88a : QQ (sI (sI sc88 184 y88_1.toNatClampNeg z106) 185 y88_1.toNatClampNeg z118) := by first | exact qq_s g88_1 | exact qq_0 p41a (by rw [← v41b]; rfl) (by have h := c58; rw [e55] at h; exact h) e41a i53.1 p63 p63a (by have h := c80; have h2 := i77; unfold In at h2; show ((sI s63 189 (Int32.ofInt 2).toNatClampNeg z63b).2.2.1 109 23).toInt = 0; rw [← e77]; omega) (hF63.1 189 rfl) e63a
        exact gg_w (by first | exact Nat.le_add_right _ _ | exact gw2 | exact gw3 | exact gwe rfl | exact gwf rfl | exact gwg rfl | exact gwh rfl | omega) (gg_f (gf_cons rfl (gf_cons rfl gf_nil)) (ih88 (sI (sI sc88 184 y88_1.toNatClampNeg z106) 185 y88_1.toNatClampNeg z118) z120 hI119 (fr_sI rfl (fr_sI rfl hFc88)) (in_w 0 400 i120 rfl) n88 n88a (m_up mm88 (t_add e120 i93 (in_c 1 rfl) rfl) (in_w 1 1 (in_c 1 rfl) rfl))))
  refine g_enter2 (k := 404) (N := 361801) (by first | exact dq1 hd rfl | exact dq0 hd rfl | exact dq2 hd rfl | exact dq3 hd rfl | omega) rfl (Nat.le_of_ble_eq_true rfl) ?_
  refine g_aload_n 1 (gd rfl) rfl rfl ?_
  refine g_iconst 0 2 (gd rfl) rfl rfl ?_
  refine g_putI 5 (gd rfl) rfl rfl rfl rfl ?_
  have hI2 := rng_sF (q := 109) (j := 0) hI.1 rfl (in_w 0 2 (in_c 0 rfl) rfl)
  refine g_aload_n 6 (gd rfl) rfl rfl ?_
  refine g_iconst 0 7 (gd rfl) rfl rfl ?_
  refine g_putI 10 (gd rfl) rfl rfl rfl rfl ?_
  have hI7 := rng_sF (q := 109) (j := 23) hI2 rfl (in_w 0 9 (in_c 0 rfl) rfl)
  refine g_aload_n 11 (gd rfl) rfl rfl ?_
  refine g_getI 14 (gd rfl) rfl rfl rfl (fun z11 e11 => ?_)
  have q11 : u_109_22 = z11 := (sF_ne rfl (sF_ne rfl (e_109_22))).trans e11.symm
  subst q11
  refine g_bipush 120 16 (gd rfl) rfl rfl ?_
  refine g_cmp_le 19 29 (gd rfl) rfl rfl (fun c16 => ?_) (fun c16 => ?_)
  · skip
    have i16 := r_le1 0 120 c16 ro_109_22 (in_c 120 rfl) rfl
    refine g_aload_n 30 (gd rfl) rfl rfl ?_
    refine g_iconst 0 31 (gd rfl) rfl rfl ?_
    refine g_putI 34 (gd rfl) rfl rfl rfl rfl ?_
    have hI31 := rng_sF (q := 109) (j := 27) hI7 rfl (in_w 0 1000 (in_c 0 rfl) rfl)
    refine g_aload_n 35 (gd rfl) rfl rfl ?_
    refine g_iconst 0 36 (gd rfl) rfl rfl ?_
    refine g_putI 39 (gd rfl) rfl rfl rfl rfl ?_
    have hI36 := rng_sF (q := 109) (j := 109) hI31 rfl (in_w 0 400 (in_c 0 rfl) rfl)
    refine g_aload_n 40 (gd rfl) rfl rfl ?_
    refine g_iconst 1 41 (gd rfl) rfl rfl ?_
    have hI41 : Inv (sF (sF (sF (sF s 109 0 (Int32.ofInt 0)) 109 23 (Int32.ofInt 0)) 109 27 (Int32.ofInt 0)) 109 109 (Int32.ofInt 0)) := by have hFF : Fr ([187, 188, 189, 190], [], [(109, 0), (109, 23), (109, 24), (109, 27), (109, 28), (109, 29), (109, 30), (109, 109), (109, 111), (109, 112)], [(109, 31)]) s (sF (sF (sF (sF s 109 0 (Int32.ofInt 0)) 109 23 (Int32.ofInt 0)) 109 27 (Int32.ofInt 0)) 109 109 (Int32.ofInt 0)) := (fr_sF rfl (fr_sF rfl (fr_sF rfl (fr_sF rfl fr_rf)))); exact ⟨hI36, kk_all hI.2 hFF rfl⟩
    have v41 : (Int32.ofInt 0) = (sF (sF (sF (sF s 109 0 (Int32.ofInt 0)) 109 23 (Int32.ofInt 0)) 109 27 (Int32.ofInt 0)) 109 109 (Int32.ofInt 0)).2.2.1 109 27 := sF_ne rfl (sF_get)
    have v41a : u_109_22 = (sF (sF (sF (sF s 109 0 (Int32.ofInt 0)) 109 23 (Int32.ofInt 0)) 109 27 (Int32.ofInt 0)) 109 109 (Int32.ofInt 0)).2.2.1 109 22 := sF_ne rfl (sF_ne rfl (sF_ne rfl (sF_ne rfl (e_109_22))))
    have v41b : (Int32.ofInt 0) = (sF (sF (sF (sF s 109 0 (Int32.ofInt 0)) 109 23 (Int32.ofInt 0)) 109 27 (Int32.ofInt 0)) 109 109 (Int32.ofInt 0)).2.2.1 109 109 := sF_get
    have n41 : ((Int32.ofInt 0)).toInt ≤ (u_109_22).toInt := by have a0 := oa2 i16 ((in_c 0 rfl)); omega
    have n41a : (u_109_22).toInt ≤ 120 := by have a0 := oa2 i16 ((in_c 0 rfl)); omega
    have n41b : ((Int32.ofInt 0)).toInt ≤ ((Int32.ofInt 0)).toInt := by exact Int.le_refl _
    refine g_callv (X := _) (As := [.int (Int32.ofInt 1)]) (r := []) (b := A 109) (q := 109) 44 (gd rfl) rfl rfl rfl rfl rfl (ww_o rfl) (Nat.le_of_ble_eq_true rfl) (Nat.zero_le _) (Nat.zero_le _) (k_403 (by first | exact dq1 hd rfl | exact dq0 hd rfl | exact dq2 hd rfl | exact dq3 hd rfl | omega) hI41 (in_w 0 1 (in_c 1 rfl) rfl) v41 v41a v41b n41 n41a n41b) (fun e u h => h) (fun v u h => ?_)
    obtain ⟨s41, hI41a, hF41, n41c, n41d, n41e, rfl, rfl, p41, p41a⟩ := h
    obtain ⟨z41a, e41⟩ : ∃ w, w = s41.2.2.1 109 27 := ⟨_, rfl⟩
    have i41a := rng_F hI41a.1 0 1000 rfl e41
    obtain ⟨z41b, e41a⟩ : ∃ w, w = s41.2.2.1 109 109 := ⟨_, rfl⟩
    have i41b := rng_F hI41a.1 0 400 rfl e41a
    rw [← (show z41a = s41.2.2.1 109 27 from e41)] at n41c
    rw [← (show u_109_22 = s41.2.2.1 109 22 from fr_F (s := (sF (sF (sF (sF s 109 0 (Int32.ofInt 0)) 109 23 (Int32.ofInt 0)) 109 27 (Int32.ofInt 0)) 109 109 (Int32.ofInt 0))) (sF_ne rfl (sF_ne rfl (sF_ne rfl (sF_ne rfl (e_109_22))))) hF41 rfl)] at n41c
    rw [← (show z41a = s41.2.2.1 109 27 from e41)] at n41d
    rw [← (show z41b = s41.2.2.1 109 109 from e41a)] at n41d
    rw [← (show (Int32.ofInt 0) = (sF (sF (sF (sF s 109 0 (Int32.ofInt 0)) 109 23 (Int32.ofInt 0)) 109 27 (Int32.ofInt 0)) 109 109 (Int32.ofInt 0)).2.2.1 109 109 from sF_get)] at n41e
    rw [← (show z41b = s41.2.2.1 109 109 from e41a)] at n41e
    show GG _ _ _ _ _ _ _ _ [] _ _ _
    refine g_aload_n 45 (gd rfl) rfl rfl ?_
    refine g_getA (q2 := 189) 48 (gd rfl) rfl rfl rfl rfl ?_
    refine g_iconst 1 49 (gd rfl) rfl rfl ?_
    refine g_aload_n 50 (gd rfl) rfl rfl ?_
    refine g_getI 53 (gd rfl) rfl rfl rfl (fun z50 e50 => ?_)
    have q50 : z41b = z50 := (e41a).trans e50.symm
    subst q50
    have i53 : In z41b 0 120 := by exact ⟨by have a0 := oa4 i16 i41b i41a ((in_c 0 rfl)); omega, by have a0 := oa4 i16 i41b i41a ((in_c 0 rfl)); omega⟩
    refine g_iastore 54 (gd rfl) rfl (n := 3) rfl (in_ix (in_c 1 rfl) rfl) ?_
    have hI53 := rng_sI (q := 189) (j := (Int32.ofInt 1).toNatClampNeg) hI41a.1 rfl (in_w 0 120 i53 rfl)
    refine g_aload_n 55 (gd rfl) rfl rfl ?_
    refine g_getI 58 (gd rfl) rfl rfl rfl (fun z55 e55 => ?_)
    have i55 := rng_F hI53 0 9 rfl e55
    refine g_if_ne 61 66 (gd rfl) rfl rfl (fun c58 => ?_) (fun c58 => ?_)
    · skip
      have i58 := z_ne 1 9 c58 i55 rfl
      refine g_aload_n 67 (gd rfl) rfl rfl ?_
      refine g_getA (q2 := 189) 70 (gd rfl) rfl rfl rfl rfl ?_
      refine g_iconst 2 71 (gd rfl) rfl rfl ?_
      refine g_aload_n 72 (gd rfl) rfl rfl ?_
      refine g_getI 75 (gd rfl) rfl rfl rfl (fun z72 e72 => ?_)
      have q72 : z41b = z72 := (sI_F (e41a)).trans e72.symm
      subst q72
      have i75 : In z41b 0 120 := by exact ⟨by have a0 := oa5 i16 i58 i53 i41a ((in_c 0 rfl)); omega, by have a0 := oa5 i16 i58 i53 i41a ((in_c 0 rfl)); omega⟩
      refine g_iastore 76 (gd rfl) rfl (n := 3) rfl (in_ix (in_c 2 rfl) rfl) ?_
      have hI75 := rng_sI (q := 189) (j := (Int32.ofInt 2).toNatClampNeg) hI53 rfl (in_w 0 120 i75 rfl)
      refine g_aload_n 77 (gd rfl) rfl rfl ?_
      refine g_getI 80 (gd rfl) rfl rfl rfl (fun z77 e77 => ?_)
      have q77 : z55 = z77 := (sI_F (e55)).trans e77.symm
      subst q77
      refine g_if_le 83 86 (gd rfl) rfl rfl (fun c80 => ?_) (fun c80 => ?_)
      · skip
        exact zn_le c80 i58 rfl
      · skip
        refine g_bipush (-4) 85 (gd rfl) rfl rfl ?_
        have hI85 : Inv (sI (sI s41 189 (Int32.ofInt 1).toNatClampNeg z41b) 189 (Int32.ofInt 2).toNatClampNeg z41b) := by first | (have hFF : Fr ([187, 188, 189, 190], [], [(109, 0), (109, 23), (109, 24), (109, 27), (109, 28), (109, 29), (109, 30), (109, 109), (109, 111), (109, 112)], [(109, 31)]) s (sI (sI s41 189 (Int32.ofInt 1).toNatClampNeg z41b) 189 (Int32.ofInt 2).toNatClampNeg z41b) := (fr_sI rfl (fr_sI rfl (fr_tr rfl (fr_sF rfl (fr_sF rfl (fr_sF rfl (fr_sF rfl fr_rf)))) hF41))); exact ⟨hI75, kk_all hI.2 hFF rfl⟩) | (have hFF : Fr fm_404 s (sI (sI s41 189 (Int32.ofInt 1).toNatClampNeg z41b) 189 (Int32.ofInt 2).toNatClampNeg z41b) := (fr_sI rfl (fr_sI rfl (fr_tr rfl (fr_sF rfl (fr_sF rfl (fr_sF rfl (fr_sF rfl fr_rf)))) hF41))); exact ⟨hI75, kk_prog hI.2 hFF rfl (fin_kp g88_0 g88_1 e90 c93 e136 e148)⟩)
        exact g_ireturn (gd rfl) rfl rfl (hP _ _ ⟨(sI (sI s41 189 (Int32.ofInt 1).toNatClampNeg z41b) 189 (Int32.ofInt 2).toNatClampNeg z41b), hI85, (fr_sI rfl (fr_sI rfl (fr_tr rfl (fr_sF rfl (fr_sF rfl (fr_sF rfl (fr_sF rfl fr_rf)))) hF41))), (Int32.ofInt (-4)), rfl, rfl, in_w (-4) 0 (in_c (-4) rfl) rfl⟩)
    · skip
      have i58 := z_eq 0 0 c58 i55 rfl
      refine g_aload_n 62 (gd rfl) rfl rfl ?_
      refine g_iconst 0 63 (gd rfl) rfl rfl ?_
      have hI63 : Inv (sI s41 189 (Int32.ofInt 1).toNatClampNeg z41b) := by have hFF : Fr ([187, 188, 189, 190], [], [(109, 0), (109, 23), (109, 24), (109, 27), (109, 28), (109, 29), (109, 30), (109, 109), (109, 111), (109, 112)], [(109, 31)]) s (sI s41 189 (Int32.ofInt 1).toNatClampNeg z41b) := (fr_sI rfl (fr_tr rfl (fr_sF rfl (fr_sF rfl (fr_sF rfl (fr_sF rfl fr_rf)))) hF41)); exact ⟨hI53, kk_all hI.2 hFF rfl⟩
      have v63 : z41a = (sI s41 189 (Int32.ofInt 1).toNatClampNeg z41b).2.2.1 109 27 := sI_F (e41)
      have v63a : u_109_22 = (sI s41 189 (Int32.ofInt 1).toNatClampNeg z41b).2.2.1 109 22 := sI_F (fr_F (s := (sF (sF (sF (sF s 109 0 (Int32.ofInt 0)) 109 23 (Int32.ofInt 0)) 109 27 (Int32.ofInt 0)) 109 109 (Int32.ofInt 0))) (sF_ne rfl (sF_ne rfl (sF_ne rfl (sF_ne rfl (e_109_22))))) hF41 rfl)
      have v63b : z41b = (sI s41 189 (Int32.ofInt 1).toNatClampNeg z41b).2.2.1 109 109 := sI_F (e41a)
      have n63 : (z41a).toInt ≤ (u_109_22).toInt := by have a0 := oa5 i16 i58 i53 i41a ((in_c 0 rfl)); omega
      have n63a : (u_109_22).toInt ≤ 120 := by have a0 := oa5 i16 i58 i53 i41a ((in_c 0 rfl)); omega
      have n63b : (z41b).toInt ≤ (z41a).toInt := by have a0 := oa5 i16 i58 i53 i41a ((in_c 0 rfl)); omega
      refine g_callv (X := _) (As := [.int (Int32.ofInt 0)]) (r := []) (b := A 109) (q := 109) 66 (gd rfl) rfl rfl rfl rfl rfl (ww_o rfl) (Nat.le_of_ble_eq_true rfl) (Nat.zero_le _) (Nat.zero_le _) (k_403 (by first | exact dq1 hd rfl | exact dq0 hd rfl | exact dq2 hd rfl | exact dq3 hd rfl | omega) hI63 (in_w 0 1 (in_c 0 rfl) rfl) v63 v63a v63b n63 n63a n63b) (fun e u h => h) (fun v u h => ?_)
      obtain ⟨s63, hI63a, hF63, n63c, n63d, n63e, rfl, rfl, p63, p63a⟩ := h
      obtain ⟨z63a, e63⟩ : ∃ w, w = s63.2.2.1 109 27 := ⟨_, rfl⟩
      have i63a := rng_F hI63a.1 0 1000 rfl e63
      obtain ⟨z63b, e63a⟩ : ∃ w, w = s63.2.2.1 109 109 := ⟨_, rfl⟩
      have i63b := rng_F hI63a.1 0 400 rfl e63a
      rw [← (show z63a = s63.2.2.1 109 27 from e63)] at n63c
      rw [← (show u_109_22 = s63.2.2.1 109 22 from fr_F (s := (sI s41 189 (Int32.ofInt 1).toNatClampNeg z41b)) (sI_F (fr_F (s := (sF (sF (sF (sF s 109 0 (Int32.ofInt 0)) 109 23 (Int32.ofInt 0)) 109 27 (Int32.ofInt 0)) 109 109 (Int32.ofInt 0))) (sF_ne rfl (sF_ne rfl (sF_ne rfl (sF_ne rfl (e_109_22))))) hF41 rfl)) hF63 rfl)] at n63c
      rw [← (show z63a = s63.2.2.1 109 27 from e63)] at n63d
      rw [← (show z63b = s63.2.2.1 109 109 from e63a)] at n63d
      rw [← (show z41b = (sI s41 189 (Int32.ofInt 1).toNatClampNeg z41b).2.2.1 109 109 from sI_F (e41a))] at n63e
      rw [← (show z63b = s63.2.2.1 109 109 from e63a)] at n63e
      show GG _ _ _ _ _ _ _ _ [] _ _ _
      refine g_aload_n 67 (gd rfl) rfl rfl ?_
      refine g_getA (q2 := 189) 70 (gd rfl) rfl rfl rfl rfl ?_
      refine g_iconst 2 71 (gd rfl) rfl rfl ?_
      refine g_aload_n 72 (gd rfl) rfl rfl ?_
      refine g_getI 75 (gd rfl) rfl rfl rfl (fun z72 e72 => ?_)
      have q72 : z63b = z72 := (e63a).trans e72.symm
      subst q72
      have i75 : In z63b 0 120 := by exact ⟨by have a0 := oa4 i16 i63b i63a ((in_c 0 rfl)); omega, by have a0 := oa4 i16 i63b i63a ((in_c 0 rfl)); omega⟩
      refine g_iastore 76 (gd rfl) rfl (n := 3) rfl (in_ix (in_c 2 rfl) rfl) ?_
      have hI75 := rng_sI (q := 189) (j := (Int32.ofInt 2).toNatClampNeg) hI63a.1 rfl (in_w 0 120 i75 rfl)
      refine g_aload_n 77 (gd rfl) rfl rfl ?_
      refine g_getI 80 (gd rfl) rfl rfl rfl (fun z77 e77 => ?_)
      have i77 := rng_F hI75 0 9 rfl e77
      refine g_if_le 83 86 (gd rfl) rfl rfl (fun c80 => ?_) (fun c80 => ?_)
      · skip
        have i80 := z_le 0 0 c80 i77 rfl
        refine g_iconst 0 87 (gd rfl) rfl rfl ?_
        refine g_istore_n 88 (gd rfl) rfl (Nat.le_of_ble_eq_true rfl) ?_
        have n88 : ∀ k : Nat, (k : Int) < ((Int32.ofInt 0)).toInt → (sI s63 189 (Int32.ofInt 2).toNatClampNeg z63b).1 184 k = (sI s63 189 (Int32.ofInt 2).toNatClampNeg z63b).1 187 k ∧ (sI s63 189 (Int32.ofInt 2).toNatClampNeg z63b).1 185 k = (sI s63 189 (Int32.ofInt 2).toNatClampNeg z63b).1 188 k := by first | (intro k hk; exfalso; have h0 : (Int32.ofInt 0).toInt = 0 := rfl; omega) | exact cpy_s g88_0 e106 e118 j88_1.1 (t_add e120 i93 (in_c 1 rfl) rfl)
        have n88a : QQ (sI s63 189 (Int32.ofInt 2).toNatClampNeg z63b) := by first | exact qq_s g88_1 | exact qq_0 p41a (by rw [← v41b]; rfl) (by have h := c58; rw [e55] at h; exact h) e41a i53.1 p63 p63a (by have h := c80; have h2 := i77; unfold In at h2; show ((sI s63 189 (Int32.ofInt 2).toNatClampNeg z63b).2.2.1 109 23).toInt = 0; rw [← e77]; omega) (hF63.1 189 rfl) e63a
        exact gg_w (by first | exact Nat.le_of_ble_eq_true rfl | omega) (gg_f (gf_cons rfl (gf_cons rfl gf_nil)) (ct88 401 (sI s63 189 (Int32.ofInt 2).toNatClampNeg z63b) (Int32.ofInt 0) hI75 (fr_sI rfl (fr_tr rfl (fr_sI rfl (fr_tr rfl (fr_sF rfl (fr_sF rfl (fr_sF rfl (fr_sF rfl fr_rf)))) hF41)) hF63)) (in_w 0 400 (in_c 0 rfl) rfl) n88 n88a (m_in 401 (in_w 0 400 (in_c 0 rfl) rfl) rfl)))
      · skip
        have i80 := z_gt 1 9 c80 i77 rfl
        refine g_bipush (-4) 85 (gd rfl) rfl rfl ?_
        have hI85 : Inv (sI s63 189 (Int32.ofInt 2).toNatClampNeg z63b) := by first | (have hFF : Fr ([187, 188, 189, 190], [], [(109, 0), (109, 23), (109, 24), (109, 27), (109, 28), (109, 29), (109, 30), (109, 109), (109, 111), (109, 112)], [(109, 31)]) s (sI s63 189 (Int32.ofInt 2).toNatClampNeg z63b) := (fr_sI rfl (fr_tr rfl (fr_sI rfl (fr_tr rfl (fr_sF rfl (fr_sF rfl (fr_sF rfl (fr_sF rfl fr_rf)))) hF41)) hF63)); exact ⟨hI75, kk_all hI.2 hFF rfl⟩) | (have hFF : Fr fm_404 s (sI s63 189 (Int32.ofInt 2).toNatClampNeg z63b) := (fr_sI rfl (fr_tr rfl (fr_sI rfl (fr_tr rfl (fr_sF rfl (fr_sF rfl (fr_sF rfl (fr_sF rfl fr_rf)))) hF41)) hF63)); exact ⟨hI75, kk_prog hI.2 hFF rfl (fin_kp g88_0 g88_1 e90 c93 e136 e148)⟩)
        exact g_ireturn (gd rfl) rfl rfl (hP _ _ ⟨(sI s63 189 (Int32.ofInt 2).toNatClampNeg z63b), hI85, (fr_sI rfl (fr_tr rfl (fr_sI rfl (fr_tr rfl (fr_sF rfl (fr_sF rfl (fr_sF rfl (fr_sF rfl fr_rf)))) hF41)) hF63)), (Int32.ofInt (-4)), rfl, rfl, in_w (-4) 0 (in_c (-4) rfl) rfl⟩)
  · skip
    have i16 := r_lt2 121 1000 c16 (in_c 120 rfl) ro_109_22 rfl
    refine g_aload_n 20 (gd rfl) rfl rfl ?_
    refine g_iconst 2 21 (gd rfl) rfl rfl ?_
    refine g_bipush 120 23 (gd rfl) rfl rfl ?_
    have hI23 : Inv (sF (sF s 109 0 (Int32.ofInt 0)) 109 23 (Int32.ofInt 0)) := by have hFF : Fr ([187, 188, 189, 190], [], [(109, 0), (109, 23), (109, 24), (109, 27), (109, 28), (109, 29), (109, 30), (109, 109), (109, 111), (109, 112)], [(109, 31)]) s (sF (sF s 109 0 (Int32.ofInt 0)) 109 23 (Int32.ofInt 0)) := (fr_sF rfl (fr_sF rfl fr_rf)); exact ⟨hI7, kk_all hI.2 hFF rfl⟩
    refine g_callv (X := _) (As := [.int (Int32.ofInt 2), .int (Int32.ofInt 120)]) (r := []) (b := A 109) (q := 109) 26 (gd rfl) rfl rfl rfl rfl rfl (ww_o rfl) (Nat.le_of_ble_eq_true rfl) (Nat.zero_le _) (Nat.zero_le _) (k_298 (by first | exact dq1 hd rfl | exact dq0 hd rfl | exact dq2 hd rfl | exact dq3 hd rfl | omega) hI23 (in_w 1 5 (in_c 2 rfl) rfl)) (fun e u h => h) (fun v u h => ?_)
    obtain ⟨s23, hI23a, hF23, n23, rfl, rfl⟩ := h
    obtain ⟨z23a, e23⟩ : ∃ w, w = s23.2.2.1 109 23 := ⟨_, rfl⟩
    have i23a := rng_F hI23a.1 0 9 rfl e23
    rw [← (show z23a = s23.2.2.1 109 23 from e23)] at n23
    show GG _ _ _ _ _ _ _ _ [] _ _ _
    refine g_bipush (-4) 28 (gd rfl) rfl rfl ?_
    have hI28 : Inv s23 := by first | (have hFF : Fr ([187, 188, 189, 190], [], [(109, 0), (109, 23), (109, 24), (109, 27), (109, 28), (109, 29), (109, 30), (109, 109), (109, 111), (109, 112)], [(109, 31)]) s s23 := (fr_tr rfl (fr_sF rfl (fr_sF rfl fr_rf)) hF23); exact ⟨hI23a.1, kk_all hI.2 hFF rfl⟩) | (have hFF : Fr fm_404 s s23 := (fr_tr rfl (fr_sF rfl (fr_sF rfl fr_rf)) hF23); exact ⟨hI23a.1, kk_prog hI.2 hFF rfl (fin_kp g88_0 g88_1 e90 c93 e136 e148)⟩)
    exact g_ireturn (gd rfl) rfl rfl (hP _ _ ⟨s23, hI28, (fr_tr rfl (fr_sF rfl (fr_sF rfl fr_rf)) hF23), (Int32.ofInt (-4)), rfl, rfl, in_w (-4) 0 (in_c (-4) rfl) rfl⟩)

def fm_408 : FM := ([], [193], [], [])
/-- GraphHouseModel.workOut -/
theorem k_408 {Z : AmZ} {A : Nat → Nat} {s : GS} {ex : va_W} {d : Nat} {X : AmX} {x1 : Int32} (hd : 3 ≤ d) (hI : Inv s) (h1 : In x1 0 1) : GC Z d 408 [.ref (A 109), .int x1] (WW Z A s ++ ex) 0 0 (fun v u => ∃ t : GS, Inv t ∧ Fr fm_408 s t ∧ ∃ z : Int64, v = some (.long z) ∧ u = WW Z A t ++ ex) X := by
  intro post xp hP hX
  have ct17 : ∀ (k17 : Nat) (sc17 : GS) (y17_2 : Int32) (y17_3 : Int32), Inv sc17 → Fr fm_408 s sc17 → (In y17_2 0 120) → (In y17_3 0 120) → ((y17_2).toInt ≤ (y17_3).toInt) → (WS sc17 x1 y17_3 y17_2) → 120 - (y17_3).toInt < (k17 : Int) → GG Z (d - 1) 408 post (gx xp) (1 + k17 * 900) 17 (fun j => xlook j [(0, .ref (A 109)), (1, .int x1), (2, .int y17_2), (3, .int y17_3)]) [] (WW Z A sc17 ++ ex) 0 0 := by
    intro k17
    induction k17 with
    | zero => intro sc17 y17_2 y17_3 hIc17 hFc17 j17_2 j17_3 n17_0 g17_0 mm17; exact m_no mm17 j17_3 rfl
    | succ k17 ih17 =>
      intro sc17 y17_2 y17_3 hIc17 hFc17 j17_2 j17_3 n17_0 g17_0 mm17
      refine gg_w (M := 1 + k17 * 900 + 900) gws ?_
      refine g_iload_n 18 (gd rfl) rfl rfl ?_
      refine g_aload_n 19 (gd rfl) rfl rfl ?_
      refine g_getA (q2 := 186) 22 (gd rfl) rfl rfl rfl rfl ?_
      refine g_iload_n 23 (gd rfl) rfl rfl ?_
      refine g_iconst 1 24 (gd rfl) rfl rfl ?_
      refine g_iadd 25 (gd rfl) rfl (fun z24 e24 => ?_)
      have i24 := in_add 1 2 e24 h1 (in_c 1 rfl) rfl rfl
      refine g_iaload 26 (gd rfl) rfl (n := 3) rfl (in_ix i24 rfl) (fun z25 e25 => ?_)
      have i25 := inv_I hIc17 (n := 3) (t := 0) 0 120 rfl (in_ix i24 rfl) rfl e25
      refine g_cmp_ge 29 232 (gd rfl) rfl rfl (fun c26 => ?_) (fun c26 => ?_)
      · skip
        refine g_aload_n 233 (gd rfl) rfl rfl ?_
        refine g_getA (q2 := 193) 236 (gd rfl) rfl rfl rfl rfl ?_
        refine g_iconst 0 237 (gd rfl) rfl rfl ?_
        refine g_laload 238 (gd rfl) rfl (n := 200) rfl (in_ix (in_c 0 rfl) rfl) (fun z237 e237 => ?_)
        exact g_lreturn (gd rfl) rfl (hP _ _ ⟨sc17, hIc17, hFc17, z237, rfl, rfl⟩)
      · skip
        have i26 := r_lt1 0 119 c26 j17_3 i25 rfl
        have i26a := r_lt2 1 120 c26 j17_3 i25 rfl
        refine g_aload_n 30 (gd rfl) rfl rfl ?_
        refine g_getA (q2 := 184) 33 (gd rfl) rfl rfl rfl rfl ?_
        refine g_iload_n 34 (gd rfl) rfl rfl ?_
        refine g_iaload 35 (gd rfl) rfl (n := 400) rfl (in_ix i26 rfl) (fun z34 e34 => ?_)
        refine g_istore 37 (gd rfl) rfl (Nat.le_of_ble_eq_true rfl) ?_
        obtain ⟨kn, hk1, hk2⟩ := ws_ok hIc17 h1 g17_0 e34 (t_add e24 h1 (in_c 1 rfl) rfl) e25 c26; have hkle := ws_le g17_0; have hk0 := g17_0.1
        refine g_iload 39 (gd rfl) rfl rfl ?_
        refine g_iconst 2 40 (gd rfl) rfl rfl ?_
        refine g_cmp_ge 43 81 (gd rfl) rfl rfl (fun c40 => ?_) (fun c40 => ?_)
        · skip
          have i40 := r_le2 2 2147483647 c40 (in_c 2 rfl) (i_rng z34) rfl
          refine g_iload 83 (gd rfl) rfl rfl ?_
          refine g_iconst 2 84 (gd rfl) rfl rfl ?_
          refine g_cmp_ne 87 110 (gd rfl) rfl rfl (fun c84 => ?_) (fun c84 => ?_)
          · skip
            have i84 := r_ne1 3 2147483647 c84 i40 (in_c 2 rfl) rfl
            have hk3 := hs_3 hk1 (by have a0 := oa5 h1 i26 j17_2 i84 i24; have a5 := t_add e24 h1 (in_c 1 rfl) rfl; have a6 := in_u ((in_c 1 rfl)); omega) c84
            refine g_iinc 113 (gd rfl) rfl rfl (Nat.le_of_ble_eq_true rfl) (fun z110 e110 => ?_)
            have i110 := in_add (-1) 119 e110 j17_2 (in_c (-1) rfl) rfl rfl
            refine g_aload_n 114 (gd rfl) rfl rfl ?_
            refine g_getA (q2 := 193) 117 (gd rfl) rfl rfl rfl rfl ?_
            refine g_iload_n 118 (gd rfl) rfl rfl ?_
            refine g_iconst 1 119 (gd rfl) rfl rfl ?_
            refine g_isub 120 (gd rfl) rfl (fun z119 e119 => ?_)
            have i119 := in_sub (-2) 118 e119 i110 (in_c 1 rfl) rfl rfl
            have i120 : In z119 0 199 := by have a0 := oa5 h1 i26 j17_2 i84 i110; have a5 := t_add e110 j17_2 (in_c (-1) rfl) rfl; have a6 := oa2 ((in_c (-1) rfl)) i119; have a8 := t_sub e119 i110 (in_c 1 rfl) rfl; have a9 := oa2 ((in_c 1 rfl)) i24; have a11 := t_add e24 h1 (in_c 1 rfl) rfl; exact ⟨by omega, by omega⟩
            refine g_laload 121 (gd rfl) rfl (n := 200) rfl (in_ix i120 rfl) (fun z120 e120 => ?_)
            refine g_lstore 123 (gd rfl) rfl (Nat.le_of_ble_eq_true rfl) ?_
            refine g_aload_n 124 (gd rfl) rfl rfl ?_
            refine g_getA (q2 := 193) 127 (gd rfl) rfl rfl rfl rfl ?_
            refine g_iload_n 128 (gd rfl) rfl rfl ?_
            have i128 : In z110 0 199 := by have a0 := oa5 h1 i26 j17_2 i84 i110; have a5 := t_add e110 j17_2 (in_c (-1) rfl) rfl; have a6 := oa2 ((in_c (-1) rfl)) i120; have a8 := t_sub e119 i110 (in_c 1 rfl) rfl; have a9 := oa2 ((in_c 1 rfl)) i24; have a11 := t_add e24 h1 (in_c 1 rfl) rfl; exact ⟨by omega, by omega⟩
            refine g_laload 129 (gd rfl) rfl (n := 200) rfl (in_ix i128 rfl) (fun z128 e128 => ?_)
            refine g_lstore 131 (gd rfl) rfl (Nat.le_of_ble_eq_true rfl) ?_
            refine g_aload_n 132 (gd rfl) rfl rfl ?_
            refine g_getA (q2 := 193) 135 (gd rfl) rfl rfl rfl rfl ?_
            refine g_iload_n 136 (gd rfl) rfl rfl ?_
            refine g_iconst 1 137 (gd rfl) rfl rfl ?_
            refine g_isub 138 (gd rfl) rfl (fun z137 e137 => ?_)
            have i137 := in_sub (-1) 198 e137 i128 (in_c 1 rfl) rfl rfl
            refine g_iload 140 (gd rfl) rfl rfl ?_
            refine g_bipush 42 142 (gd rfl) rfl rfl ?_
            refine g_cmp_ne 145 158 (gd rfl) rfl rfl (fun c142 => ?_) (fun c142 => ?_)
            · skip
              refine g_iload 160 (gd rfl) rfl rfl ?_
              refine g_bipush 43 162 (gd rfl) rfl rfl ?_
              refine g_cmp_ne 165 176 (gd rfl) rfl rfl (fun c162 => ?_) (fun c162 => ?_)
              · skip
                refine g_iload 178 (gd rfl) rfl rfl ?_
                refine g_bipush 45 180 (gd rfl) rfl rfl ?_
                refine g_cmp_ne 183 194 (gd rfl) rfl rfl (fun c180 => ?_) (fun c180 => ?_)
                · skip
                  refine g_iload 196 (gd rfl) rfl rfl ?_
                  refine g_bipush 60 198 (gd rfl) rfl rfl ?_
                  refine g_cmp_ne 201 212 (gd rfl) rfl rfl (fun c198 => ?_) (fun c198 => ?_)
                  · skip
                    refine g_lload 214 (gd rfl) rfl rfl ?_
                    refine g_lload 216 (gd rfl) rfl rfl ?_
                    refine g_lcmp 217 (gd rfl) rfl (fun z216 e216 => ?_)
                    have i216 := lc_in e216
                    refine g_if_ne 220 224 (gd rfl) rfl rfl (fun c217 => ?_) (fun c217 => ?_)
                    · skip
                      have c217a := lc_ne e216 c217
                      refine g_lconst 0 225 (gd rfl) rfl rfl ?_
                      have i225 : In z137 0 199 := by have a0 := oa5 h1 i26 j17_2 i84 i128; have a5 := t_add e110 j17_2 (in_c (-1) rfl) rfl; have a6 := oa2 ((in_c (-1) rfl)) i137; have a8 := t_sub e137 i128 (in_c 1 rfl) rfl; have a9 := oa2 ((in_c 1 rfl)) i120; have a11 := t_sub e119 i110 (in_c 1 rfl) rfl; have a12 := in_u i24; have a13 := t_add e24 h1 (in_c 1 rfl) rfl; exact ⟨by omega, by omega⟩
                      refine g_lastore 226 (gd rfl) rfl (n := 200) rfl (in_ix i225 rfl) ?_
                      have hI225 := inv_sL (q := 193) (j := z137.toNatClampNeg) (x := (Int64.ofInt 0)) hIc17 rfl (l_rng (Int64.ofInt 0))
                      refine g_iinc 229 (gd rfl) rfl rfl (Nat.le_of_ble_eq_true rfl) (fun z226 e226 => ?_)
                      have i226 := in_add 1 120 e226 i26 (in_c 1 rfl) rfl rfl
                      refine g_goto 17 (gd rfl) rfl ?_
                      have i17 : In z110 0 120 := by exact ⟨by have a0 := oa5 h1 i26 j17_2 i84 i226; have a5 := t_add e226 i26 (in_c 1 rfl) rfl; have a6 := oa2 ((in_c 1 rfl)) i128; have a8 := t_add e110 j17_2 (in_c (-1) rfl) rfl; have a9 := oa2 ((in_c (-1) rfl)) i225; have a11 := t_sub e137 i128 (in_c 1 rfl) rfl; have a12 := in_u i120; have a13 := t_sub e119 i110 (in_c 1 rfl) rfl; have a14 := in_u i24; have a15 := t_add e24 h1 (in_c 1 rfl) rfl; omega, by have a0 := oa5 h1 i26 j17_2 i84 i226; have a5 := t_add e226 i26 (in_c 1 rfl) rfl; have a6 := oa2 ((in_c 1 rfl)) i128; have a8 := t_add e110 j17_2 (in_c (-1) rfl) rfl; have a9 := oa2 ((in_c (-1) rfl)) i225; have a11 := t_sub e137 i128 (in_c 1 rfl) rfl; have a12 := in_u i120; have a13 := t_sub e119 i110 (in_c 1 rfl) rfl; have a14 := in_u i24; have a15 := t_add e24 h1 (in_c 1 rfl) rfl; omega⟩
                      have n17 : (z110).toInt ≤ (z226).toInt := by have a0 := oa5 h1 i26 j17_2 i84 i226; have a5 := t_add e226 i26 (in_c 1 rfl) rfl; have a6 := oa2 ((in_c 1 rfl)) i17; have a8 := t_add e110 j17_2 (in_c (-1) rfl) rfl; have a9 := oa2 ((in_c (-1) rfl)) i225; have a11 := t_sub e137 i128 (in_c 1 rfl) rfl; have a12 := in_u i120; have a13 := t_sub e119 i110 (in_c 1 rfl) rfl; have a14 := in_u i24; have a15 := t_add e24 h1 (in_c 1 rfl) rfl; omega
                      have n17a : WS (sL sc17 193 z137.toNatClampNeg (Int64.ofInt 0)) x1 z226 z110 := by first | exact hk2 _ _ (by have a0 := oa5 h1 i26 j17_2 i84 i226; have a5 := t_add e226 i26 (in_c 1 rfl) rfl; have a6 := oa2 ((in_c 1 rfl)) i17; have a8 := t_add e110 j17_2 (in_c (-1) rfl) rfl; have a9 := oa2 ((in_c (-1) rfl)) i225; have a11 := t_sub e137 i128 (in_c 1 rfl) rfl; have a12 := in_u i120; have a13 := t_sub e119 i110 (in_c 1 rfl) rfl; have a14 := in_u i24; have a15 := t_add e24 h1 (in_c 1 rfl) rfl; omega) (by have a0 := oa5 h1 i26 j17_2 i84 i226; have a5 := t_add e226 i26 (in_c 1 rfl) rfl; have a6 := oa2 ((in_c 1 rfl)) i17; have a8 := t_add e110 j17_2 (in_c (-1) rfl) rfl; have a9 := oa2 ((in_c (-1) rfl)) i225; have a11 := t_sub e137 i128 (in_c 1 rfl) rfl; have a12 := in_u i120; have a13 := t_sub e119 i110 (in_c 1 rfl) rfl; have a14 := in_u i24; have a15 := t_add e24 h1 (in_c 1 rfl) rfl; omega) | exact ws_0 rfl (by first | exact (by decide) | exact i15.1) (by unfold wa; first | (rw [if_pos c3]; rfl) | (rw [if_neg c3, e15]; rfl))
                      exact gg_w (by first | exact Nat.le_add_right _ _ | exact gw2 | exact gw3 | exact gwe rfl | exact gwf rfl | exact gwg rfl | exact gwh rfl | omega) (gg_f (gf_cons rfl (gf_cons rfl (gf_cons rfl (gf_cons rfl gf_nil)))) (ih17 (sL sc17 193 z137.toNatClampNeg (Int64.ofInt 0)) z110 z226 hI225 (fr_sL rfl hFc17) i17 (in_w 0 120 i226 rfl) n17 n17a (m_up mm17 (t_add e226 i26 (in_c 1 rfl) rfl) (in_w 1 1 (in_c 1 rfl) rfl))))
                    · skip
                      have i217 := z_eq 0 0 c217 i216 rfl
                      have c217a := lc_eq e216 c217
                      refine g_lconst 1 221 (gd rfl) rfl rfl ?_
                      refine g_goto 225 (gd rfl) rfl ?_
                      have i225 : In z137 0 199 := by have a0 := oa5 h1 i26 j17_2 i84 i128; have a5 := t_add e110 j17_2 (in_c (-1) rfl) rfl; have a6 := oa2 ((in_c (-1) rfl)) i137; have a8 := t_sub e137 i128 (in_c 1 rfl) rfl; have a9 := oa2 ((in_c 1 rfl)) i120; have a11 := t_sub e119 i110 (in_c 1 rfl) rfl; have a12 := in_u i24; have a13 := t_add e24 h1 (in_c 1 rfl) rfl; exact ⟨by omega, by omega⟩
                      refine g_lastore 226 (gd rfl) rfl (n := 200) rfl (in_ix i225 rfl) ?_
                      have hI225 := inv_sL (q := 193) (j := z137.toNatClampNeg) (x := (Int64.ofInt 1)) hIc17 rfl (l_rng (Int64.ofInt 1))
                      refine g_iinc 229 (gd rfl) rfl rfl (Nat.le_of_ble_eq_true rfl) (fun z226 e226 => ?_)
                      have i226 := in_add 1 120 e226 i26 (in_c 1 rfl) rfl rfl
                      refine g_goto 17 (gd rfl) rfl ?_
                      have i17 : In z110 0 120 := by exact ⟨by have a0 := oa5 h1 i26 j17_2 i84 i226; have a5 := t_add e226 i26 (in_c 1 rfl) rfl; have a6 := oa2 ((in_c 1 rfl)) i128; have a8 := t_add e110 j17_2 (in_c (-1) rfl) rfl; have a9 := oa2 ((in_c (-1) rfl)) i225; have a11 := t_sub e137 i128 (in_c 1 rfl) rfl; have a12 := in_u i120; have a13 := t_sub e119 i110 (in_c 1 rfl) rfl; have a14 := in_u i24; have a15 := t_add e24 h1 (in_c 1 rfl) rfl; omega, by have a0 := oa5 h1 i26 j17_2 i84 i226; have a5 := t_add e226 i26 (in_c 1 rfl) rfl; have a6 := oa2 ((in_c 1 rfl)) i128; have a8 := t_add e110 j17_2 (in_c (-1) rfl) rfl; have a9 := oa2 ((in_c (-1) rfl)) i225; have a11 := t_sub e137 i128 (in_c 1 rfl) rfl; have a12 := in_u i120; have a13 := t_sub e119 i110 (in_c 1 rfl) rfl; have a14 := in_u i24; have a15 := t_add e24 h1 (in_c 1 rfl) rfl; omega⟩
                      have n17 : (z110).toInt ≤ (z226).toInt := by have a0 := oa5 h1 i26 j17_2 i84 i226; have a5 := t_add e226 i26 (in_c 1 rfl) rfl; have a6 := oa2 ((in_c 1 rfl)) i17; have a8 := t_add e110 j17_2 (in_c (-1) rfl) rfl; have a9 := oa2 ((in_c (-1) rfl)) i225; have a11 := t_sub e137 i128 (in_c 1 rfl) rfl; have a12 := in_u i120; have a13 := t_sub e119 i110 (in_c 1 rfl) rfl; have a14 := in_u i24; have a15 := t_add e24 h1 (in_c 1 rfl) rfl; omega
                      have n17a : WS (sL sc17 193 z137.toNatClampNeg (Int64.ofInt 1)) x1 z226 z110 := by first | exact hk2 _ _ (by have a0 := oa5 h1 i26 j17_2 i84 i226; have a5 := t_add e226 i26 (in_c 1 rfl) rfl; have a6 := oa2 ((in_c 1 rfl)) i17; have a8 := t_add e110 j17_2 (in_c (-1) rfl) rfl; have a9 := oa2 ((in_c (-1) rfl)) i225; have a11 := t_sub e137 i128 (in_c 1 rfl) rfl; have a12 := in_u i120; have a13 := t_sub e119 i110 (in_c 1 rfl) rfl; have a14 := in_u i24; have a15 := t_add e24 h1 (in_c 1 rfl) rfl; omega) (by have a0 := oa5 h1 i26 j17_2 i84 i226; have a5 := t_add e226 i26 (in_c 1 rfl) rfl; have a6 := oa2 ((in_c 1 rfl)) i17; have a8 := t_add e110 j17_2 (in_c (-1) rfl) rfl; have a9 := oa2 ((in_c (-1) rfl)) i225; have a11 := t_sub e137 i128 (in_c 1 rfl) rfl; have a12 := in_u i120; have a13 := t_sub e119 i110 (in_c 1 rfl) rfl; have a14 := in_u i24; have a15 := t_add e24 h1 (in_c 1 rfl) rfl; omega) | exact ws_0 rfl (by first | exact (by decide) | exact i15.1) (by unfold wa; first | (rw [if_pos c3]; rfl) | (rw [if_neg c3, e15]; rfl))
                      exact gg_w (by first | exact Nat.le_add_right _ _ | exact gw2 | exact gw3 | exact gwe rfl | exact gwf rfl | exact gwg rfl | exact gwh rfl | omega) (gg_f (gf_cons rfl (gf_cons rfl (gf_cons rfl (gf_cons rfl gf_nil)))) (ih17 (sL sc17 193 z137.toNatClampNeg (Int64.ofInt 1)) z110 z226 hI225 (fr_sL rfl hFc17) i17 (in_w 0 120 i226 rfl) n17 n17a (m_up mm17 (t_add e226 i26 (in_c 1 rfl) rfl) (in_w 1 1 (in_c 1 rfl) rfl))))
                  · skip
                    have i198 := r_eq1 60 60 c198 i84 (in_c 60 rfl) rfl
                    refine g_lload 203 (gd rfl) rfl rfl ?_
                    refine g_lload 205 (gd rfl) rfl rfl ?_
                    refine g_lcmp 206 (gd rfl) rfl (fun z205 e205 => ?_)
                    have i205 := lc_in e205
                    refine g_if_ge 209 224 (gd rfl) rfl rfl (fun c206 => ?_) (fun c206 => ?_)
                    · skip
                      have i206 := z_ge 0 1 c206 i205 rfl
                      have c206a := lc_ge e205 c206
                      refine g_lconst 0 225 (gd rfl) rfl rfl ?_
                      have i225 : In z137 0 199 := by have a0 := oa5 h1 i26 j17_2 i198 i128; have a5 := t_add e110 j17_2 (in_c (-1) rfl) rfl; have a6 := oa2 ((in_c (-1) rfl)) i137; have a8 := t_sub e137 i128 (in_c 1 rfl) rfl; have a9 := oa2 ((in_c 1 rfl)) i120; have a11 := t_sub e119 i110 (in_c 1 rfl) rfl; have a12 := in_u i24; have a13 := t_add e24 h1 (in_c 1 rfl) rfl; exact ⟨by omega, by omega⟩
                      refine g_lastore 226 (gd rfl) rfl (n := 200) rfl (in_ix i225 rfl) ?_
                      have hI225 := inv_sL (q := 193) (j := z137.toNatClampNeg) (x := (Int64.ofInt 0)) hIc17 rfl (l_rng (Int64.ofInt 0))
                      refine g_iinc 229 (gd rfl) rfl rfl (Nat.le_of_ble_eq_true rfl) (fun z226 e226 => ?_)
                      have i226 := in_add 1 120 e226 i26 (in_c 1 rfl) rfl rfl
                      refine g_goto 17 (gd rfl) rfl ?_
                      have i17 : In z110 0 120 := by exact ⟨by have a0 := oa5 h1 i26 j17_2 i198 i226; have a5 := t_add e226 i26 (in_c 1 rfl) rfl; have a6 := oa2 ((in_c 1 rfl)) i128; have a8 := t_add e110 j17_2 (in_c (-1) rfl) rfl; have a9 := oa2 ((in_c (-1) rfl)) i225; have a11 := t_sub e137 i128 (in_c 1 rfl) rfl; have a12 := in_u i120; have a13 := t_sub e119 i110 (in_c 1 rfl) rfl; have a14 := in_u i24; have a15 := t_add e24 h1 (in_c 1 rfl) rfl; omega, by have a0 := oa5 h1 i26 j17_2 i198 i226; have a5 := t_add e226 i26 (in_c 1 rfl) rfl; have a6 := oa2 ((in_c 1 rfl)) i128; have a8 := t_add e110 j17_2 (in_c (-1) rfl) rfl; have a9 := oa2 ((in_c (-1) rfl)) i225; have a11 := t_sub e137 i128 (in_c 1 rfl) rfl; have a12 := in_u i120; have a13 := t_sub e119 i110 (in_c 1 rfl) rfl; have a14 := in_u i24; have a15 := t_add e24 h1 (in_c 1 rfl) rfl; omega⟩
                      have n17 : (z110).toInt ≤ (z226).toInt := by have a0 := oa5 h1 i26 j17_2 i198 i226; have a5 := t_add e226 i26 (in_c 1 rfl) rfl; have a6 := oa2 ((in_c 1 rfl)) i17; have a8 := t_add e110 j17_2 (in_c (-1) rfl) rfl; have a9 := oa2 ((in_c (-1) rfl)) i225; have a11 := t_sub e137 i128 (in_c 1 rfl) rfl; have a12 := in_u i120; have a13 := t_sub e119 i110 (in_c 1 rfl) rfl; have a14 := in_u i24; have a15 := t_add e24 h1 (in_c 1 rfl) rfl; omega
                      have n17a : WS (sL sc17 193 z137.toNatClampNeg (Int64.ofInt 0)) x1 z226 z110 := by first | exact hk2 _ _ (by have a0 := oa5 h1 i26 j17_2 i198 i226; have a5 := t_add e226 i26 (in_c 1 rfl) rfl; have a6 := oa2 ((in_c 1 rfl)) i17; have a8 := t_add e110 j17_2 (in_c (-1) rfl) rfl; have a9 := oa2 ((in_c (-1) rfl)) i225; have a11 := t_sub e137 i128 (in_c 1 rfl) rfl; have a12 := in_u i120; have a13 := t_sub e119 i110 (in_c 1 rfl) rfl; have a14 := in_u i24; have a15 := t_add e24 h1 (in_c 1 rfl) rfl; omega) (by have a0 := oa5 h1 i26 j17_2 i198 i226; have a5 := t_add e226 i26 (in_c 1 rfl) rfl; have a6 := oa2 ((in_c 1 rfl)) i17; have a8 := t_add e110 j17_2 (in_c (-1) rfl) rfl; have a9 := oa2 ((in_c (-1) rfl)) i225; have a11 := t_sub e137 i128 (in_c 1 rfl) rfl; have a12 := in_u i120; have a13 := t_sub e119 i110 (in_c 1 rfl) rfl; have a14 := in_u i24; have a15 := t_add e24 h1 (in_c 1 rfl) rfl; omega) | exact ws_0 rfl (by first | exact (by decide) | exact i15.1) (by unfold wa; first | (rw [if_pos c3]; rfl) | (rw [if_neg c3, e15]; rfl))
                      exact gg_w (by first | exact Nat.le_add_right _ _ | exact gw2 | exact gw3 | exact gwe rfl | exact gwf rfl | exact gwg rfl | exact gwh rfl | omega) (gg_f (gf_cons rfl (gf_cons rfl (gf_cons rfl (gf_cons rfl gf_nil)))) (ih17 (sL sc17 193 z137.toNatClampNeg (Int64.ofInt 0)) z110 z226 hI225 (fr_sL rfl hFc17) i17 (in_w 0 120 i226 rfl) n17 n17a (m_up mm17 (t_add e226 i26 (in_c 1 rfl) rfl) (in_w 1 1 (in_c 1 rfl) rfl))))
                    · skip
                      have i206 := z_lt (-1) (-1) c206 i205 rfl
                      have c206a := lc_lt e205 c206
                      have i206a := lr_lt1 (-9223372036854775808) 9223372036854775806 c206a (l_rng z120) (l_rng z128) rfl
                      have i206b := lr_lt2 (-9223372036854775807) 9223372036854775807 c206a (l_rng z120) (l_rng z128) rfl
                      refine g_goto 220 (gd rfl) rfl ?_
                      refine g_lconst 1 221 (gd rfl) rfl rfl ?_
                      refine g_goto 225 (gd rfl) rfl ?_
                      have i225 : In z137 0 199 := by have a0 := oa5 h1 i26 j17_2 i198 i128; have a5 := t_add e110 j17_2 (in_c (-1) rfl) rfl; have a6 := oa2 ((in_c (-1) rfl)) i137; have a8 := t_sub e137 i128 (in_c 1 rfl) rfl; have a9 := oa2 ((in_c 1 rfl)) i120; have a11 := t_sub e119 i110 (in_c 1 rfl) rfl; have a12 := in_u i24; have a13 := t_add e24 h1 (in_c 1 rfl) rfl; exact ⟨by omega, by omega⟩
                      refine g_lastore 226 (gd rfl) rfl (n := 200) rfl (in_ix i225 rfl) ?_
                      have hI225 := inv_sL (q := 193) (j := z137.toNatClampNeg) (x := (Int64.ofInt 1)) hIc17 rfl (l_rng (Int64.ofInt 1))
                      refine g_iinc 229 (gd rfl) rfl rfl (Nat.le_of_ble_eq_true rfl) (fun z226 e226 => ?_)
                      have i226 := in_add 1 120 e226 i26 (in_c 1 rfl) rfl rfl
                      refine g_goto 17 (gd rfl) rfl ?_
                      have i17 : In z110 0 120 := by exact ⟨by have a0 := oa5 h1 i26 j17_2 i198 i226; have a5 := t_add e226 i26 (in_c 1 rfl) rfl; have a6 := oa2 ((in_c 1 rfl)) i128; have a8 := t_add e110 j17_2 (in_c (-1) rfl) rfl; have a9 := oa2 ((in_c (-1) rfl)) i225; have a11 := t_sub e137 i128 (in_c 1 rfl) rfl; have a12 := in_u i120; have a13 := t_sub e119 i110 (in_c 1 rfl) rfl; have a14 := in_u i24; have a15 := t_add e24 h1 (in_c 1 rfl) rfl; omega, by have a0 := oa5 h1 i26 j17_2 i198 i226; have a5 := t_add e226 i26 (in_c 1 rfl) rfl; have a6 := oa2 ((in_c 1 rfl)) i128; have a8 := t_add e110 j17_2 (in_c (-1) rfl) rfl; have a9 := oa2 ((in_c (-1) rfl)) i225; have a11 := t_sub e137 i128 (in_c 1 rfl) rfl; have a12 := in_u i120; have a13 := t_sub e119 i110 (in_c 1 rfl) rfl; have a14 := in_u i24; have a15 := t_add e24 h1 (in_c 1 rfl) rfl; omega⟩
                      have n17 : (z110).toInt ≤ (z226).toInt := by have a0 := oa5 h1 i26 j17_2 i198 i226; have a5 := t_add e226 i26 (in_c 1 rfl) rfl; have a6 := oa2 ((in_c 1 rfl)) i17; have a8 := t_add e110 j17_2 (in_c (-1) rfl) rfl; have a9 := oa2 ((in_c (-1) rfl)) i225; have a11 := t_sub e137 i128 (in_c 1 rfl) rfl; have a12 := in_u i120; have a13 := t_sub e119 i110 (in_c 1 rfl) rfl; have a14 := in_u i24; have a15 := t_add e24 h1 (in_c 1 rfl) rfl; omega
                      have n17a : WS (sL sc17 193 z137.toNatClampNeg (Int64.ofInt 1)) x1 z226 z110 := by first | exact hk2 _ _ (by have a0 := oa5 h1 i26 j17_2 i198 i226; have a5 := t_add e226 i26 (in_c 1 rfl) rfl; have a6 := oa2 ((in_c 1 rfl)) i17; have a8 := t_add e110 j17_2 (in_c (-1) rfl) rfl; have a9 := oa2 ((in_c (-1) rfl)) i225; have a11 := t_sub e137 i128 (in_c 1 rfl) rfl; have a12 := in_u i120; have a13 := t_sub e119 i110 (in_c 1 rfl) rfl; have a14 := in_u i24; have a15 := t_add e24 h1 (in_c 1 rfl) rfl; omega) (by have a0 := oa5 h1 i26 j17_2 i198 i226; have a5 := t_add e226 i26 (in_c 1 rfl) rfl; have a6 := oa2 ((in_c 1 rfl)) i17; have a8 := t_add e110 j17_2 (in_c (-1) rfl) rfl; have a9 := oa2 ((in_c (-1) rfl)) i225; have a11 := t_sub e137 i128 (in_c 1 rfl) rfl; have a12 := in_u i120; have a13 := t_sub e119 i110 (in_c 1 rfl) rfl; have a14 := in_u i24; have a15 := t_add e24 h1 (in_c 1 rfl) rfl; omega) | exact ws_0 rfl (by first | exact (by decide) | exact i15.1) (by unfold wa; first | (rw [if_pos c3]; rfl) | (rw [if_neg c3, e15]; rfl))
                      exact gg_w (by first | exact Nat.le_add_right _ _ | exact gw2 | exact gw3 | exact gwe rfl | exact gwf rfl | exact gwg rfl | exact gwh rfl | omega) (gg_f (gf_cons rfl (gf_cons rfl (gf_cons rfl (gf_cons rfl gf_nil)))) (ih17 (sL sc17 193 z137.toNatClampNeg (Int64.ofInt 1)) z110 z226 hI225 (fr_sL rfl hFc17) i17 (in_w 0 120 i226 rfl) n17 n17a (m_up mm17 (t_add e226 i26 (in_c 1 rfl) rfl) (in_w 1 1 (in_c 1 rfl) rfl))))
                · skip
                  have i180 := r_eq1 45 45 c180 i84 (in_c 45 rfl) rfl
                  refine g_lload 185 (gd rfl) rfl rfl ?_
                  refine g_lload 187 (gd rfl) rfl rfl ?_
                  refine g_lsub 188 (gd rfl) rfl (fun z187 e187 => ?_)
                  refine g_calls (As := [.long z187]) (r := [.int z137, .ref (A 193)]) 191 (gd rfl) rfl rfl rfl rfl rfl (Nat.le_of_ble_eq_true rfl) (mc := 0) (ms := 0) (Nat.zero_le _) (Nat.zero_le _) (P := fun v u => _) ?_ (fun v u h => h)
                  intro po188 xx188 hp188 hx188
                  refine g_enter2 (k := 405) (N := 300) (by first | exact dq1 hd rfl | exact dq0 hd rfl | exact dq2 hd rfl | exact dq3 hd rfl | omega) rfl (Nat.le_of_ble_eq_true rfl) ?_
                  refine g_lload_n 1 (gd rfl) rfl rfl ?_
                  refine g_ldc2_w 1000000000000 4 (gd rfl) rfl rfl ?_
                  refine g_lcmp 5 (gd rfl) rfl (fun z188x4 e188x4 => ?_)
                  have i188x4 := lc_in e188x4
                  refine g_if_le 8 14 (gd rfl) rfl rfl (fun c188x5 => ?_) (fun c188x5 => ?_)
                  · skip
                    have i188x5 := z_le (-1) 0 c188x5 i188x4 rfl
                    have c188x5a := lc_le e188x4 c188x5
                    have i188x5a := lr_le1 (-9223372036854775808) 1000000000000 c188x5a (l_rng z187) (l_c 1000000000000 rfl) rfl
                    refine g_lload_n 15 (gd rfl) rfl rfl ?_
                    refine g_ldc2_w (-1000000000000) 18 (gd rfl) rfl rfl ?_
                    refine g_lcmp 19 (gd rfl) rfl (fun z188x18 e188x18 => ?_)
                    have i188x18 := lc_in e188x18
                    refine g_if_ge 22 28 (gd rfl) rfl rfl (fun c188x19 => ?_) (fun c188x19 => ?_)
                    · skip
                      have i188x19 := z_ge 0 1 c188x19 i188x18 rfl
                      have c188x19a := lc_ge e188x18 c188x19
                      have i188x19a := lr_le2 (-1000000000000) 1000000000000 c188x19a (l_c (-1000000000000) rfl) i188x5a rfl
                      refine g_lload_n 29 (gd rfl) rfl rfl ?_
                      refine g_lreturn (gd rfl) rfl (hp188 _ _ ?_)
                      show GG _ _ _ _ _ _ _ _ [.long z187, .int z137, .ref (A 193)] _ _ _
                      refine g_goto 225 (gd rfl) rfl ?_
                      have i225 : In z137 0 199 := by have a0 := oa5 h1 i26 j17_2 i180 i128; have a5 := t_add e110 j17_2 (in_c (-1) rfl) rfl; have a6 := oa2 ((in_c (-1) rfl)) i137; have a8 := t_sub e137 i128 (in_c 1 rfl) rfl; have a9 := oa2 ((in_c 1 rfl)) i120; have a11 := t_sub e119 i110 (in_c 1 rfl) rfl; have a12 := in_u i24; have a13 := t_add e24 h1 (in_c 1 rfl) rfl; exact ⟨by omega, by omega⟩
                      refine g_lastore 226 (gd rfl) rfl (n := 200) rfl (in_ix i225 rfl) ?_
                      have hI225 := inv_sL (q := 193) (j := z137.toNatClampNeg) (x := z187) hIc17 rfl (l_rng z187)
                      refine g_iinc 229 (gd rfl) rfl rfl (Nat.le_of_ble_eq_true rfl) (fun z226 e226 => ?_)
                      have i226 := in_add 1 120 e226 i26 (in_c 1 rfl) rfl rfl
                      refine g_goto 17 (gd rfl) rfl ?_
                      have i17 : In z110 0 120 := by exact ⟨by have a0 := oa5 h1 i26 j17_2 i180 i226; have a5 := t_add e226 i26 (in_c 1 rfl) rfl; have a6 := oa2 ((in_c 1 rfl)) i128; have a8 := t_add e110 j17_2 (in_c (-1) rfl) rfl; have a9 := oa2 ((in_c (-1) rfl)) i225; have a11 := t_sub e137 i128 (in_c 1 rfl) rfl; have a12 := in_u i120; have a13 := t_sub e119 i110 (in_c 1 rfl) rfl; have a14 := in_u i24; have a15 := t_add e24 h1 (in_c 1 rfl) rfl; omega, by have a0 := oa5 h1 i26 j17_2 i180 i226; have a5 := t_add e226 i26 (in_c 1 rfl) rfl; have a6 := oa2 ((in_c 1 rfl)) i128; have a8 := t_add e110 j17_2 (in_c (-1) rfl) rfl; have a9 := oa2 ((in_c (-1) rfl)) i225; have a11 := t_sub e137 i128 (in_c 1 rfl) rfl; have a12 := in_u i120; have a13 := t_sub e119 i110 (in_c 1 rfl) rfl; have a14 := in_u i24; have a15 := t_add e24 h1 (in_c 1 rfl) rfl; omega⟩
                      have n17 : (z110).toInt ≤ (z226).toInt := by have a0 := oa5 h1 i26 j17_2 i180 i226; have a5 := t_add e226 i26 (in_c 1 rfl) rfl; have a6 := oa2 ((in_c 1 rfl)) i17; have a8 := t_add e110 j17_2 (in_c (-1) rfl) rfl; have a9 := oa2 ((in_c (-1) rfl)) i225; have a11 := t_sub e137 i128 (in_c 1 rfl) rfl; have a12 := in_u i120; have a13 := t_sub e119 i110 (in_c 1 rfl) rfl; have a14 := in_u i24; have a15 := t_add e24 h1 (in_c 1 rfl) rfl; omega
                      have n17a : WS (sL sc17 193 z137.toNatClampNeg z187) x1 z226 z110 := by first | exact hk2 _ _ (by have a0 := oa5 h1 i26 j17_2 i180 i226; have a5 := t_add e226 i26 (in_c 1 rfl) rfl; have a6 := oa2 ((in_c 1 rfl)) i17; have a8 := t_add e110 j17_2 (in_c (-1) rfl) rfl; have a9 := oa2 ((in_c (-1) rfl)) i225; have a11 := t_sub e137 i128 (in_c 1 rfl) rfl; have a12 := in_u i120; have a13 := t_sub e119 i110 (in_c 1 rfl) rfl; have a14 := in_u i24; have a15 := t_add e24 h1 (in_c 1 rfl) rfl; omega) (by have a0 := oa5 h1 i26 j17_2 i180 i226; have a5 := t_add e226 i26 (in_c 1 rfl) rfl; have a6 := oa2 ((in_c 1 rfl)) i17; have a8 := t_add e110 j17_2 (in_c (-1) rfl) rfl; have a9 := oa2 ((in_c (-1) rfl)) i225; have a11 := t_sub e137 i128 (in_c 1 rfl) rfl; have a12 := in_u i120; have a13 := t_sub e119 i110 (in_c 1 rfl) rfl; have a14 := in_u i24; have a15 := t_add e24 h1 (in_c 1 rfl) rfl; omega) | exact ws_0 rfl (by first | exact (by decide) | exact i15.1) (by unfold wa; first | (rw [if_pos c3]; rfl) | (rw [if_neg c3, e15]; rfl))
                      exact gg_w (by first | exact Nat.le_add_right _ _ | exact gw2 | exact gw3 | exact gwe rfl | exact gwf rfl | exact gwg rfl | exact gwh rfl | omega) (gg_f (gf_cons rfl (gf_cons rfl (gf_cons rfl (gf_cons rfl gf_nil)))) (ih17 (sL sc17 193 z137.toNatClampNeg z187) z110 z226 hI225 (fr_sL rfl hFc17) i17 (in_w 0 120 i226 rfl) n17 n17a (m_up mm17 (t_add e226 i26 (in_c 1 rfl) rfl) (in_w 1 1 (in_c 1 rfl) rfl))))
                    · skip
                      have i188x19 := z_lt (-1) (-1) c188x19 i188x18 rfl
                      have c188x19a := lc_lt e188x18 c188x19
                      have i188x19a := lr_lt1 (-9223372036854775808) (-1000000000001) c188x19a i188x5a (l_c (-1000000000000) rfl) rfl
                      refine g_ldc2_w (-1000000000000) 25 (gd rfl) rfl rfl ?_
                      refine g_goto 29 (gd rfl) rfl ?_
                      refine g_lreturn (gd rfl) rfl (hp188 _ _ ?_)
                      show GG _ _ _ _ _ _ _ _ [.long (Int64.ofInt (-1000000000000)), .int z137, .ref (A 193)] _ _ _
                      refine g_goto 225 (gd rfl) rfl ?_
                      have i225 : In z137 0 199 := by have a0 := oa5 h1 i26 j17_2 i180 i128; have a5 := t_add e110 j17_2 (in_c (-1) rfl) rfl; have a6 := oa2 ((in_c (-1) rfl)) i137; have a8 := t_sub e137 i128 (in_c 1 rfl) rfl; have a9 := oa2 ((in_c 1 rfl)) i120; have a11 := t_sub e119 i110 (in_c 1 rfl) rfl; have a12 := in_u i24; have a13 := t_add e24 h1 (in_c 1 rfl) rfl; exact ⟨by omega, by omega⟩
                      refine g_lastore 226 (gd rfl) rfl (n := 200) rfl (in_ix i225 rfl) ?_
                      have hI225 := inv_sL (q := 193) (j := z137.toNatClampNeg) (x := (Int64.ofInt (-1000000000000))) hIc17 rfl (l_rng (Int64.ofInt (-1000000000000)))
                      refine g_iinc 229 (gd rfl) rfl rfl (Nat.le_of_ble_eq_true rfl) (fun z226 e226 => ?_)
                      have i226 := in_add 1 120 e226 i26 (in_c 1 rfl) rfl rfl
                      refine g_goto 17 (gd rfl) rfl ?_
                      have i17 : In z110 0 120 := by exact ⟨by have a0 := oa5 h1 i26 j17_2 i180 i226; have a5 := t_add e226 i26 (in_c 1 rfl) rfl; have a6 := oa2 ((in_c 1 rfl)) i128; have a8 := t_add e110 j17_2 (in_c (-1) rfl) rfl; have a9 := oa2 ((in_c (-1) rfl)) i225; have a11 := t_sub e137 i128 (in_c 1 rfl) rfl; have a12 := in_u i120; have a13 := t_sub e119 i110 (in_c 1 rfl) rfl; have a14 := in_u i24; have a15 := t_add e24 h1 (in_c 1 rfl) rfl; omega, by have a0 := oa5 h1 i26 j17_2 i180 i226; have a5 := t_add e226 i26 (in_c 1 rfl) rfl; have a6 := oa2 ((in_c 1 rfl)) i128; have a8 := t_add e110 j17_2 (in_c (-1) rfl) rfl; have a9 := oa2 ((in_c (-1) rfl)) i225; have a11 := t_sub e137 i128 (in_c 1 rfl) rfl; have a12 := in_u i120; have a13 := t_sub e119 i110 (in_c 1 rfl) rfl; have a14 := in_u i24; have a15 := t_add e24 h1 (in_c 1 rfl) rfl; omega⟩
                      have n17 : (z110).toInt ≤ (z226).toInt := by have a0 := oa5 h1 i26 j17_2 i180 i226; have a5 := t_add e226 i26 (in_c 1 rfl) rfl; have a6 := oa2 ((in_c 1 rfl)) i17; have a8 := t_add e110 j17_2 (in_c (-1) rfl) rfl; have a9 := oa2 ((in_c (-1) rfl)) i225; have a11 := t_sub e137 i128 (in_c 1 rfl) rfl; have a12 := in_u i120; have a13 := t_sub e119 i110 (in_c 1 rfl) rfl; have a14 := in_u i24; have a15 := t_add e24 h1 (in_c 1 rfl) rfl; omega
                      have n17a : WS (sL sc17 193 z137.toNatClampNeg (Int64.ofInt (-1000000000000))) x1 z226 z110 := by first | exact hk2 _ _ (by have a0 := oa5 h1 i26 j17_2 i180 i226; have a5 := t_add e226 i26 (in_c 1 rfl) rfl; have a6 := oa2 ((in_c 1 rfl)) i17; have a8 := t_add e110 j17_2 (in_c (-1) rfl) rfl; have a9 := oa2 ((in_c (-1) rfl)) i225; have a11 := t_sub e137 i128 (in_c 1 rfl) rfl; have a12 := in_u i120; have a13 := t_sub e119 i110 (in_c 1 rfl) rfl; have a14 := in_u i24; have a15 := t_add e24 h1 (in_c 1 rfl) rfl; omega) (by have a0 := oa5 h1 i26 j17_2 i180 i226; have a5 := t_add e226 i26 (in_c 1 rfl) rfl; have a6 := oa2 ((in_c 1 rfl)) i17; have a8 := t_add e110 j17_2 (in_c (-1) rfl) rfl; have a9 := oa2 ((in_c (-1) rfl)) i225; have a11 := t_sub e137 i128 (in_c 1 rfl) rfl; have a12 := in_u i120; have a13 := t_sub e119 i110 (in_c 1 rfl) rfl; have a14 := in_u i24; have a15 := t_add e24 h1 (in_c 1 rfl) rfl; omega) | exact ws_0 rfl (by first | exact (by decide) | exact i15.1) (by unfold wa; first | (rw [if_pos c3]; rfl) | (rw [if_neg c3, e15]; rfl))
                      exact gg_w (by first | exact Nat.le_add_right _ _ | exact gw2 | exact gw3 | exact gwe rfl | exact gwf rfl | exact gwg rfl | exact gwh rfl | omega) (gg_f (gf_cons rfl (gf_cons rfl (gf_cons rfl (gf_cons rfl gf_nil)))) (ih17 (sL sc17 193 z137.toNatClampNeg (Int64.ofInt (-1000000000000))) z110 z226 hI225 (fr_sL rfl hFc17) i17 (in_w 0 120 i226 rfl) n17 n17a (m_up mm17 (t_add e226 i26 (in_c 1 rfl) rfl) (in_w 1 1 (in_c 1 rfl) rfl))))
                  · skip
                    have i188x5 := z_gt 1 1 c188x5 i188x4 rfl
                    have c188x5a := lc_gt e188x4 c188x5
                    have i188x5a := lr_lt2 1000000000001 9223372036854775807 c188x5a (l_c 1000000000000 rfl) (l_rng z187) rfl
                    refine g_ldc2_w 1000000000000 11 (gd rfl) rfl rfl ?_
                    refine g_goto 29 (gd rfl) rfl ?_
                    refine g_lreturn (gd rfl) rfl (hp188 _ _ ?_)
                    show GG _ _ _ _ _ _ _ _ [.long (Int64.ofInt 1000000000000), .int z137, .ref (A 193)] _ _ _
                    refine g_goto 225 (gd rfl) rfl ?_
                    have i225 : In z137 0 199 := by have a0 := oa5 h1 i26 j17_2 i180 i128; have a5 := t_add e110 j17_2 (in_c (-1) rfl) rfl; have a6 := oa2 ((in_c (-1) rfl)) i137; have a8 := t_sub e137 i128 (in_c 1 rfl) rfl; have a9 := oa2 ((in_c 1 rfl)) i120; have a11 := t_sub e119 i110 (in_c 1 rfl) rfl; have a12 := in_u i24; have a13 := t_add e24 h1 (in_c 1 rfl) rfl; exact ⟨by omega, by omega⟩
                    refine g_lastore 226 (gd rfl) rfl (n := 200) rfl (in_ix i225 rfl) ?_
                    have hI225 := inv_sL (q := 193) (j := z137.toNatClampNeg) (x := (Int64.ofInt 1000000000000)) hIc17 rfl (l_rng (Int64.ofInt 1000000000000))
                    refine g_iinc 229 (gd rfl) rfl rfl (Nat.le_of_ble_eq_true rfl) (fun z226 e226 => ?_)
                    have i226 := in_add 1 120 e226 i26 (in_c 1 rfl) rfl rfl
                    refine g_goto 17 (gd rfl) rfl ?_
                    have i17 : In z110 0 120 := by exact ⟨by have a0 := oa5 h1 i26 j17_2 i180 i226; have a5 := t_add e226 i26 (in_c 1 rfl) rfl; have a6 := oa2 ((in_c 1 rfl)) i128; have a8 := t_add e110 j17_2 (in_c (-1) rfl) rfl; have a9 := oa2 ((in_c (-1) rfl)) i225; have a11 := t_sub e137 i128 (in_c 1 rfl) rfl; have a12 := in_u i120; have a13 := t_sub e119 i110 (in_c 1 rfl) rfl; have a14 := in_u i24; have a15 := t_add e24 h1 (in_c 1 rfl) rfl; omega, by have a0 := oa5 h1 i26 j17_2 i180 i226; have a5 := t_add e226 i26 (in_c 1 rfl) rfl; have a6 := oa2 ((in_c 1 rfl)) i128; have a8 := t_add e110 j17_2 (in_c (-1) rfl) rfl; have a9 := oa2 ((in_c (-1) rfl)) i225; have a11 := t_sub e137 i128 (in_c 1 rfl) rfl; have a12 := in_u i120; have a13 := t_sub e119 i110 (in_c 1 rfl) rfl; have a14 := in_u i24; have a15 := t_add e24 h1 (in_c 1 rfl) rfl; omega⟩
                    have n17 : (z110).toInt ≤ (z226).toInt := by have a0 := oa5 h1 i26 j17_2 i180 i226; have a5 := t_add e226 i26 (in_c 1 rfl) rfl; have a6 := oa2 ((in_c 1 rfl)) i17; have a8 := t_add e110 j17_2 (in_c (-1) rfl) rfl; have a9 := oa2 ((in_c (-1) rfl)) i225; have a11 := t_sub e137 i128 (in_c 1 rfl) rfl; have a12 := in_u i120; have a13 := t_sub e119 i110 (in_c 1 rfl) rfl; have a14 := in_u i24; have a15 := t_add e24 h1 (in_c 1 rfl) rfl; omega
                    have n17a : WS (sL sc17 193 z137.toNatClampNeg (Int64.ofInt 1000000000000)) x1 z226 z110 := by first | exact hk2 _ _ (by have a0 := oa5 h1 i26 j17_2 i180 i226; have a5 := t_add e226 i26 (in_c 1 rfl) rfl; have a6 := oa2 ((in_c 1 rfl)) i17; have a8 := t_add e110 j17_2 (in_c (-1) rfl) rfl; have a9 := oa2 ((in_c (-1) rfl)) i225; have a11 := t_sub e137 i128 (in_c 1 rfl) rfl; have a12 := in_u i120; have a13 := t_sub e119 i110 (in_c 1 rfl) rfl; have a14 := in_u i24; have a15 := t_add e24 h1 (in_c 1 rfl) rfl; omega) (by have a0 := oa5 h1 i26 j17_2 i180 i226; have a5 := t_add e226 i26 (in_c 1 rfl) rfl; have a6 := oa2 ((in_c 1 rfl)) i17; have a8 := t_add e110 j17_2 (in_c (-1) rfl) rfl; have a9 := oa2 ((in_c (-1) rfl)) i225; have a11 := t_sub e137 i128 (in_c 1 rfl) rfl; have a12 := in_u i120; have a13 := t_sub e119 i110 (in_c 1 rfl) rfl; have a14 := in_u i24; have a15 := t_add e24 h1 (in_c 1 rfl) rfl; omega) | exact ws_0 rfl (by first | exact (by decide) | exact i15.1) (by unfold wa; first | (rw [if_pos c3]; rfl) | (rw [if_neg c3, e15]; rfl))
                    exact gg_w (by first | exact Nat.le_add_right _ _ | exact gw2 | exact gw3 | exact gwe rfl | exact gwf rfl | exact gwg rfl | exact gwh rfl | omega) (gg_f (gf_cons rfl (gf_cons rfl (gf_cons rfl (gf_cons rfl gf_nil)))) (ih17 (sL sc17 193 z137.toNatClampNeg (Int64.ofInt 1000000000000)) z110 z226 hI225 (fr_sL rfl hFc17) i17 (in_w 0 120 i226 rfl) n17 n17a (m_up mm17 (t_add e226 i26 (in_c 1 rfl) rfl) (in_w 1 1 (in_c 1 rfl) rfl))))
              · skip
                have i162 := r_eq1 43 43 c162 i84 (in_c 43 rfl) rfl
                refine g_lload 167 (gd rfl) rfl rfl ?_
                refine g_lload 169 (gd rfl) rfl rfl ?_
                refine g_ladd 170 (gd rfl) rfl (fun z169 e169 => ?_)
                refine g_calls (As := [.long z169]) (r := [.int z137, .ref (A 193)]) 173 (gd rfl) rfl rfl rfl rfl rfl (Nat.le_of_ble_eq_true rfl) (mc := 0) (ms := 0) (Nat.zero_le _) (Nat.zero_le _) (P := fun v u => _) ?_ (fun v u h => h)
                intro po170 xx170 hp170 hx170
                refine g_enter2 (k := 405) (N := 300) (by first | exact dq1 hd rfl | exact dq0 hd rfl | exact dq2 hd rfl | exact dq3 hd rfl | omega) rfl (Nat.le_of_ble_eq_true rfl) ?_
                refine g_lload_n 1 (gd rfl) rfl rfl ?_
                refine g_ldc2_w 1000000000000 4 (gd rfl) rfl rfl ?_
                refine g_lcmp 5 (gd rfl) rfl (fun z170x4 e170x4 => ?_)
                have i170x4 := lc_in e170x4
                refine g_if_le 8 14 (gd rfl) rfl rfl (fun c170x5 => ?_) (fun c170x5 => ?_)
                · skip
                  have i170x5 := z_le (-1) 0 c170x5 i170x4 rfl
                  have c170x5a := lc_le e170x4 c170x5
                  have i170x5a := lr_le1 (-9223372036854775808) 1000000000000 c170x5a (l_rng z169) (l_c 1000000000000 rfl) rfl
                  refine g_lload_n 15 (gd rfl) rfl rfl ?_
                  refine g_ldc2_w (-1000000000000) 18 (gd rfl) rfl rfl ?_
                  refine g_lcmp 19 (gd rfl) rfl (fun z170x18 e170x18 => ?_)
                  have i170x18 := lc_in e170x18
                  refine g_if_ge 22 28 (gd rfl) rfl rfl (fun c170x19 => ?_) (fun c170x19 => ?_)
                  · skip
                    have i170x19 := z_ge 0 1 c170x19 i170x18 rfl
                    have c170x19a := lc_ge e170x18 c170x19
                    have i170x19a := lr_le2 (-1000000000000) 1000000000000 c170x19a (l_c (-1000000000000) rfl) i170x5a rfl
                    refine g_lload_n 29 (gd rfl) rfl rfl ?_
                    refine g_lreturn (gd rfl) rfl (hp170 _ _ ?_)
                    show GG _ _ _ _ _ _ _ _ [.long z169, .int z137, .ref (A 193)] _ _ _
                    refine g_goto 225 (gd rfl) rfl ?_
                    have i225 : In z137 0 199 := by have a0 := oa5 h1 i26 j17_2 i162 i128; have a5 := t_add e110 j17_2 (in_c (-1) rfl) rfl; have a6 := oa2 ((in_c (-1) rfl)) i137; have a8 := t_sub e137 i128 (in_c 1 rfl) rfl; have a9 := oa2 ((in_c 1 rfl)) i120; have a11 := t_sub e119 i110 (in_c 1 rfl) rfl; have a12 := in_u i24; have a13 := t_add e24 h1 (in_c 1 rfl) rfl; exact ⟨by omega, by omega⟩
                    refine g_lastore 226 (gd rfl) rfl (n := 200) rfl (in_ix i225 rfl) ?_
                    have hI225 := inv_sL (q := 193) (j := z137.toNatClampNeg) (x := z169) hIc17 rfl (l_rng z169)
                    refine g_iinc 229 (gd rfl) rfl rfl (Nat.le_of_ble_eq_true rfl) (fun z226 e226 => ?_)
                    have i226 := in_add 1 120 e226 i26 (in_c 1 rfl) rfl rfl
                    refine g_goto 17 (gd rfl) rfl ?_
                    have i17 : In z110 0 120 := by exact ⟨by have a0 := oa5 h1 i26 j17_2 i162 i226; have a5 := t_add e226 i26 (in_c 1 rfl) rfl; have a6 := oa2 ((in_c 1 rfl)) i128; have a8 := t_add e110 j17_2 (in_c (-1) rfl) rfl; have a9 := oa2 ((in_c (-1) rfl)) i225; have a11 := t_sub e137 i128 (in_c 1 rfl) rfl; have a12 := in_u i120; have a13 := t_sub e119 i110 (in_c 1 rfl) rfl; have a14 := in_u i24; have a15 := t_add e24 h1 (in_c 1 rfl) rfl; omega, by have a0 := oa5 h1 i26 j17_2 i162 i226; have a5 := t_add e226 i26 (in_c 1 rfl) rfl; have a6 := oa2 ((in_c 1 rfl)) i128; have a8 := t_add e110 j17_2 (in_c (-1) rfl) rfl; have a9 := oa2 ((in_c (-1) rfl)) i225; have a11 := t_sub e137 i128 (in_c 1 rfl) rfl; have a12 := in_u i120; have a13 := t_sub e119 i110 (in_c 1 rfl) rfl; have a14 := in_u i24; have a15 := t_add e24 h1 (in_c 1 rfl) rfl; omega⟩
                    have n17 : (z110).toInt ≤ (z226).toInt := by have a0 := oa5 h1 i26 j17_2 i162 i226; have a5 := t_add e226 i26 (in_c 1 rfl) rfl; have a6 := oa2 ((in_c 1 rfl)) i17; have a8 := t_add e110 j17_2 (in_c (-1) rfl) rfl; have a9 := oa2 ((in_c (-1) rfl)) i225; have a11 := t_sub e137 i128 (in_c 1 rfl) rfl; have a12 := in_u i120; have a13 := t_sub e119 i110 (in_c 1 rfl) rfl; have a14 := in_u i24; have a15 := t_add e24 h1 (in_c 1 rfl) rfl; omega
                    have n17a : WS (sL sc17 193 z137.toNatClampNeg z169) x1 z226 z110 := by first | exact hk2 _ _ (by have a0 := oa5 h1 i26 j17_2 i162 i226; have a5 := t_add e226 i26 (in_c 1 rfl) rfl; have a6 := oa2 ((in_c 1 rfl)) i17; have a8 := t_add e110 j17_2 (in_c (-1) rfl) rfl; have a9 := oa2 ((in_c (-1) rfl)) i225; have a11 := t_sub e137 i128 (in_c 1 rfl) rfl; have a12 := in_u i120; have a13 := t_sub e119 i110 (in_c 1 rfl) rfl; have a14 := in_u i24; have a15 := t_add e24 h1 (in_c 1 rfl) rfl; omega) (by have a0 := oa5 h1 i26 j17_2 i162 i226; have a5 := t_add e226 i26 (in_c 1 rfl) rfl; have a6 := oa2 ((in_c 1 rfl)) i17; have a8 := t_add e110 j17_2 (in_c (-1) rfl) rfl; have a9 := oa2 ((in_c (-1) rfl)) i225; have a11 := t_sub e137 i128 (in_c 1 rfl) rfl; have a12 := in_u i120; have a13 := t_sub e119 i110 (in_c 1 rfl) rfl; have a14 := in_u i24; have a15 := t_add e24 h1 (in_c 1 rfl) rfl; omega) | exact ws_0 rfl (by first | exact (by decide) | exact i15.1) (by unfold wa; first | (rw [if_pos c3]; rfl) | (rw [if_neg c3, e15]; rfl))
                    exact gg_w (by first | exact Nat.le_add_right _ _ | exact gw2 | exact gw3 | exact gwe rfl | exact gwf rfl | exact gwg rfl | exact gwh rfl | omega) (gg_f (gf_cons rfl (gf_cons rfl (gf_cons rfl (gf_cons rfl gf_nil)))) (ih17 (sL sc17 193 z137.toNatClampNeg z169) z110 z226 hI225 (fr_sL rfl hFc17) i17 (in_w 0 120 i226 rfl) n17 n17a (m_up mm17 (t_add e226 i26 (in_c 1 rfl) rfl) (in_w 1 1 (in_c 1 rfl) rfl))))
                  · skip
                    have i170x19 := z_lt (-1) (-1) c170x19 i170x18 rfl
                    have c170x19a := lc_lt e170x18 c170x19
                    have i170x19a := lr_lt1 (-9223372036854775808) (-1000000000001) c170x19a i170x5a (l_c (-1000000000000) rfl) rfl
                    refine g_ldc2_w (-1000000000000) 25 (gd rfl) rfl rfl ?_
                    refine g_goto 29 (gd rfl) rfl ?_
                    refine g_lreturn (gd rfl) rfl (hp170 _ _ ?_)
                    show GG _ _ _ _ _ _ _ _ [.long (Int64.ofInt (-1000000000000)), .int z137, .ref (A 193)] _ _ _
                    refine g_goto 225 (gd rfl) rfl ?_
                    have i225 : In z137 0 199 := by have a0 := oa5 h1 i26 j17_2 i162 i128; have a5 := t_add e110 j17_2 (in_c (-1) rfl) rfl; have a6 := oa2 ((in_c (-1) rfl)) i137; have a8 := t_sub e137 i128 (in_c 1 rfl) rfl; have a9 := oa2 ((in_c 1 rfl)) i120; have a11 := t_sub e119 i110 (in_c 1 rfl) rfl; have a12 := in_u i24; have a13 := t_add e24 h1 (in_c 1 rfl) rfl; exact ⟨by omega, by omega⟩
                    refine g_lastore 226 (gd rfl) rfl (n := 200) rfl (in_ix i225 rfl) ?_
                    have hI225 := inv_sL (q := 193) (j := z137.toNatClampNeg) (x := (Int64.ofInt (-1000000000000))) hIc17 rfl (l_rng (Int64.ofInt (-1000000000000)))
                    refine g_iinc 229 (gd rfl) rfl rfl (Nat.le_of_ble_eq_true rfl) (fun z226 e226 => ?_)
                    have i226 := in_add 1 120 e226 i26 (in_c 1 rfl) rfl rfl
                    refine g_goto 17 (gd rfl) rfl ?_
                    have i17 : In z110 0 120 := by exact ⟨by have a0 := oa5 h1 i26 j17_2 i162 i226; have a5 := t_add e226 i26 (in_c 1 rfl) rfl; have a6 := oa2 ((in_c 1 rfl)) i128; have a8 := t_add e110 j17_2 (in_c (-1) rfl) rfl; have a9 := oa2 ((in_c (-1) rfl)) i225; have a11 := t_sub e137 i128 (in_c 1 rfl) rfl; have a12 := in_u i120; have a13 := t_sub e119 i110 (in_c 1 rfl) rfl; have a14 := in_u i24; have a15 := t_add e24 h1 (in_c 1 rfl) rfl; omega, by have a0 := oa5 h1 i26 j17_2 i162 i226; have a5 := t_add e226 i26 (in_c 1 rfl) rfl; have a6 := oa2 ((in_c 1 rfl)) i128; have a8 := t_add e110 j17_2 (in_c (-1) rfl) rfl; have a9 := oa2 ((in_c (-1) rfl)) i225; have a11 := t_sub e137 i128 (in_c 1 rfl) rfl; have a12 := in_u i120; have a13 := t_sub e119 i110 (in_c 1 rfl) rfl; have a14 := in_u i24; have a15 := t_add e24 h1 (in_c 1 rfl) rfl; omega⟩
                    have n17 : (z110).toInt ≤ (z226).toInt := by have a0 := oa5 h1 i26 j17_2 i162 i226; have a5 := t_add e226 i26 (in_c 1 rfl) rfl; have a6 := oa2 ((in_c 1 rfl)) i17; have a8 := t_add e110 j17_2 (in_c (-1) rfl) rfl; have a9 := oa2 ((in_c (-1) rfl)) i225; have a11 := t_sub e137 i128 (in_c 1 rfl) rfl; have a12 := in_u i120; have a13 := t_sub e119 i110 (in_c 1 rfl) rfl; have a14 := in_u i24; have a15 := t_add e24 h1 (in_c 1 rfl) rfl; omega
                    have n17a : WS (sL sc17 193 z137.toNatClampNeg (Int64.ofInt (-1000000000000))) x1 z226 z110 := by first | exact hk2 _ _ (by have a0 := oa5 h1 i26 j17_2 i162 i226; have a5 := t_add e226 i26 (in_c 1 rfl) rfl; have a6 := oa2 ((in_c 1 rfl)) i17; have a8 := t_add e110 j17_2 (in_c (-1) rfl) rfl; have a9 := oa2 ((in_c (-1) rfl)) i225; have a11 := t_sub e137 i128 (in_c 1 rfl) rfl; have a12 := in_u i120; have a13 := t_sub e119 i110 (in_c 1 rfl) rfl; have a14 := in_u i24; have a15 := t_add e24 h1 (in_c 1 rfl) rfl; omega) (by have a0 := oa5 h1 i26 j17_2 i162 i226; have a5 := t_add e226 i26 (in_c 1 rfl) rfl; have a6 := oa2 ((in_c 1 rfl)) i17; have a8 := t_add e110 j17_2 (in_c (-1) rfl) rfl; have a9 := oa2 ((in_c (-1) rfl)) i225; have a11 := t_sub e137 i128 (in_c 1 rfl) rfl; have a12 := in_u i120; have a13 := t_sub e119 i110 (in_c 1 rfl) rfl; have a14 := in_u i24; have a15 := t_add e24 h1 (in_c 1 rfl) rfl; omega) | exact ws_0 rfl (by first | exact (by decide) | exact i15.1) (by unfold wa; first | (rw [if_pos c3]; rfl) | (rw [if_neg c3, e15]; rfl))
                    exact gg_w (by first | exact Nat.le_add_right _ _ | exact gw2 | exact gw3 | exact gwe rfl | exact gwf rfl | exact gwg rfl | exact gwh rfl | omega) (gg_f (gf_cons rfl (gf_cons rfl (gf_cons rfl (gf_cons rfl gf_nil)))) (ih17 (sL sc17 193 z137.toNatClampNeg (Int64.ofInt (-1000000000000))) z110 z226 hI225 (fr_sL rfl hFc17) i17 (in_w 0 120 i226 rfl) n17 n17a (m_up mm17 (t_add e226 i26 (in_c 1 rfl) rfl) (in_w 1 1 (in_c 1 rfl) rfl))))
                · skip
                  have i170x5 := z_gt 1 1 c170x5 i170x4 rfl
                  have c170x5a := lc_gt e170x4 c170x5
                  have i170x5a := lr_lt2 1000000000001 9223372036854775807 c170x5a (l_c 1000000000000 rfl) (l_rng z169) rfl
                  refine g_ldc2_w 1000000000000 11 (gd rfl) rfl rfl ?_
                  refine g_goto 29 (gd rfl) rfl ?_
                  refine g_lreturn (gd rfl) rfl (hp170 _ _ ?_)
                  show GG _ _ _ _ _ _ _ _ [.long (Int64.ofInt 1000000000000), .int z137, .ref (A 193)] _ _ _
                  refine g_goto 225 (gd rfl) rfl ?_
                  have i225 : In z137 0 199 := by have a0 := oa5 h1 i26 j17_2 i162 i128; have a5 := t_add e110 j17_2 (in_c (-1) rfl) rfl; have a6 := oa2 ((in_c (-1) rfl)) i137; have a8 := t_sub e137 i128 (in_c 1 rfl) rfl; have a9 := oa2 ((in_c 1 rfl)) i120; have a11 := t_sub e119 i110 (in_c 1 rfl) rfl; have a12 := in_u i24; have a13 := t_add e24 h1 (in_c 1 rfl) rfl; exact ⟨by omega, by omega⟩
                  refine g_lastore 226 (gd rfl) rfl (n := 200) rfl (in_ix i225 rfl) ?_
                  have hI225 := inv_sL (q := 193) (j := z137.toNatClampNeg) (x := (Int64.ofInt 1000000000000)) hIc17 rfl (l_rng (Int64.ofInt 1000000000000))
                  refine g_iinc 229 (gd rfl) rfl rfl (Nat.le_of_ble_eq_true rfl) (fun z226 e226 => ?_)
                  have i226 := in_add 1 120 e226 i26 (in_c 1 rfl) rfl rfl
                  refine g_goto 17 (gd rfl) rfl ?_
                  have i17 : In z110 0 120 := by exact ⟨by have a0 := oa5 h1 i26 j17_2 i162 i226; have a5 := t_add e226 i26 (in_c 1 rfl) rfl; have a6 := oa2 ((in_c 1 rfl)) i128; have a8 := t_add e110 j17_2 (in_c (-1) rfl) rfl; have a9 := oa2 ((in_c (-1) rfl)) i225; have a11 := t_sub e137 i128 (in_c 1 rfl) rfl; have a12 := in_u i120; have a13 := t_sub e119 i110 (in_c 1 rfl) rfl; have a14 := in_u i24; have a15 := t_add e24 h1 (in_c 1 rfl) rfl; omega, by have a0 := oa5 h1 i26 j17_2 i162 i226; have a5 := t_add e226 i26 (in_c 1 rfl) rfl; have a6 := oa2 ((in_c 1 rfl)) i128; have a8 := t_add e110 j17_2 (in_c (-1) rfl) rfl; have a9 := oa2 ((in_c (-1) rfl)) i225; have a11 := t_sub e137 i128 (in_c 1 rfl) rfl; have a12 := in_u i120; have a13 := t_sub e119 i110 (in_c 1 rfl) rfl; have a14 := in_u i24; have a15 := t_add e24 h1 (in_c 1 rfl) rfl; omega⟩
                  have n17 : (z110).toInt ≤ (z226).toInt := by have a0 := oa5 h1 i26 j17_2 i162 i226; have a5 := t_add e226 i26 (in_c 1 rfl) rfl; have a6 := oa2 ((in_c 1 rfl)) i17; have a8 := t_add e110 j17_2 (in_c (-1) rfl) rfl; have a9 := oa2 ((in_c (-1) rfl)) i225; have a11 := t_sub e137 i128 (in_c 1 rfl) rfl; have a12 := in_u i120; have a13 := t_sub e119 i110 (in_c 1 rfl) rfl; have a14 := in_u i24; have a15 := t_add e24 h1 (in_c 1 rfl) rfl; omega
                  have n17a : WS (sL sc17 193 z137.toNatClampNeg (Int64.ofInt 1000000000000)) x1 z226 z110 := by first | exact hk2 _ _ (by have a0 := oa5 h1 i26 j17_2 i162 i226; have a5 := t_add e226 i26 (in_c 1 rfl) rfl; have a6 := oa2 ((in_c 1 rfl)) i17; have a8 := t_add e110 j17_2 (in_c (-1) rfl) rfl; have a9 := oa2 ((in_c (-1) rfl)) i225; have a11 := t_sub e137 i128 (in_c 1 rfl) rfl; have a12 := in_u i120; have a13 := t_sub e119 i110 (in_c 1 rfl) rfl; have a14 := in_u i24; have a15 := t_add e24 h1 (in_c 1 rfl) rfl; omega) (by have a0 := oa5 h1 i26 j17_2 i162 i226; have a5 := t_add e226 i26 (in_c 1 rfl) rfl; have a6 := oa2 ((in_c 1 rfl)) i17; have a8 := t_add e110 j17_2 (in_c (-1) rfl) rfl; have a9 := oa2 ((in_c (-1) rfl)) i225; have a11 := t_sub e137 i128 (in_c 1 rfl) rfl; have a12 := in_u i120; have a13 := t_sub e119 i110 (in_c 1 rfl) rfl; have a14 := in_u i24; have a15 := t_add e24 h1 (in_c 1 rfl) rfl; omega) | exact ws_0 rfl (by first | exact (by decide) | exact i15.1) (by unfold wa; first | (rw [if_pos c3]; rfl) | (rw [if_neg c3, e15]; rfl))
                  exact gg_w (by first | exact Nat.le_add_right _ _ | exact gw2 | exact gw3 | exact gwe rfl | exact gwf rfl | exact gwg rfl | exact gwh rfl | omega) (gg_f (gf_cons rfl (gf_cons rfl (gf_cons rfl (gf_cons rfl gf_nil)))) (ih17 (sL sc17 193 z137.toNatClampNeg (Int64.ofInt 1000000000000)) z110 z226 hI225 (fr_sL rfl hFc17) i17 (in_w 0 120 i226 rfl) n17 n17a (m_up mm17 (t_add e226 i26 (in_c 1 rfl) rfl) (in_w 1 1 (in_c 1 rfl) rfl))))
            · skip
              have i142 := r_eq1 42 42 c142 i84 (in_c 42 rfl) rfl
              refine g_lload 147 (gd rfl) rfl rfl ?_
              refine g_lload 149 (gd rfl) rfl rfl ?_
              refine g_calls (As := [.long z120, .long z128]) (r := [.int z137, .ref (A 193)]) 152 (gd rfl) rfl rfl rfl rfl rfl (Nat.le_of_ble_eq_true rfl) (Nat.zero_le _) (Nat.zero_le _) (k_406 (by first | exact dq1 hd rfl | exact dq0 hd rfl | exact dq2 hd rfl | exact dq3 hd rfl | omega) hIc17 ) (fun v u h => ?_)
              obtain ⟨z149, rfl, rfl⟩ := h
              show GG _ _ _ _ _ _ _ _ [.long z149, .int z137, .ref (A 193)] _ _ _
              refine g_calls (As := [.long z149]) (r := [.int z137, .ref (A 193)]) 155 (gd rfl) rfl rfl rfl rfl rfl (Nat.le_of_ble_eq_true rfl) (mc := 0) (ms := 0) (Nat.zero_le _) (Nat.zero_le _) (P := fun v u => _) ?_ (fun v u h => h)
              intro po152 xx152 hp152 hx152
              refine g_enter2 (k := 405) (N := 300) (by first | exact dq1 hd rfl | exact dq0 hd rfl | exact dq2 hd rfl | exact dq3 hd rfl | omega) rfl (Nat.le_of_ble_eq_true rfl) ?_
              refine g_lload_n 1 (gd rfl) rfl rfl ?_
              refine g_ldc2_w 1000000000000 4 (gd rfl) rfl rfl ?_
              refine g_lcmp 5 (gd rfl) rfl (fun z152x4 e152x4 => ?_)
              have i152x4 := lc_in e152x4
              refine g_if_le 8 14 (gd rfl) rfl rfl (fun c152x5 => ?_) (fun c152x5 => ?_)
              · skip
                have i152x5 := z_le (-1) 0 c152x5 i152x4 rfl
                have c152x5a := lc_le e152x4 c152x5
                have i152x5a := lr_le1 (-9223372036854775808) 1000000000000 c152x5a (l_rng z149) (l_c 1000000000000 rfl) rfl
                refine g_lload_n 15 (gd rfl) rfl rfl ?_
                refine g_ldc2_w (-1000000000000) 18 (gd rfl) rfl rfl ?_
                refine g_lcmp 19 (gd rfl) rfl (fun z152x18 e152x18 => ?_)
                have i152x18 := lc_in e152x18
                refine g_if_ge 22 28 (gd rfl) rfl rfl (fun c152x19 => ?_) (fun c152x19 => ?_)
                · skip
                  have i152x19 := z_ge 0 1 c152x19 i152x18 rfl
                  have c152x19a := lc_ge e152x18 c152x19
                  have i152x19a := lr_le2 (-1000000000000) 1000000000000 c152x19a (l_c (-1000000000000) rfl) i152x5a rfl
                  refine g_lload_n 29 (gd rfl) rfl rfl ?_
                  refine g_lreturn (gd rfl) rfl (hp152 _ _ ?_)
                  show GG _ _ _ _ _ _ _ _ [.long z149, .int z137, .ref (A 193)] _ _ _
                  refine g_goto 225 (gd rfl) rfl ?_
                  have i225 : In z137 0 199 := by have a0 := oa5 h1 i26 j17_2 i142 i128; have a5 := t_add e110 j17_2 (in_c (-1) rfl) rfl; have a6 := oa2 ((in_c (-1) rfl)) i137; have a8 := t_sub e137 i128 (in_c 1 rfl) rfl; have a9 := oa2 ((in_c 1 rfl)) i120; have a11 := t_sub e119 i110 (in_c 1 rfl) rfl; have a12 := in_u i24; have a13 := t_add e24 h1 (in_c 1 rfl) rfl; exact ⟨by omega, by omega⟩
                  refine g_lastore 226 (gd rfl) rfl (n := 200) rfl (in_ix i225 rfl) ?_
                  have hI225 := inv_sL (q := 193) (j := z137.toNatClampNeg) (x := z149) hIc17 rfl (l_rng z149)
                  refine g_iinc 229 (gd rfl) rfl rfl (Nat.le_of_ble_eq_true rfl) (fun z226 e226 => ?_)
                  have i226 := in_add 1 120 e226 i26 (in_c 1 rfl) rfl rfl
                  refine g_goto 17 (gd rfl) rfl ?_
                  have i17 : In z110 0 120 := by exact ⟨by have a0 := oa5 h1 i26 j17_2 i142 i226; have a5 := t_add e226 i26 (in_c 1 rfl) rfl; have a6 := oa2 ((in_c 1 rfl)) i128; have a8 := t_add e110 j17_2 (in_c (-1) rfl) rfl; have a9 := oa2 ((in_c (-1) rfl)) i225; have a11 := t_sub e137 i128 (in_c 1 rfl) rfl; have a12 := in_u i120; have a13 := t_sub e119 i110 (in_c 1 rfl) rfl; have a14 := in_u i24; have a15 := t_add e24 h1 (in_c 1 rfl) rfl; omega, by have a0 := oa5 h1 i26 j17_2 i142 i226; have a5 := t_add e226 i26 (in_c 1 rfl) rfl; have a6 := oa2 ((in_c 1 rfl)) i128; have a8 := t_add e110 j17_2 (in_c (-1) rfl) rfl; have a9 := oa2 ((in_c (-1) rfl)) i225; have a11 := t_sub e137 i128 (in_c 1 rfl) rfl; have a12 := in_u i120; have a13 := t_sub e119 i110 (in_c 1 rfl) rfl; have a14 := in_u i24; have a15 := t_add e24 h1 (in_c 1 rfl) rfl; omega⟩
                  have n17 : (z110).toInt ≤ (z226).toInt := by have a0 := oa5 h1 i26 j17_2 i142 i226; have a5 := t_add e226 i26 (in_c 1 rfl) rfl; have a6 := oa2 ((in_c 1 rfl)) i17; have a8 := t_add e110 j17_2 (in_c (-1) rfl) rfl; have a9 := oa2 ((in_c (-1) rfl)) i225; have a11 := t_sub e137 i128 (in_c 1 rfl) rfl; have a12 := in_u i120; have a13 := t_sub e119 i110 (in_c 1 rfl) rfl; have a14 := in_u i24; have a15 := t_add e24 h1 (in_c 1 rfl) rfl; omega
                  have n17a : WS (sL sc17 193 z137.toNatClampNeg z149) x1 z226 z110 := by first | exact hk2 _ _ (by have a0 := oa5 h1 i26 j17_2 i142 i226; have a5 := t_add e226 i26 (in_c 1 rfl) rfl; have a6 := oa2 ((in_c 1 rfl)) i17; have a8 := t_add e110 j17_2 (in_c (-1) rfl) rfl; have a9 := oa2 ((in_c (-1) rfl)) i225; have a11 := t_sub e137 i128 (in_c 1 rfl) rfl; have a12 := in_u i120; have a13 := t_sub e119 i110 (in_c 1 rfl) rfl; have a14 := in_u i24; have a15 := t_add e24 h1 (in_c 1 rfl) rfl; omega) (by have a0 := oa5 h1 i26 j17_2 i142 i226; have a5 := t_add e226 i26 (in_c 1 rfl) rfl; have a6 := oa2 ((in_c 1 rfl)) i17; have a8 := t_add e110 j17_2 (in_c (-1) rfl) rfl; have a9 := oa2 ((in_c (-1) rfl)) i225; have a11 := t_sub e137 i128 (in_c 1 rfl) rfl; have a12 := in_u i120; have a13 := t_sub e119 i110 (in_c 1 rfl) rfl; have a14 := in_u i24; have a15 := t_add e24 h1 (in_c 1 rfl) rfl; omega) | exact ws_0 rfl (by first | exact (by decide) | exact i15.1) (by unfold wa; first | (rw [if_pos c3]; rfl) | (rw [if_neg c3, e15]; rfl))
                  exact gg_w (by first | exact Nat.le_add_right _ _ | exact gw2 | exact gw3 | exact gwe rfl | exact gwf rfl | exact gwg rfl | exact gwh rfl | omega) (gg_f (gf_cons rfl (gf_cons rfl (gf_cons rfl (gf_cons rfl gf_nil)))) (ih17 (sL sc17 193 z137.toNatClampNeg z149) z110 z226 hI225 (fr_sL rfl hFc17) i17 (in_w 0 120 i226 rfl) n17 n17a (m_up mm17 (t_add e226 i26 (in_c 1 rfl) rfl) (in_w 1 1 (in_c 1 rfl) rfl))))
                · skip
                  have i152x19 := z_lt (-1) (-1) c152x19 i152x18 rfl
                  have c152x19a := lc_lt e152x18 c152x19
                  have i152x19a := lr_lt1 (-9223372036854775808) (-1000000000001) c152x19a i152x5a (l_c (-1000000000000) rfl) rfl
                  refine g_ldc2_w (-1000000000000) 25 (gd rfl) rfl rfl ?_
                  refine g_goto 29 (gd rfl) rfl ?_
                  refine g_lreturn (gd rfl) rfl (hp152 _ _ ?_)
                  show GG _ _ _ _ _ _ _ _ [.long (Int64.ofInt (-1000000000000)), .int z137, .ref (A 193)] _ _ _
                  refine g_goto 225 (gd rfl) rfl ?_
                  have i225 : In z137 0 199 := by have a0 := oa5 h1 i26 j17_2 i142 i128; have a5 := t_add e110 j17_2 (in_c (-1) rfl) rfl; have a6 := oa2 ((in_c (-1) rfl)) i137; have a8 := t_sub e137 i128 (in_c 1 rfl) rfl; have a9 := oa2 ((in_c 1 rfl)) i120; have a11 := t_sub e119 i110 (in_c 1 rfl) rfl; have a12 := in_u i24; have a13 := t_add e24 h1 (in_c 1 rfl) rfl; exact ⟨by omega, by omega⟩
                  refine g_lastore 226 (gd rfl) rfl (n := 200) rfl (in_ix i225 rfl) ?_
                  have hI225 := inv_sL (q := 193) (j := z137.toNatClampNeg) (x := (Int64.ofInt (-1000000000000))) hIc17 rfl (l_rng (Int64.ofInt (-1000000000000)))
                  refine g_iinc 229 (gd rfl) rfl rfl (Nat.le_of_ble_eq_true rfl) (fun z226 e226 => ?_)
                  have i226 := in_add 1 120 e226 i26 (in_c 1 rfl) rfl rfl
                  refine g_goto 17 (gd rfl) rfl ?_
                  have i17 : In z110 0 120 := by exact ⟨by have a0 := oa5 h1 i26 j17_2 i142 i226; have a5 := t_add e226 i26 (in_c 1 rfl) rfl; have a6 := oa2 ((in_c 1 rfl)) i128; have a8 := t_add e110 j17_2 (in_c (-1) rfl) rfl; have a9 := oa2 ((in_c (-1) rfl)) i225; have a11 := t_sub e137 i128 (in_c 1 rfl) rfl; have a12 := in_u i120; have a13 := t_sub e119 i110 (in_c 1 rfl) rfl; have a14 := in_u i24; have a15 := t_add e24 h1 (in_c 1 rfl) rfl; omega, by have a0 := oa5 h1 i26 j17_2 i142 i226; have a5 := t_add e226 i26 (in_c 1 rfl) rfl; have a6 := oa2 ((in_c 1 rfl)) i128; have a8 := t_add e110 j17_2 (in_c (-1) rfl) rfl; have a9 := oa2 ((in_c (-1) rfl)) i225; have a11 := t_sub e137 i128 (in_c 1 rfl) rfl; have a12 := in_u i120; have a13 := t_sub e119 i110 (in_c 1 rfl) rfl; have a14 := in_u i24; have a15 := t_add e24 h1 (in_c 1 rfl) rfl; omega⟩
                  have n17 : (z110).toInt ≤ (z226).toInt := by have a0 := oa5 h1 i26 j17_2 i142 i226; have a5 := t_add e226 i26 (in_c 1 rfl) rfl; have a6 := oa2 ((in_c 1 rfl)) i17; have a8 := t_add e110 j17_2 (in_c (-1) rfl) rfl; have a9 := oa2 ((in_c (-1) rfl)) i225; have a11 := t_sub e137 i128 (in_c 1 rfl) rfl; have a12 := in_u i120; have a13 := t_sub e119 i110 (in_c 1 rfl) rfl; have a14 := in_u i24; have a15 := t_add e24 h1 (in_c 1 rfl) rfl; omega
                  have n17a : WS (sL sc17 193 z137.toNatClampNeg (Int64.ofInt (-1000000000000))) x1 z226 z110 := by first | exact hk2 _ _ (by have a0 := oa5 h1 i26 j17_2 i142 i226; have a5 := t_add e226 i26 (in_c 1 rfl) rfl; have a6 := oa2 ((in_c 1 rfl)) i17; have a8 := t_add e110 j17_2 (in_c (-1) rfl) rfl; have a9 := oa2 ((in_c (-1) rfl)) i225; have a11 := t_sub e137 i128 (in_c 1 rfl) rfl; have a12 := in_u i120; have a13 := t_sub e119 i110 (in_c 1 rfl) rfl; have a14 := in_u i24; have a15 := t_add e24 h1 (in_c 1 rfl) rfl; omega) (by have a0 := oa5 h1 i26 j17_2 i142 i226; have a5 := t_add e226 i26 (in_c 1 rfl) rfl; have a6 := oa2 ((in_c 1 rfl)) i17; have a8 := t_add e110 j17_2 (in_c (-1) rfl) rfl; have a9 := oa2 ((in_c (-1) rfl)) i225; have a11 := t_sub e137 i128 (in_c 1 rfl) rfl; have a12 := in_u i120; have a13 := t_sub e119 i110 (in_c 1 rfl) rfl; have a14 := in_u i24; have a15 := t_add e24 h1 (in_c 1 rfl) rfl; omega) | exact ws_0 rfl (by first | exact (by decide) | exact i15.1) (by unfold wa; first | (rw [if_pos c3]; rfl) | (rw [if_neg c3, e15]; rfl))
                  exact gg_w (by first | exact Nat.le_add_right _ _ | exact gw2 | exact gw3 | exact gwe rfl | exact gwf rfl | exact gwg rfl | exact gwh rfl | omega) (gg_f (gf_cons rfl (gf_cons rfl (gf_cons rfl (gf_cons rfl gf_nil)))) (ih17 (sL sc17 193 z137.toNatClampNeg (Int64.ofInt (-1000000000000))) z110 z226 hI225 (fr_sL rfl hFc17) i17 (in_w 0 120 i226 rfl) n17 n17a (m_up mm17 (t_add e226 i26 (in_c 1 rfl) rfl) (in_w 1 1 (in_c 1 rfl) rfl))))
              · skip
                have i152x5 := z_gt 1 1 c152x5 i152x4 rfl
                have c152x5a := lc_gt e152x4 c152x5
                have i152x5a := lr_lt2 1000000000001 9223372036854775807 c152x5a (l_c 1000000000000 rfl) (l_rng z149) rfl
                refine g_ldc2_w 1000000000000 11 (gd rfl) rfl rfl ?_
                refine g_goto 29 (gd rfl) rfl ?_
                refine g_lreturn (gd rfl) rfl (hp152 _ _ ?_)
                show GG _ _ _ _ _ _ _ _ [.long (Int64.ofInt 1000000000000), .int z137, .ref (A 193)] _ _ _
                refine g_goto 225 (gd rfl) rfl ?_
                have i225 : In z137 0 199 := by have a0 := oa5 h1 i26 j17_2 i142 i128; have a5 := t_add e110 j17_2 (in_c (-1) rfl) rfl; have a6 := oa2 ((in_c (-1) rfl)) i137; have a8 := t_sub e137 i128 (in_c 1 rfl) rfl; have a9 := oa2 ((in_c 1 rfl)) i120; have a11 := t_sub e119 i110 (in_c 1 rfl) rfl; have a12 := in_u i24; have a13 := t_add e24 h1 (in_c 1 rfl) rfl; exact ⟨by omega, by omega⟩
                refine g_lastore 226 (gd rfl) rfl (n := 200) rfl (in_ix i225 rfl) ?_
                have hI225 := inv_sL (q := 193) (j := z137.toNatClampNeg) (x := (Int64.ofInt 1000000000000)) hIc17 rfl (l_rng (Int64.ofInt 1000000000000))
                refine g_iinc 229 (gd rfl) rfl rfl (Nat.le_of_ble_eq_true rfl) (fun z226 e226 => ?_)
                have i226 := in_add 1 120 e226 i26 (in_c 1 rfl) rfl rfl
                refine g_goto 17 (gd rfl) rfl ?_
                have i17 : In z110 0 120 := by exact ⟨by have a0 := oa5 h1 i26 j17_2 i142 i226; have a5 := t_add e226 i26 (in_c 1 rfl) rfl; have a6 := oa2 ((in_c 1 rfl)) i128; have a8 := t_add e110 j17_2 (in_c (-1) rfl) rfl; have a9 := oa2 ((in_c (-1) rfl)) i225; have a11 := t_sub e137 i128 (in_c 1 rfl) rfl; have a12 := in_u i120; have a13 := t_sub e119 i110 (in_c 1 rfl) rfl; have a14 := in_u i24; have a15 := t_add e24 h1 (in_c 1 rfl) rfl; omega, by have a0 := oa5 h1 i26 j17_2 i142 i226; have a5 := t_add e226 i26 (in_c 1 rfl) rfl; have a6 := oa2 ((in_c 1 rfl)) i128; have a8 := t_add e110 j17_2 (in_c (-1) rfl) rfl; have a9 := oa2 ((in_c (-1) rfl)) i225; have a11 := t_sub e137 i128 (in_c 1 rfl) rfl; have a12 := in_u i120; have a13 := t_sub e119 i110 (in_c 1 rfl) rfl; have a14 := in_u i24; have a15 := t_add e24 h1 (in_c 1 rfl) rfl; omega⟩
                have n17 : (z110).toInt ≤ (z226).toInt := by have a0 := oa5 h1 i26 j17_2 i142 i226; have a5 := t_add e226 i26 (in_c 1 rfl) rfl; have a6 := oa2 ((in_c 1 rfl)) i17; have a8 := t_add e110 j17_2 (in_c (-1) rfl) rfl; have a9 := oa2 ((in_c (-1) rfl)) i225; have a11 := t_sub e137 i128 (in_c 1 rfl) rfl; have a12 := in_u i120; have a13 := t_sub e119 i110 (in_c 1 rfl) rfl; have a14 := in_u i24; have a15 := t_add e24 h1 (in_c 1 rfl) rfl; omega
                have n17a : WS (sL sc17 193 z137.toNatClampNeg (Int64.ofInt 1000000000000)) x1 z226 z110 := by first | exact hk2 _ _ (by have a0 := oa5 h1 i26 j17_2 i142 i226; have a5 := t_add e226 i26 (in_c 1 rfl) rfl; have a6 := oa2 ((in_c 1 rfl)) i17; have a8 := t_add e110 j17_2 (in_c (-1) rfl) rfl; have a9 := oa2 ((in_c (-1) rfl)) i225; have a11 := t_sub e137 i128 (in_c 1 rfl) rfl; have a12 := in_u i120; have a13 := t_sub e119 i110 (in_c 1 rfl) rfl; have a14 := in_u i24; have a15 := t_add e24 h1 (in_c 1 rfl) rfl; omega) (by have a0 := oa5 h1 i26 j17_2 i142 i226; have a5 := t_add e226 i26 (in_c 1 rfl) rfl; have a6 := oa2 ((in_c 1 rfl)) i17; have a8 := t_add e110 j17_2 (in_c (-1) rfl) rfl; have a9 := oa2 ((in_c (-1) rfl)) i225; have a11 := t_sub e137 i128 (in_c 1 rfl) rfl; have a12 := in_u i120; have a13 := t_sub e119 i110 (in_c 1 rfl) rfl; have a14 := in_u i24; have a15 := t_add e24 h1 (in_c 1 rfl) rfl; omega) | exact ws_0 rfl (by first | exact (by decide) | exact i15.1) (by unfold wa; first | (rw [if_pos c3]; rfl) | (rw [if_neg c3, e15]; rfl))
                exact gg_w (by first | exact Nat.le_add_right _ _ | exact gw2 | exact gw3 | exact gwe rfl | exact gwf rfl | exact gwg rfl | exact gwh rfl | omega) (gg_f (gf_cons rfl (gf_cons rfl (gf_cons rfl (gf_cons rfl gf_nil)))) (ih17 (sL sc17 193 z137.toNatClampNeg (Int64.ofInt 1000000000000)) z110 z226 hI225 (fr_sL rfl hFc17) i17 (in_w 0 120 i226 rfl) n17 n17a (m_up mm17 (t_add e226 i26 (in_c 1 rfl) rfl) (in_w 1 1 (in_c 1 rfl) rfl))))
          · skip
            have i84 := r_eq1 2 2 c84 i40 (in_c 2 rfl) rfl
            have hk3 := hs_2 hk1 c84
            refine g_aload_n 88 (gd rfl) rfl rfl ?_
            refine g_getA (q2 := 193) 91 (gd rfl) rfl rfl rfl rfl ?_
            refine g_iload_n 92 (gd rfl) rfl rfl ?_
            refine g_iconst 1 93 (gd rfl) rfl rfl ?_
            refine g_isub 94 (gd rfl) rfl (fun z93 e93 => ?_)
            have i93 := in_sub (-1) 119 e93 j17_2 (in_c 1 rfl) rfl rfl
            refine g_aload_n 95 (gd rfl) rfl rfl ?_
            refine g_getA (q2 := 193) 98 (gd rfl) rfl rfl rfl rfl ?_
            refine g_iload_n 99 (gd rfl) rfl rfl ?_
            refine g_iconst 1 100 (gd rfl) rfl rfl ?_
            refine g_isub 101 (gd rfl) rfl (fun z100 e100 => ?_)
            have i100 := in_sub (-1) 119 e100 j17_2 (in_c 1 rfl) rfl rfl
            have i101 : In z100 0 199 := by have a0 := oa5 h1 i26 j17_2 i84 i100; have a5 := t_sub e100 j17_2 (in_c 1 rfl) rfl; have a6 := oa2 ((in_c 1 rfl)) i93; have a8 := t_sub e93 j17_2 (in_c 1 rfl) rfl; have a9 := in_u i24; have a10 := t_add e24 h1 (in_c 1 rfl) rfl; exact ⟨by omega, by omega⟩
            refine g_laload 102 (gd rfl) rfl (n := 200) rfl (in_ix i101 rfl) (fun z101 e101 => ?_)
            refine g_lneg 103 (gd rfl) rfl (fun z102 e102 => ?_)
            refine g_calls (As := [.long z102]) (r := [.int z93, .ref (A 193)]) 106 (gd rfl) rfl rfl rfl rfl rfl (Nat.le_of_ble_eq_true rfl) (mc := 0) (ms := 0) (Nat.zero_le _) (Nat.zero_le _) (P := fun v u => _) ?_ (fun v u h => h)
            intro po103 xx103 hp103 hx103
            refine g_enter2 (k := 405) (N := 300) (by first | exact dq1 hd rfl | exact dq0 hd rfl | exact dq2 hd rfl | exact dq3 hd rfl | omega) rfl (Nat.le_of_ble_eq_true rfl) ?_
            refine g_lload_n 1 (gd rfl) rfl rfl ?_
            refine g_ldc2_w 1000000000000 4 (gd rfl) rfl rfl ?_
            refine g_lcmp 5 (gd rfl) rfl (fun z103x4 e103x4 => ?_)
            have i103x4 := lc_in e103x4
            refine g_if_le 8 14 (gd rfl) rfl rfl (fun c103x5 => ?_) (fun c103x5 => ?_)
            · skip
              have i103x5 := z_le (-1) 0 c103x5 i103x4 rfl
              have c103x5a := lc_le e103x4 c103x5
              have i103x5a := lr_le1 (-9223372036854775808) 1000000000000 c103x5a (l_rng z102) (l_c 1000000000000 rfl) rfl
              refine g_lload_n 15 (gd rfl) rfl rfl ?_
              refine g_ldc2_w (-1000000000000) 18 (gd rfl) rfl rfl ?_
              refine g_lcmp 19 (gd rfl) rfl (fun z103x18 e103x18 => ?_)
              have i103x18 := lc_in e103x18
              refine g_if_ge 22 28 (gd rfl) rfl rfl (fun c103x19 => ?_) (fun c103x19 => ?_)
              · skip
                have i103x19 := z_ge 0 1 c103x19 i103x18 rfl
                have c103x19a := lc_ge e103x18 c103x19
                have i103x19a := lr_le2 (-1000000000000) 1000000000000 c103x19a (l_c (-1000000000000) rfl) i103x5a rfl
                refine g_lload_n 29 (gd rfl) rfl rfl ?_
                refine g_lreturn (gd rfl) rfl (hp103 _ _ ?_)
                show GG _ _ _ _ _ _ _ _ [.long z102, .int z93, .ref (A 193)] _ _ _
                have i106 : In z93 0 199 := by have a0 := oa5 h1 i26 j17_2 i84 i101; have a5 := t_sub e100 j17_2 (in_c 1 rfl) rfl; have a6 := oa2 ((in_c 1 rfl)) i93; have a8 := t_sub e93 j17_2 (in_c 1 rfl) rfl; have a9 := in_u i24; have a10 := t_add e24 h1 (in_c 1 rfl) rfl; exact ⟨by omega, by omega⟩
                refine g_lastore 107 (gd rfl) rfl (n := 200) rfl (in_ix i106 rfl) ?_
                have hI106 := inv_sL (q := 193) (j := z93.toNatClampNeg) (x := z102) hIc17 rfl (l_rng z102)
                refine g_goto 226 (gd rfl) rfl ?_
                refine g_iinc 229 (gd rfl) rfl rfl (Nat.le_of_ble_eq_true rfl) (fun z226 e226 => ?_)
                have i226 := in_add 1 120 e226 i26 (in_c 1 rfl) rfl rfl
                refine g_goto 17 (gd rfl) rfl ?_
                have n17 : (y17_2).toInt ≤ (z226).toInt := by have a0 := oa5 h1 i26 j17_2 i84 i226; have a5 := t_add e226 i26 (in_c 1 rfl) rfl; have a6 := oa2 ((in_c 1 rfl)) i101; have a8 := t_sub e100 j17_2 (in_c 1 rfl) rfl; have a9 := in_u i106; have a10 := t_sub e93 j17_2 (in_c 1 rfl) rfl; have a11 := in_u i24; have a12 := t_add e24 h1 (in_c 1 rfl) rfl; omega
                have n17a : WS (sL sc17 193 z93.toNatClampNeg z102) x1 z226 y17_2 := by first | exact hk2 _ _ (by have a0 := oa5 h1 i26 j17_2 i84 i226; have a5 := t_add e226 i26 (in_c 1 rfl) rfl; have a6 := oa2 ((in_c 1 rfl)) i101; have a8 := t_sub e100 j17_2 (in_c 1 rfl) rfl; have a9 := in_u i106; have a10 := t_sub e93 j17_2 (in_c 1 rfl) rfl; have a11 := in_u i24; have a12 := t_add e24 h1 (in_c 1 rfl) rfl; omega) (by have a0 := oa5 h1 i26 j17_2 i84 i226; have a5 := t_add e226 i26 (in_c 1 rfl) rfl; have a6 := oa2 ((in_c 1 rfl)) i101; have a8 := t_sub e100 j17_2 (in_c 1 rfl) rfl; have a9 := in_u i106; have a10 := t_sub e93 j17_2 (in_c 1 rfl) rfl; have a11 := in_u i24; have a12 := t_add e24 h1 (in_c 1 rfl) rfl; omega) | exact ws_0 rfl (by first | exact (by decide) | exact i15.1) (by unfold wa; first | (rw [if_pos c3]; rfl) | (rw [if_neg c3, e15]; rfl))
                exact gg_w (by first | exact Nat.le_add_right _ _ | exact gw2 | exact gw3 | exact gwe rfl | exact gwf rfl | exact gwg rfl | exact gwh rfl | omega) (gg_f (gf_cons rfl (gf_cons rfl (gf_cons rfl (gf_cons rfl gf_nil)))) (ih17 (sL sc17 193 z93.toNatClampNeg z102) y17_2 z226 hI106 (fr_sL rfl hFc17) (in_w 0 120 j17_2 rfl) (in_w 0 120 i226 rfl) n17 n17a (m_up mm17 (t_add e226 i26 (in_c 1 rfl) rfl) (in_w 1 1 (in_c 1 rfl) rfl))))
              · skip
                have i103x19 := z_lt (-1) (-1) c103x19 i103x18 rfl
                have c103x19a := lc_lt e103x18 c103x19
                have i103x19a := lr_lt1 (-9223372036854775808) (-1000000000001) c103x19a i103x5a (l_c (-1000000000000) rfl) rfl
                refine g_ldc2_w (-1000000000000) 25 (gd rfl) rfl rfl ?_
                refine g_goto 29 (gd rfl) rfl ?_
                refine g_lreturn (gd rfl) rfl (hp103 _ _ ?_)
                show GG _ _ _ _ _ _ _ _ [.long (Int64.ofInt (-1000000000000)), .int z93, .ref (A 193)] _ _ _
                have i106 : In z93 0 199 := by have a0 := oa5 h1 i26 j17_2 i84 i101; have a5 := t_sub e100 j17_2 (in_c 1 rfl) rfl; have a6 := oa2 ((in_c 1 rfl)) i93; have a8 := t_sub e93 j17_2 (in_c 1 rfl) rfl; have a9 := in_u i24; have a10 := t_add e24 h1 (in_c 1 rfl) rfl; exact ⟨by omega, by omega⟩
                refine g_lastore 107 (gd rfl) rfl (n := 200) rfl (in_ix i106 rfl) ?_
                have hI106 := inv_sL (q := 193) (j := z93.toNatClampNeg) (x := (Int64.ofInt (-1000000000000))) hIc17 rfl (l_rng (Int64.ofInt (-1000000000000)))
                refine g_goto 226 (gd rfl) rfl ?_
                refine g_iinc 229 (gd rfl) rfl rfl (Nat.le_of_ble_eq_true rfl) (fun z226 e226 => ?_)
                have i226 := in_add 1 120 e226 i26 (in_c 1 rfl) rfl rfl
                refine g_goto 17 (gd rfl) rfl ?_
                have n17 : (y17_2).toInt ≤ (z226).toInt := by have a0 := oa5 h1 i26 j17_2 i84 i226; have a5 := t_add e226 i26 (in_c 1 rfl) rfl; have a6 := oa2 ((in_c 1 rfl)) i101; have a8 := t_sub e100 j17_2 (in_c 1 rfl) rfl; have a9 := in_u i106; have a10 := t_sub e93 j17_2 (in_c 1 rfl) rfl; have a11 := in_u i24; have a12 := t_add e24 h1 (in_c 1 rfl) rfl; omega
                have n17a : WS (sL sc17 193 z93.toNatClampNeg (Int64.ofInt (-1000000000000))) x1 z226 y17_2 := by first | exact hk2 _ _ (by have a0 := oa5 h1 i26 j17_2 i84 i226; have a5 := t_add e226 i26 (in_c 1 rfl) rfl; have a6 := oa2 ((in_c 1 rfl)) i101; have a8 := t_sub e100 j17_2 (in_c 1 rfl) rfl; have a9 := in_u i106; have a10 := t_sub e93 j17_2 (in_c 1 rfl) rfl; have a11 := in_u i24; have a12 := t_add e24 h1 (in_c 1 rfl) rfl; omega) (by have a0 := oa5 h1 i26 j17_2 i84 i226; have a5 := t_add e226 i26 (in_c 1 rfl) rfl; have a6 := oa2 ((in_c 1 rfl)) i101; have a8 := t_sub e100 j17_2 (in_c 1 rfl) rfl; have a9 := in_u i106; have a10 := t_sub e93 j17_2 (in_c 1 rfl) rfl; have a11 := in_u i24; have a12 := t_add e24 h1 (in_c 1 rfl) rfl; omega) | exact ws_0 rfl (by first | exact (by decide) | exact i15.1) (by unfold wa; first | (rw [if_pos c3]; rfl) | (rw [if_neg c3, e15]; rfl))
                exact gg_w (by first | exact Nat.le_add_right _ _ | exact gw2 | exact gw3 | exact gwe rfl | exact gwf rfl | exact gwg rfl | exact gwh rfl | omega) (gg_f (gf_cons rfl (gf_cons rfl (gf_cons rfl (gf_cons rfl gf_nil)))) (ih17 (sL sc17 193 z93.toNatClampNeg (Int64.ofInt (-1000000000000))) y17_2 z226 hI106 (fr_sL rfl hFc17) (in_w 0 120 j17_2 rfl) (in_w 0 120 i226 rfl) n17 n17a (m_up mm17 (t_add e226 i26 (in_c 1 rfl) rfl) (in_w 1 1 (in_c 1 rfl) rfl))))
            · skip
              have i103x5 := z_gt 1 1 c103x5 i103x4 rfl
              have c103x5a := lc_gt e103x4 c103x5
              have i103x5a := lr_lt2 1000000000001 9223372036854775807 c103x5a (l_c 1000000000000 rfl) (l_rng z102) rfl
              refine g_ldc2_w 1000000000000 11 (gd rfl) rfl rfl ?_
              refine g_goto 29 (gd rfl) rfl ?_
              refine g_lreturn (gd rfl) rfl (hp103 _ _ ?_)
              show GG _ _ _ _ _ _ _ _ [.long (Int64.ofInt 1000000000000), .int z93, .ref (A 193)] _ _ _
              have i106 : In z93 0 199 := by have a0 := oa5 h1 i26 j17_2 i84 i101; have a5 := t_sub e100 j17_2 (in_c 1 rfl) rfl; have a6 := oa2 ((in_c 1 rfl)) i93; have a8 := t_sub e93 j17_2 (in_c 1 rfl) rfl; have a9 := in_u i24; have a10 := t_add e24 h1 (in_c 1 rfl) rfl; exact ⟨by omega, by omega⟩
              refine g_lastore 107 (gd rfl) rfl (n := 200) rfl (in_ix i106 rfl) ?_
              have hI106 := inv_sL (q := 193) (j := z93.toNatClampNeg) (x := (Int64.ofInt 1000000000000)) hIc17 rfl (l_rng (Int64.ofInt 1000000000000))
              refine g_goto 226 (gd rfl) rfl ?_
              refine g_iinc 229 (gd rfl) rfl rfl (Nat.le_of_ble_eq_true rfl) (fun z226 e226 => ?_)
              have i226 := in_add 1 120 e226 i26 (in_c 1 rfl) rfl rfl
              refine g_goto 17 (gd rfl) rfl ?_
              have n17 : (y17_2).toInt ≤ (z226).toInt := by have a0 := oa5 h1 i26 j17_2 i84 i226; have a5 := t_add e226 i26 (in_c 1 rfl) rfl; have a6 := oa2 ((in_c 1 rfl)) i101; have a8 := t_sub e100 j17_2 (in_c 1 rfl) rfl; have a9 := in_u i106; have a10 := t_sub e93 j17_2 (in_c 1 rfl) rfl; have a11 := in_u i24; have a12 := t_add e24 h1 (in_c 1 rfl) rfl; omega
              have n17a : WS (sL sc17 193 z93.toNatClampNeg (Int64.ofInt 1000000000000)) x1 z226 y17_2 := by first | exact hk2 _ _ (by have a0 := oa5 h1 i26 j17_2 i84 i226; have a5 := t_add e226 i26 (in_c 1 rfl) rfl; have a6 := oa2 ((in_c 1 rfl)) i101; have a8 := t_sub e100 j17_2 (in_c 1 rfl) rfl; have a9 := in_u i106; have a10 := t_sub e93 j17_2 (in_c 1 rfl) rfl; have a11 := in_u i24; have a12 := t_add e24 h1 (in_c 1 rfl) rfl; omega) (by have a0 := oa5 h1 i26 j17_2 i84 i226; have a5 := t_add e226 i26 (in_c 1 rfl) rfl; have a6 := oa2 ((in_c 1 rfl)) i101; have a8 := t_sub e100 j17_2 (in_c 1 rfl) rfl; have a9 := in_u i106; have a10 := t_sub e93 j17_2 (in_c 1 rfl) rfl; have a11 := in_u i24; have a12 := t_add e24 h1 (in_c 1 rfl) rfl; omega) | exact ws_0 rfl (by first | exact (by decide) | exact i15.1) (by unfold wa; first | (rw [if_pos c3]; rfl) | (rw [if_neg c3, e15]; rfl))
              exact gg_w (by first | exact Nat.le_add_right _ _ | exact gw2 | exact gw3 | exact gwe rfl | exact gwf rfl | exact gwg rfl | exact gwh rfl | omega) (gg_f (gf_cons rfl (gf_cons rfl (gf_cons rfl (gf_cons rfl gf_nil)))) (ih17 (sL sc17 193 z93.toNatClampNeg (Int64.ofInt 1000000000000)) y17_2 z226 hI106 (fr_sL rfl hFc17) (in_w 0 120 j17_2 rfl) (in_w 0 120 i226 rfl) n17 n17a (m_up mm17 (t_add e226 i26 (in_c 1 rfl) rfl) (in_w 1 1 (in_c 1 rfl) rfl))))
        · skip
          have i40 := r_lt1 (-2147483648) 1 c40 (i_rng z34) (in_c 2 rfl) rfl
          have hk3 := (hs_0 hk1 c40)
          refine g_aload_n 44 (gd rfl) rfl rfl ?_
          refine g_getA (q2 := 193) 47 (gd rfl) rfl rfl rfl rfl ?_
          refine g_iload_n 48 (gd rfl) rfl rfl ?_
          refine g_iload 50 (gd rfl) rfl rfl ?_
          refine g_if_ne 53 63 (gd rfl) rfl rfl (fun c50 => ?_) (fun c50 => ?_)
          · skip
            refine g_aload_n 64 (gd rfl) rfl rfl ?_
            refine g_getA (q2 := 194) 67 (gd rfl) rfl rfl rfl rfl ?_
            refine g_aload_n 68 (gd rfl) rfl rfl ?_
            refine g_getA (q2 := 185) 71 (gd rfl) rfl rfl rfl rfl ?_
            refine g_iload_n 72 (gd rfl) rfl rfl ?_
            refine g_iaload 73 (gd rfl) rfl (n := 400) rfl (in_ix i26 rfl) (fun z72 e72 => ?_)
            have i73 : In z72 0 8 := by rw [e72]; exact hk3.2 c50
            refine g_laload 74 (gd rfl) rfl (n := 9) rfl (in_ix i73 rfl) (fun z73 e73 => ?_)
            refine g_lastore 75 (gd rfl) rfl (n := 200) rfl (in_ix j17_2 rfl) ?_
            have hI74 := inv_sL (q := 193) (j := y17_2.toNatClampNeg) (x := z73) hIc17 rfl (l_rng z73)
            refine g_iinc 78 (gd rfl) rfl rfl (Nat.le_of_ble_eq_true rfl) (fun z75 e75 => ?_)
            have i75 := in_add 1 121 e75 j17_2 (in_c 1 rfl) rfl rfl
            refine g_goto 226 (gd rfl) rfl ?_
            refine g_iinc 229 (gd rfl) rfl rfl (Nat.le_of_ble_eq_true rfl) (fun z226 e226 => ?_)
            have i226 := in_add 1 120 e226 i26 (in_c 1 rfl) rfl rfl
            refine g_goto 17 (gd rfl) rfl ?_
            have i17 : In z75 0 120 := by exact ⟨by have a0 := oa5 h1 i26 j17_2 i40 i226; have a5 := t_add e226 i26 (in_c 1 rfl) rfl; have a6 := oa2 ((in_c 1 rfl)) i75; have a8 := t_add e75 j17_2 (in_c 1 rfl) rfl; have a9 := in_u i24; have a10 := t_add e24 h1 (in_c 1 rfl) rfl; omega, by have a0 := oa5 h1 i26 j17_2 i40 i226; have a5 := t_add e226 i26 (in_c 1 rfl) rfl; have a6 := oa2 ((in_c 1 rfl)) i75; have a8 := t_add e75 j17_2 (in_c 1 rfl) rfl; have a9 := in_u i24; have a10 := t_add e24 h1 (in_c 1 rfl) rfl; omega⟩
            have n17 : (z75).toInt ≤ (z226).toInt := by have a0 := oa5 h1 i26 j17_2 i40 i226; have a5 := t_add e226 i26 (in_c 1 rfl) rfl; have a6 := oa2 ((in_c 1 rfl)) i17; have a8 := t_add e75 j17_2 (in_c 1 rfl) rfl; have a9 := in_u i24; have a10 := t_add e24 h1 (in_c 1 rfl) rfl; omega
            have n17a : WS (sL sc17 193 y17_2.toNatClampNeg z73) x1 z226 z75 := by first | exact hk2 _ _ (by have a0 := oa5 h1 i26 j17_2 i40 i226; have a5 := t_add e226 i26 (in_c 1 rfl) rfl; have a6 := oa2 ((in_c 1 rfl)) i17; have a8 := t_add e75 j17_2 (in_c 1 rfl) rfl; have a9 := in_u i24; have a10 := t_add e24 h1 (in_c 1 rfl) rfl; omega) (by have a0 := oa5 h1 i26 j17_2 i40 i226; have a5 := t_add e226 i26 (in_c 1 rfl) rfl; have a6 := oa2 ((in_c 1 rfl)) i17; have a8 := t_add e75 j17_2 (in_c 1 rfl) rfl; have a9 := in_u i24; have a10 := t_add e24 h1 (in_c 1 rfl) rfl; omega) | exact ws_0 rfl (by first | exact (by decide) | exact i15.1) (by unfold wa; first | (rw [if_pos c3]; rfl) | (rw [if_neg c3, e15]; rfl))
            exact gg_w (by first | exact Nat.le_add_right _ _ | exact gw2 | exact gw3 | exact gwe rfl | exact gwf rfl | exact gwg rfl | exact gwh rfl | omega) (gg_f (gf_cons rfl (gf_cons rfl (gf_cons rfl (gf_cons rfl gf_nil)))) (ih17 (sL sc17 193 y17_2.toNatClampNeg z73) z75 z226 hI74 (fr_sL rfl hFc17) i17 (in_w 0 120 i226 rfl) n17 n17a (m_up mm17 (t_add e226 i26 (in_c 1 rfl) rfl) (in_w 1 1 (in_c 1 rfl) rfl))))
          · skip
            have i50 := z_eq 0 0 c50 i40 rfl
            refine g_aload_n 54 (gd rfl) rfl rfl ?_
            refine g_getA (q2 := 185) 57 (gd rfl) rfl rfl rfl rfl ?_
            refine g_iload_n 58 (gd rfl) rfl rfl ?_
            refine g_iaload 59 (gd rfl) rfl (n := 400) rfl (in_ix i26 rfl) (fun z58 e58 => ?_)
            refine g_i2l 60 (gd rfl) rfl (fun z59 e59 => ?_)
            have i59 := l_i e59 (i_rng z58)
            refine g_goto 74 (gd rfl) rfl ?_
            refine g_lastore 75 (gd rfl) rfl (n := 200) rfl (in_ix j17_2 rfl) ?_
            have hI74 := inv_sL (q := 193) (j := y17_2.toNatClampNeg) (x := z59) hIc17 rfl (l_rng z59)
            refine g_iinc 78 (gd rfl) rfl rfl (Nat.le_of_ble_eq_true rfl) (fun z75 e75 => ?_)
            have i75 := in_add 1 121 e75 j17_2 (in_c 1 rfl) rfl rfl
            refine g_goto 226 (gd rfl) rfl ?_
            refine g_iinc 229 (gd rfl) rfl rfl (Nat.le_of_ble_eq_true rfl) (fun z226 e226 => ?_)
            have i226 := in_add 1 120 e226 i26 (in_c 1 rfl) rfl rfl
            refine g_goto 17 (gd rfl) rfl ?_
            have i17 : In z75 0 120 := by exact ⟨by have a0 := oa5 h1 i26 j17_2 i50 i226; have a5 := t_add e226 i26 (in_c 1 rfl) rfl; have a6 := oa2 ((in_c 1 rfl)) i75; have a8 := t_add e75 j17_2 (in_c 1 rfl) rfl; have a9 := tx_i2l e59; have a10 := in_u i24; have a11 := t_add e24 h1 (in_c 1 rfl) rfl; omega, by have a0 := oa5 h1 i26 j17_2 i50 i226; have a5 := t_add e226 i26 (in_c 1 rfl) rfl; have a6 := oa2 ((in_c 1 rfl)) i75; have a8 := t_add e75 j17_2 (in_c 1 rfl) rfl; have a9 := tx_i2l e59; have a10 := in_u i24; have a11 := t_add e24 h1 (in_c 1 rfl) rfl; omega⟩
            have n17 : (z75).toInt ≤ (z226).toInt := by have a0 := oa5 h1 i26 j17_2 i50 i226; have a5 := t_add e226 i26 (in_c 1 rfl) rfl; have a6 := oa2 ((in_c 1 rfl)) i17; have a8 := t_add e75 j17_2 (in_c 1 rfl) rfl; have a9 := tx_i2l e59; have a10 := in_u i24; have a11 := t_add e24 h1 (in_c 1 rfl) rfl; omega
            have n17a : WS (sL sc17 193 y17_2.toNatClampNeg z59) x1 z226 z75 := by first | exact hk2 _ _ (by have a0 := oa5 h1 i26 j17_2 i50 i226; have a5 := t_add e226 i26 (in_c 1 rfl) rfl; have a6 := oa2 ((in_c 1 rfl)) i17; have a8 := t_add e75 j17_2 (in_c 1 rfl) rfl; have a9 := tx_i2l e59; have a10 := in_u i24; have a11 := t_add e24 h1 (in_c 1 rfl) rfl; omega) (by have a0 := oa5 h1 i26 j17_2 i50 i226; have a5 := t_add e226 i26 (in_c 1 rfl) rfl; have a6 := oa2 ((in_c 1 rfl)) i17; have a8 := t_add e75 j17_2 (in_c 1 rfl) rfl; have a9 := tx_i2l e59; have a10 := in_u i24; have a11 := t_add e24 h1 (in_c 1 rfl) rfl; omega) | exact ws_0 rfl (by first | exact (by decide) | exact i15.1) (by unfold wa; first | (rw [if_pos c3]; rfl) | (rw [if_neg c3, e15]; rfl))
            exact gg_w (by first | exact Nat.le_add_right _ _ | exact gw2 | exact gw3 | exact gwe rfl | exact gwf rfl | exact gwg rfl | exact gwh rfl | omega) (gg_f (gf_cons rfl (gf_cons rfl (gf_cons rfl (gf_cons rfl gf_nil)))) (ih17 (sL sc17 193 y17_2.toNatClampNeg z59) z75 z226 hI74 (fr_sL rfl hFc17) i17 (in_w 0 120 i226 rfl) n17 n17a (m_up mm17 (t_add e226 i26 (in_c 1 rfl) rfl) (in_w 1 1 (in_c 1 rfl) rfl))))
  refine g_enter2 (k := 408) (N := 109801) (by first | exact dq1 hd rfl | exact dq0 hd rfl | exact dq2 hd rfl | exact dq3 hd rfl | omega) rfl (Nat.le_of_ble_eq_true rfl) ?_
  refine g_iconst 0 1 (gd rfl) rfl rfl ?_
  refine g_istore_n 2 (gd rfl) rfl (Nat.le_of_ble_eq_true rfl) ?_
  refine g_iload_n 3 (gd rfl) rfl rfl ?_
  refine g_if_ne 6 10 (gd rfl) rfl rfl (fun c3 => ?_) (fun c3 => ?_)
  · skip
    have i3 := z_ne 1 1 c3 h1 rfl
    refine g_aload_n 11 (gd rfl) rfl rfl ?_
    refine g_getA (q2 := 186) 14 (gd rfl) rfl rfl rfl rfl ?_
    refine g_iconst 1 15 (gd rfl) rfl rfl ?_
    refine g_iaload 16 (gd rfl) rfl (n := 3) rfl (in_ix (in_c 1 rfl) rfl) (fun z15 e15 => ?_)
    have i15 := inv_I hI (n := 3) (t := 0) 0 120 rfl (in_ix (in_c 1 rfl) rfl) rfl e15
    refine g_istore_n 17 (gd rfl) rfl (Nat.le_of_ble_eq_true rfl) ?_
    have n17 : ((Int32.ofInt 0)).toInt ≤ (z15).toInt := by have a0 := oa3 i3 i15 ((in_c 0 rfl)); omega
    have n17a : WS s x1 z15 (Int32.ofInt 0) := by first | exact hk2 _ _ (by have a0 := oa3 i3 i15 ((in_c 0 rfl)); omega) (by have a0 := oa3 i3 i15 ((in_c 0 rfl)); omega) | exact ws_0 rfl (by first | exact (by decide) | exact i15.1) (by unfold wa; first | (rw [if_pos c3]; rfl) | (rw [if_neg c3, e15]; rfl))
    exact gg_w (by first | exact Nat.le_of_ble_eq_true rfl | omega) (gg_f (gf_cons rfl (gf_cons rfl (gf_cons rfl (gf_cons rfl gf_nil)))) (ct17 121 s (Int32.ofInt 0) z15 hI fr_rf (in_w 0 120 (in_c 0 rfl) rfl) (in_w 0 120 i15 rfl) n17 n17a (m_in 121 (in_w 0 120 i15 rfl) rfl)))
  · skip
    have i3 := z_eq 0 0 c3 h1 rfl
    refine g_iconst 0 7 (gd rfl) rfl rfl ?_
    refine g_goto 16 (gd rfl) rfl ?_
    refine g_istore_n 17 (gd rfl) rfl (Nat.le_of_ble_eq_true rfl) ?_
    have n17 : ((Int32.ofInt 0)).toInt ≤ ((Int32.ofInt 0)).toInt := by exact Int.le_refl _
    have n17a : WS s x1 (Int32.ofInt 0) (Int32.ofInt 0) := by first | exact hk2 _ _ (by have a0 := oa2 i3 ((in_c 0 rfl)); omega) (by have a0 := oa2 i3 ((in_c 0 rfl)); omega) | exact ws_0 rfl (by first | exact (by decide) | exact i15.1) (by unfold wa; first | (rw [if_pos c3]; rfl) | (rw [if_neg c3, e15]; rfl))
    exact gg_w (by first | exact Nat.le_of_ble_eq_true rfl | omega) (gg_f (gf_cons rfl (gf_cons rfl (gf_cons rfl (gf_cons rfl gf_nil)))) (ct17 121 s (Int32.ofInt 0) (Int32.ofInt 0) hI fr_rf (in_w 0 120 (in_c 0 rfl) rfl) (in_w 0 120 (in_c 0 rfl) rfl) n17 n17a (m_in 121 (in_w 0 120 (in_c 0 rfl) rfl) rfl)))

def fm_409 : FM := ([], [191, 192, 193, 194], [(109, 0), (109, 113), (109, 116), (109, 117), (109, 118)], [(109, 121)])
/-- GraphHouseModel.run -/
theorem k_409 {Z : AmZ} {A : Nat → Nat} {s : GS} {ex : va_W} {d : Nat} {X : AmX} {x1 : Int32} {x2 : Int32} {x3 : Int32} {x4 : Int64} (hd : 4 ≤ d) (hI : Inv s)  : GC Z d 409 [.ref (A 109), .int x1, .int x2, .int x3, .long x4] (WW Z A s ++ ex) 0 0 (fun v u => ∃ t : GS, Inv t ∧ Fr fm_409 s t ∧ ∃ z : Int32, v = some (.int z) ∧ u = WW Z A t ++ ex ∧ In z 0 200) X := by
  intro post xp hP hX
  obtain ⟨u_109_20, e_109_20⟩ : ∃ w, w = s.2.2.1 109 20 := ⟨_, rfl⟩
  have ro_109_20 := inv_F hI 0 32 rfl e_109_20
  have ct179 : ∀ (k179 : Nat) (sc179 : GS) (y179_6 : Int32) (y179_7 : Int32), Inv sc179 → Fr fm_409 s sc179 → (In x1 0 200) → (In x2 1 4) → (In x3 0 90) → (In y179_6 0 200) → (In y179_7 0 1) → 200 - (y179_6).toInt < (k179 : Int) → GG Z (d - 1) 409 post (gx xp) (1 + k179 * 63902) 179 (fun j => xlook j [(0, .ref (A 109)), (1, .int x1), (2, .int x2), (3, .int x3), (4, .long x4), (6, .int y179_6), (7, .int y179_7)]) [] (WW Z A sc179 ++ ex) 0 0 := by
    intro k179
    induction k179 with
    | zero => intro sc179 y179_6 y179_7 hIc179 hFc179 j179_1 j179_2 j179_3 j179_6 j179_7 mm179; exfalso; have a0 := j179_3; unfold In at a0; have a1 := j179_2; unfold In at a1; have a2 := j179_1; unfold In at a2; have a3 := in_u ro_109_20; have a4 := j179_7; unfold In at a4; have a5 := j179_6; unfold In at a5; omega
    | succ k179 ih179 =>
      intro sc179 y179_6 y179_7 hIc179 hFc179 j179_1 j179_2 j179_3 j179_6 j179_7 mm179
      refine gg_w (M := 1 + k179 * 63902 + 63902) gws ?_
      have ct275 : ∀ (k275 : Nat) (sc275 : GS) (y275_6 : Int32) (y275_7 : Int32) (y275_8 : Int32), Inv sc275 → Fr fm_409 s sc275 → (In x1 1 200) → (In y275_6 1 200) → (In y275_7 0 1) → (In y275_8 0 32) → ((y275_6).toInt = y179_6.toInt + 1) → 32 - (y275_8).toInt < (k275 : Int) → GG Z (d - 1) 409 post (gx xp) (1 + k179 * 63902 + 1 + k275 * 900) 275 (fun j => xlook j [(0, .ref (A 109)), (1, .int x1), (2, .int x2), (3, .int x3), (4, .long x4), (6, .int y275_6), (7, .int y275_7), (8, .int y275_8)]) [] (WW Z A sc275 ++ ex) 0 0 := by
        intro k275
        induction k275 with
        | zero => intro sc275 y275_6 y275_7 y275_8 hIc275 hFc275 j275_1 j275_6 j275_7 j275_8 n275_0 mm275; exact m_no mm275 j275_8 rfl
        | succ k275 ih275 =>
          intro sc275 y275_6 y275_7 y275_8 hIc275 hFc275 j275_1 j275_6 j275_7 j275_8 n275_0 mm275
          refine gg_w (M := 1 + k179 * 63902 + 1 + k275 * 900 + 900) gws ?_
          refine g_iload 277 (gd rfl) rfl rfl ?_
          refine g_aload_n 278 (gd rfl) rfl rfl ?_
          refine g_getI 281 (gd rfl) rfl rfl rfl (fun z278 e278 => ?_)
          have q278 : u_109_20 = z278 := (fr_F e_109_20 hFc275 rfl).trans e278.symm
          subst q278
          refine g_cmp_ge 284 304 (gd rfl) rfl rfl (fun c281 => ?_) (fun c281 => ?_)
          · skip
            refine g_goto 179 (gd rfl) rfl ?_
            have m179 : 200 - (y275_6).toInt < ((k179 : Nat) : Int) := by have a0 := oa7 j179_3 j179_2 j275_1 ro_109_20 j275_8 j275_7 j275_6; omega
            exact gg_w (by first | exact Nat.le_add_right _ _ | exact gw2 | exact gw3 | exact gwe rfl | exact gwf rfl | exact gwg rfl | exact gwh rfl | omega) (gg_f (gf_cons rfl (gf_cons rfl (gf_cons rfl (gf_cons rfl (gf_cons rfl (gf_cons rfl (gf_cons rfl gf_nil))))))) (ih179  sc275 y275_6 y275_7 hIc275 hFc275 (in_w 0 200 j275_1 rfl) (in_w 1 4 j179_2 rfl) (in_w 0 90 j179_3 rfl) (in_w 0 200 j275_6 rfl) (in_w 0 1 j275_7 rfl) m179))
          · skip
            have i281 := r_lt1 0 31 c281 j275_8 ro_109_20 rfl
            have i281a := r_lt2 1 32 c281 j275_8 ro_109_20 rfl
            refine g_aload_n 285 (gd rfl) rfl rfl ?_
            refine g_getA (q2 := 191) 288 (gd rfl) rfl rfl rfl rfl ?_
            refine g_iload 290 (gd rfl) rfl rfl ?_
            refine g_aload_n 291 (gd rfl) rfl rfl ?_
            refine g_getA (q2 := 192) 294 (gd rfl) rfl rfl rfl rfl ?_
            refine g_iload 296 (gd rfl) rfl rfl ?_
            refine g_laload 297 (gd rfl) rfl (n := 32) rfl (in_ix i281 rfl) (fun z296 e296 => ?_)
            refine g_lastore 298 (gd rfl) rfl (n := 32) rfl (in_ix i281 rfl) ?_
            have hI297 := inv_sL (q := 191) (j := y275_8.toNatClampNeg) (x := z296) hIc275 rfl (l_rng z296)
            refine g_iinc 301 (gd rfl) rfl rfl (Nat.le_of_ble_eq_true rfl) (fun z298 e298 => ?_)
            have i298 := in_add 1 32 e298 i281 (in_c 1 rfl) rfl rfl
            refine g_goto 275 (gd rfl) rfl ?_
            have n275 : (y275_6).toInt = y179_6.toInt + 1 := by first | exact n275_0 | (have a0 := oa8 j179_3 j179_2 j275_1 i281a i281 j275_7 j275_6 i298; have a8 := t_add e298 i281 (in_c 1 rfl) rfl; have a9 := in_u ((in_c 1 rfl)); omega)
            exact gg_w (by first | exact Nat.le_add_right _ _ | exact gw2 | exact gw3 | exact gwe rfl | exact gwf rfl | exact gwg rfl | exact gwh rfl | omega) (gg_f (gf_cons rfl (gf_cons rfl (gf_cons rfl (gf_cons rfl (gf_cons rfl (gf_cons rfl (gf_cons rfl (gf_cons rfl gf_nil)))))))) (ih275 (sL sc275 191 y275_8.toNatClampNeg z296) y275_6 y275_7 z298 hI297 (fr_sL rfl hFc275) (in_w 1 200 j275_1 rfl) (in_w 1 200 j275_6 rfl) (in_w 0 1 j275_7 rfl) (in_w 0 32 i298 rfl) n275 (m_up mm275 (t_add e298 i281 (in_c 1 rfl) rfl) (in_w 1 1 (in_c 1 rfl) rfl))))
      have ct207 : ∀ (k207 : Nat) (sc207 : GS) (y207_6 : Int32) (y207_7 : Int32) (y207_8 : Int32), Inv sc207 → Fr fm_409 s sc207 → (In x1 1 200) → (In y207_6 1 200) → (In y207_7 0 1) → (In y207_8 0 32) → ((y207_6).toInt = y179_6.toInt + 1) → 32 - (y207_8).toInt < (k207 : Int) → GG Z (d - 1) 409 post (gx xp) (1 + k179 * 63902 + 29702 + k207 * 900) 207 (fun j => xlook j [(0, .ref (A 109)), (1, .int x1), (2, .int x2), (3, .int x3), (4, .long x4), (6, .int y207_6), (7, .int y207_7), (8, .int y207_8)]) [] (WW Z A sc207 ++ ex) 0 0 := by
        intro k207
        induction k207 with
        | zero => intro sc207 y207_6 y207_7 y207_8 hIc207 hFc207 j207_1 j207_6 j207_7 j207_8 n207_0 mm207; exact m_no mm207 j207_8 rfl
        | succ k207 ih207 =>
          intro sc207 y207_6 y207_7 y207_8 hIc207 hFc207 j207_1 j207_6 j207_7 j207_8 n207_0 mm207
          refine gg_w (M := 1 + k179 * 63902 + 29702 + k207 * 900 + 900) gws ?_
          refine g_iload 209 (gd rfl) rfl rfl ?_
          refine g_aload_n 210 (gd rfl) rfl rfl ?_
          refine g_getI 213 (gd rfl) rfl rfl rfl (fun z210 e210 => ?_)
          have q210 : u_109_20 = z210 := (fr_F e_109_20 hFc207 rfl).trans e210.symm
          subst q210
          refine g_cmp_ge 216 272 (gd rfl) rfl rfl (fun c213 => ?_) (fun c213 => ?_)
          · skip
            refine g_iconst 0 273 (gd rfl) rfl rfl ?_
            refine g_istore 275 (gd rfl) rfl (Nat.le_of_ble_eq_true rfl) ?_
            have n275 : (y207_6).toInt = y179_6.toInt + 1 := by first | exact n207_0 | (have a0 := oa8 j179_3 j179_2 j207_1 ro_109_20 j207_8 j207_7 j207_6 ((in_c 0 rfl)); omega)
            exact gg_w (by first | exact Nat.le_add_right _ _ | exact gw2 | exact gw3 | exact gwe rfl | exact gwf rfl | exact gwg rfl | exact gwh rfl | omega) (gg_f (gf_cons rfl (gf_cons rfl (gf_cons rfl (gf_cons rfl (gf_cons rfl (gf_cons rfl (gf_cons rfl (gf_cons rfl gf_nil)))))))) (ct275 33 sc207 y207_6 y207_7 (Int32.ofInt 0) hIc207 hFc207 (in_w 1 200 j207_1 rfl) (in_w 1 200 j207_6 rfl) (in_w 0 1 j207_7 rfl) (in_w 0 32 (in_c 0 rfl) rfl) n275 (m_in 33 (in_w 0 32 (in_c 0 rfl) rfl) rfl)))
          · skip
            have i213 := r_lt1 0 31 c213 j207_8 ro_109_20 rfl
            have i213a := r_lt2 1 32 c213 j207_8 ro_109_20 rfl
            refine g_aload_n 217 (gd rfl) rfl rfl ?_
            refine g_iload 219 (gd rfl) rfl rfl ?_
            refine g_iload 221 (gd rfl) rfl rfl ?_
            refine g_callv (X := _) (As := [.int y207_8, .int y207_6]) (r := []) (b := A 109) (q := 109) 224 (gd rfl) rfl rfl rfl rfl rfl (ww_o rfl) (Nat.le_of_ble_eq_true rfl) (Nat.zero_le _) (Nat.zero_le _) (k_407 (by first | exact dq1 hd rfl | exact dq0 hd rfl | exact dq2 hd rfl | exact dq3 hd rfl | omega) hIc207 (in_w 0 31 i213 rfl) (in_w 0 200 j207_6 rfl)) (fun e u h => h) (fun v u h => ?_)
            obtain ⟨s221, hI221, hF221, rfl, rfl⟩ := h
            show GG _ _ _ _ _ _ _ _ [] _ _ _
            refine g_aload_n 225 (gd rfl) rfl rfl ?_
            refine g_getA (q2 := 192) 228 (gd rfl) rfl rfl rfl rfl ?_
            refine g_iload 230 (gd rfl) rfl rfl ?_
            refine g_aload_n 231 (gd rfl) rfl rfl ?_
            refine g_iconst 1 232 (gd rfl) rfl rfl ?_
            refine g_callv (X := _) (As := [.int (Int32.ofInt 1)]) (r := [.int y207_8, .ref (A 192)]) (b := A 109) (q := 109) 235 (gd rfl) rfl rfl rfl rfl rfl (ww_o rfl) (Nat.le_of_ble_eq_true rfl) (Nat.zero_le _) (Nat.zero_le _) (k_408 (by first | exact dq1 hd rfl | exact dq0 hd rfl | exact dq2 hd rfl | exact dq3 hd rfl | omega) hI221 (in_w 0 1 (in_c 1 rfl) rfl)) (fun e u h => h) (fun v u h => ?_)
            obtain ⟨s232, hI232, hF232, z232, rfl, rfl⟩ := h
            show GG _ _ _ _ _ _ _ _ [.long z232, .int y207_8, .ref (A 192)] _ _ _
            refine g_lastore 236 (gd rfl) rfl (n := 32) rfl (in_ix i213 rfl) ?_
            have hI235 := inv_sL (q := 192) (j := y207_8.toNatClampNeg) (x := z232) hI232 rfl (l_rng z232)
            refine g_iload 238 (gd rfl) rfl rfl ?_
            refine g_if_ne 241 259 (gd rfl) rfl rfl (fun c238 => ?_) (fun c238 => ?_)
            · skip
              have i238 := z_ne 1 1 c238 j207_7 rfl
              refine g_iconst 1 260 (gd rfl) rfl rfl ?_
              refine g_goto 264 (gd rfl) rfl ?_
              refine g_istore 266 (gd rfl) rfl (Nat.le_of_ble_eq_true rfl) ?_
              refine g_iinc 269 (gd rfl) rfl rfl (Nat.le_of_ble_eq_true rfl) (fun z266 e266 => ?_)
              have i266 := in_add 1 32 e266 i213 (in_c 1 rfl) rfl rfl
              refine g_goto 207 (gd rfl) rfl ?_
              have n207 : (y207_6).toInt = y179_6.toInt + 1 := by first | exact n207_0 | (have a0 := oa8 j179_3 j179_2 j207_1 i213a i213 i238 j207_6 i266; have a8 := t_add e266 i213 (in_c 1 rfl) rfl; have a9 := in_u ((in_c 1 rfl)); omega)
              exact gg_w (by first | exact Nat.le_add_right _ _ | exact gw2 | exact gw3 | exact gwe rfl | exact gwf rfl | exact gwg rfl | exact gwh rfl | omega) (gg_f (gf_cons rfl (gf_cons rfl (gf_cons rfl (gf_cons rfl (gf_cons rfl (gf_cons rfl (gf_cons rfl (gf_cons rfl gf_nil)))))))) (ih207 (sL s232 192 y207_8.toNatClampNeg z232) y207_6 (Int32.ofInt 1) z266 hI235 (fr_sL rfl (fr_tr rfl (fr_tr rfl hFc207 hF221) hF232)) (in_w 1 200 j207_1 rfl) (in_w 1 200 j207_6 rfl) (in_w 0 1 (in_c 1 rfl) rfl) (in_w 0 32 i266 rfl) n207 (m_up mm207 (t_add e266 i213 (in_c 1 rfl) rfl) (in_w 1 1 (in_c 1 rfl) rfl))))
            · skip
              have i238 := z_eq 0 0 c238 j207_7 rfl
              refine g_aload_n 242 (gd rfl) rfl rfl ?_
              refine g_getA (q2 := 192) 245 (gd rfl) rfl rfl rfl rfl ?_
              refine g_iload 247 (gd rfl) rfl rfl ?_
              refine g_laload 248 (gd rfl) rfl (n := 32) rfl (in_ix i213 rfl) (fun z247 e247 => ?_)
              refine g_aload_n 249 (gd rfl) rfl rfl ?_
              refine g_getA (q2 := 191) 252 (gd rfl) rfl rfl rfl rfl ?_
              refine g_iload 254 (gd rfl) rfl rfl ?_
              refine g_laload 255 (gd rfl) rfl (n := 32) rfl (in_ix i213 rfl) (fun z254 e254 => ?_)
              refine g_lcmp 256 (gd rfl) rfl (fun z255 e255 => ?_)
              have i255 := lc_in e255
              refine g_if_eq 259 263 (gd rfl) rfl rfl (fun c256 => ?_) (fun c256 => ?_)
              · skip
                have i256 := z_eq 0 0 c256 i255 rfl
                have c256a := lc_eq e255 c256
                refine g_iconst 0 264 (gd rfl) rfl rfl ?_
                refine g_istore 266 (gd rfl) rfl (Nat.le_of_ble_eq_true rfl) ?_
                refine g_iinc 269 (gd rfl) rfl rfl (Nat.le_of_ble_eq_true rfl) (fun z266 e266 => ?_)
                have i266 := in_add 1 32 e266 i213 (in_c 1 rfl) rfl rfl
                refine g_goto 207 (gd rfl) rfl ?_
                have n207 : (y207_6).toInt = y179_6.toInt + 1 := by first | exact n207_0 | (have a0 := oa8 j179_3 j179_2 j207_1 i213a i213 i238 j207_6 i266; have a8 := t_add e266 i213 (in_c 1 rfl) rfl; have a9 := oa2 ((in_c 1 rfl)) ((in_c 0 rfl)); omega)
                exact gg_w (by first | exact Nat.le_add_right _ _ | exact gw2 | exact gw3 | exact gwe rfl | exact gwf rfl | exact gwg rfl | exact gwh rfl | omega) (gg_f (gf_cons rfl (gf_cons rfl (gf_cons rfl (gf_cons rfl (gf_cons rfl (gf_cons rfl (gf_cons rfl (gf_cons rfl gf_nil)))))))) (ih207 (sL s232 192 y207_8.toNatClampNeg z232) y207_6 (Int32.ofInt 0) z266 hI235 (fr_sL rfl (fr_tr rfl (fr_tr rfl hFc207 hF221) hF232)) (in_w 1 200 j207_1 rfl) (in_w 1 200 j207_6 rfl) (in_w 0 1 (in_c 0 rfl) rfl) (in_w 0 32 i266 rfl) n207 (m_up mm207 (t_add e266 i213 (in_c 1 rfl) rfl) (in_w 1 1 (in_c 1 rfl) rfl))))
              · skip
                have c256a := lc_ne e255 c256
                refine g_iconst 1 260 (gd rfl) rfl rfl ?_
                refine g_goto 264 (gd rfl) rfl ?_
                refine g_istore 266 (gd rfl) rfl (Nat.le_of_ble_eq_true rfl) ?_
                refine g_iinc 269 (gd rfl) rfl rfl (Nat.le_of_ble_eq_true rfl) (fun z266 e266 => ?_)
                have i266 := in_add 1 32 e266 i213 (in_c 1 rfl) rfl rfl
                refine g_goto 207 (gd rfl) rfl ?_
                have n207 : (y207_6).toInt = y179_6.toInt + 1 := by first | exact n207_0 | (have a0 := oa8 j179_3 j179_2 j207_1 i213a i213 i238 j207_6 i266; have a8 := t_add e266 i213 (in_c 1 rfl) rfl; have a9 := in_u ((in_c 1 rfl)); omega)
                exact gg_w (by first | exact Nat.le_add_right _ _ | exact gw2 | exact gw3 | exact gwe rfl | exact gwf rfl | exact gwg rfl | exact gwh rfl | omega) (gg_f (gf_cons rfl (gf_cons rfl (gf_cons rfl (gf_cons rfl (gf_cons rfl (gf_cons rfl (gf_cons rfl (gf_cons rfl gf_nil)))))))) (ih207 (sL s232 192 y207_8.toNatClampNeg z232) y207_6 (Int32.ofInt 1) z266 hI235 (fr_sL rfl (fr_tr rfl (fr_tr rfl hFc207 hF221) hF232)) (in_w 1 200 j207_1 rfl) (in_w 1 200 j207_6 rfl) (in_w 0 1 (in_c 1 rfl) rfl) (in_w 0 32 i266 rfl) n207 (m_up mm207 (t_add e266 i213 (in_c 1 rfl) rfl) (in_w 1 1 (in_c 1 rfl) rfl))))
      refine g_iload 181 (gd rfl) rfl rfl ?_
      refine g_if_eq 184 307 (gd rfl) rfl rfl (fun c181 => ?_) (fun c181 => ?_)
      · skip
        have i181 := z_eq 0 0 c181 j179_7 rfl
        refine g_iload 309 (gd rfl) rfl rfl ?_
        exact g_ireturn (gd rfl) rfl rfl (hP _ _ ⟨sc179, hIc179, hFc179, y179_6, rfl, rfl, in_w 0 200 j179_6 rfl⟩)
      · skip
        have i181 := z_ne 1 1 c181 j179_7 rfl
        refine g_iload 186 (gd rfl) rfl rfl ?_
        refine g_iload_n 187 (gd rfl) rfl rfl ?_
        refine g_cmp_ge 190 307 (gd rfl) rfl rfl (fun c187 => ?_) (fun c187 => ?_)
        · skip
          refine g_iload 309 (gd rfl) rfl rfl ?_
          exact g_ireturn (gd rfl) rfl rfl (hP _ _ ⟨sc179, hIc179, hFc179, y179_6, rfl, rfl, in_w 0 200 j179_6 rfl⟩)
        · skip
          have i187 := r_lt1 0 199 c187 j179_6 j179_1 rfl
          have i187a := r_lt2 1 200 c187 j179_6 j179_1 rfl
          refine g_iinc 193 (gd rfl) rfl rfl (Nat.le_of_ble_eq_true rfl) (fun z190 e190 => ?_)
          have i190 := in_add 1 200 e190 i187 (in_c 1 rfl) rfl rfl
          refine g_aload_n 194 (gd rfl) rfl rfl ?_
          refine g_iload_n 195 (gd rfl) rfl rfl ?_
          refine g_iload_n 196 (gd rfl) rfl rfl ?_
          refine g_lload 198 (gd rfl) rfl rfl ?_
          refine g_callv (X := _) (As := [.int x2, .int x3, .long x4]) (r := []) (b := A 109) (q := 109) 201 (gd rfl) rfl rfl rfl rfl rfl (ww_o rfl) (Nat.le_of_ble_eq_true rfl) (Nat.zero_le _) (Nat.zero_le _) (k_411 (by first | exact dq1 hd rfl | exact dq0 hd rfl | exact dq2 hd rfl | exact dq3 hd rfl | omega) hIc179 (in_w 1 4 j179_2 rfl) (in_w 0 90 j179_3 rfl)) (fun e u h => h) (fun v u h => ?_)
          obtain ⟨s198, hI198, hF198, rfl, rfl⟩ := h
          show GG _ _ _ _ _ _ _ _ [] _ _ _
          refine g_iconst 0 202 (gd rfl) rfl rfl ?_
          refine g_istore 204 (gd rfl) rfl (Nat.le_of_ble_eq_true rfl) ?_
          refine g_iconst 0 205 (gd rfl) rfl rfl ?_
          refine g_istore 207 (gd rfl) rfl (Nat.le_of_ble_eq_true rfl) ?_
          have n207 : (z190).toInt = y179_6.toInt + 1 := by have a0 := oa8 j179_3 j179_2 i187a ro_109_20 i181 i187 ((in_c 0 rfl)) i190; have a8 := t_add e190 i187 (in_c 1 rfl) rfl; have a9 := in_u ((in_c 1 rfl)); omega
          exact gg_w (by first | exact Nat.le_add_right _ _ | exact gw2 | exact gw3 | exact gwe rfl | exact gwf rfl | exact gwg rfl | exact gwh rfl | omega) (gg_f (gf_cons rfl (gf_cons rfl (gf_cons rfl (gf_cons rfl (gf_cons rfl (gf_cons rfl (gf_cons rfl (gf_cons rfl gf_nil)))))))) (ct207 33 s198 z190 (Int32.ofInt 0) (Int32.ofInt 0) hI198 (fr_tr rfl hFc179 hF198) (in_w 1 200 i187a rfl) (in_w 1 200 i190 rfl) (in_w 0 1 (in_c 0 rfl) rfl) (in_w 0 32 (in_c 0 rfl) rfl) n207 (m_in 33 (in_w 0 32 (in_c 0 rfl) rfl) rfl)))
  have ct144 : ∀ (k144 : Nat) (sc144 : GS) (y144_6 : Int32), Inv sc144 → Fr fm_409 s sc144 → (In x1 0 200) → (In x2 1 4) → (In x3 0 90) → (In y144_6 0 32) → 32 - (y144_6).toInt < (k144 : Int) → GG Z (d - 1) 409 post (gx xp) (12844304 + k144 * 900) 144 (fun j => xlook j [(0, .ref (A 109)), (1, .int x1), (2, .int x2), (3, .int x3), (4, .long x4), (6, .int y144_6)]) [] (WW Z A sc144 ++ ex) 0 0 := by
    intro k144
    induction k144 with
    | zero => intro sc144 y144_6 hIc144 hFc144 j144_1 j144_2 j144_3 j144_6 mm144; exact m_no mm144 j144_6 rfl
    | succ k144 ih144 =>
      intro sc144 y144_6 hIc144 hFc144 j144_1 j144_2 j144_3 j144_6 mm144
      refine gg_w (M := 12844304 + k144 * 900 + 900) gws ?_
      refine g_iload 146 (gd rfl) rfl rfl ?_
      refine g_aload_n 147 (gd rfl) rfl rfl ?_
      refine g_getI 150 (gd rfl) rfl rfl rfl (fun z147 e147 => ?_)
      have q147 : u_109_20 = z147 := (fr_F e_109_20 hFc144 rfl).trans e147.symm
      subst q147
      refine g_cmp_ge 153 173 (gd rfl) rfl rfl (fun c150 => ?_) (fun c150 => ?_)
      · skip
        refine g_iconst 0 174 (gd rfl) rfl rfl ?_
        refine g_istore 176 (gd rfl) rfl (Nat.le_of_ble_eq_true rfl) ?_
        refine g_iconst 1 177 (gd rfl) rfl rfl ?_
        refine g_istore 179 (gd rfl) rfl (Nat.le_of_ble_eq_true rfl) ?_
        have m179 : 200 - ((Int32.ofInt 0)).toInt < ((201 : Nat) : Int) := by have a0 := oa7 j144_3 j144_2 j144_1 ro_109_20 j144_6 ((in_c 1 rfl)) ((in_c 0 rfl)); omega
        exact gg_w (by first | exact Nat.le_add_right _ _ | exact gw2 | exact gw3 | exact gwe rfl | exact gwf rfl | exact gwg rfl | exact gwh rfl | omega) (gg_f (gf_cons rfl (gf_cons rfl (gf_cons rfl (gf_cons rfl (gf_cons rfl (gf_cons rfl (gf_cons rfl gf_nil))))))) (ct179 201 sc144 (Int32.ofInt 0) (Int32.ofInt 1) hIc144 hFc144 (in_w 0 200 j144_1 rfl) (in_w 1 4 j144_2 rfl) (in_w 0 90 j144_3 rfl) (in_w 0 200 (in_c 0 rfl) rfl) (in_w 0 1 (in_c 1 rfl) rfl) m179))
      · skip
        have i150 := r_lt1 0 31 c150 j144_6 ro_109_20 rfl
        have i150a := r_lt2 1 32 c150 j144_6 ro_109_20 rfl
        refine g_aload_n 154 (gd rfl) rfl rfl ?_
        refine g_getA (q2 := 191) 157 (gd rfl) rfl rfl rfl rfl ?_
        refine g_iload 159 (gd rfl) rfl rfl ?_
        refine g_aload_n 160 (gd rfl) rfl rfl ?_
        refine g_getA (q2 := 192) 163 (gd rfl) rfl rfl rfl rfl ?_
        refine g_iload 165 (gd rfl) rfl rfl ?_
        refine g_laload 166 (gd rfl) rfl (n := 32) rfl (in_ix i150 rfl) (fun z165 e165 => ?_)
        refine g_lastore 167 (gd rfl) rfl (n := 32) rfl (in_ix i150 rfl) ?_
        have hI166 := inv_sL (q := 191) (j := y144_6.toNatClampNeg) (x := z165) hIc144 rfl (l_rng z165)
        refine g_iinc 170 (gd rfl) rfl rfl (Nat.le_of_ble_eq_true rfl) (fun z167 e167 => ?_)
        have i167 := in_add 1 32 e167 i150 (in_c 1 rfl) rfl rfl
        refine g_goto 144 (gd rfl) rfl ?_
        exact gg_w (by first | exact Nat.le_add_right _ _ | exact gw2 | exact gw3 | exact gwe rfl | exact gwf rfl | exact gwg rfl | exact gwh rfl | omega) (gg_f (gf_cons rfl (gf_cons rfl (gf_cons rfl (gf_cons rfl (gf_cons rfl (gf_cons rfl gf_nil)))))) (ih144 (sL sc144 191 y144_6.toNatClampNeg z165) z167 hI166 (fr_sL rfl hFc144) (in_w 0 200 j144_1 rfl) (in_w 1 4 j144_2 rfl) (in_w 0 90 j144_3 rfl) (in_w 0 32 i167 rfl) (m_up mm144 (t_add e167 i150 (in_c 1 rfl) rfl) (in_w 1 1 (in_c 1 rfl) rfl))))
  have ct107 : ∀ (k107 : Nat) (sc107 : GS) (y107_6 : Int32), Inv sc107 → Fr fm_409 s sc107 → (In x1 0 200) → (In x2 1 4) → (In x3 0 90) → (In y107_6 0 32) → 32 - (y107_6).toInt < (k107 : Int) → GG Z (d - 1) 409 post (gx xp) (12874005 + k107 * 900) 107 (fun j => xlook j [(0, .ref (A 109)), (1, .int x1), (2, .int x2), (3, .int x3), (4, .long x4), (6, .int y107_6)]) [] (WW Z A sc107 ++ ex) 0 0 := by
    intro k107
    induction k107 with
    | zero => intro sc107 y107_6 hIc107 hFc107 j107_1 j107_2 j107_3 j107_6 mm107; exact m_no mm107 j107_6 rfl
    | succ k107 ih107 =>
      intro sc107 y107_6 hIc107 hFc107 j107_1 j107_2 j107_3 j107_6 mm107
      refine gg_w (M := 12874005 + k107 * 900 + 900) gws ?_
      refine g_iload 109 (gd rfl) rfl rfl ?_
      refine g_aload_n 110 (gd rfl) rfl rfl ?_
      refine g_getI 113 (gd rfl) rfl rfl rfl (fun z110 e110 => ?_)
      have q110 : u_109_20 = z110 := (fr_F e_109_20 hFc107 rfl).trans e110.symm
      subst q110
      refine g_cmp_ge 116 141 (gd rfl) rfl rfl (fun c113 => ?_) (fun c113 => ?_)
      · skip
        refine g_iconst 0 142 (gd rfl) rfl rfl ?_
        refine g_istore 144 (gd rfl) rfl (Nat.le_of_ble_eq_true rfl) ?_
        exact gg_w (by first | exact Nat.le_add_right _ _ | exact gw2 | exact gw3 | exact gwe rfl | exact gwf rfl | exact gwg rfl | exact gwh rfl | omega) (gg_f (gf_cons rfl (gf_cons rfl (gf_cons rfl (gf_cons rfl (gf_cons rfl (gf_cons rfl gf_nil)))))) (ct144 33 sc107 (Int32.ofInt 0) hIc107 hFc107 (in_w 0 200 j107_1 rfl) (in_w 1 4 j107_2 rfl) (in_w 0 90 j107_3 rfl) (in_w 0 32 (in_c 0 rfl) rfl) (m_in 33 (in_w 0 32 (in_c 0 rfl) rfl) rfl)))
      · skip
        have i113 := r_lt1 0 31 c113 j107_6 ro_109_20 rfl
        have i113a := r_lt2 1 32 c113 j107_6 ro_109_20 rfl
        refine g_aload_n 117 (gd rfl) rfl rfl ?_
        refine g_iload 119 (gd rfl) rfl rfl ?_
        refine g_iconst 0 120 (gd rfl) rfl rfl ?_
        refine g_callv (X := _) (As := [.int y107_6, .int (Int32.ofInt 0)]) (r := []) (b := A 109) (q := 109) 123 (gd rfl) rfl rfl rfl rfl rfl (ww_o rfl) (Nat.le_of_ble_eq_true rfl) (Nat.zero_le _) (Nat.zero_le _) (k_407 (by first | exact dq1 hd rfl | exact dq0 hd rfl | exact dq2 hd rfl | exact dq3 hd rfl | omega) hIc107 (in_w 0 31 i113 rfl) (in_w 0 200 (in_c 0 rfl) rfl)) (fun e u h => h) (fun v u h => ?_)
        obtain ⟨s120, hI120, hF120, rfl, rfl⟩ := h
        show GG _ _ _ _ _ _ _ _ [] _ _ _
        refine g_aload_n 124 (gd rfl) rfl rfl ?_
        refine g_getA (q2 := 192) 127 (gd rfl) rfl rfl rfl rfl ?_
        refine g_iload 129 (gd rfl) rfl rfl ?_
        refine g_aload_n 130 (gd rfl) rfl rfl ?_
        refine g_iconst 0 131 (gd rfl) rfl rfl ?_
        refine g_callv (X := _) (As := [.int (Int32.ofInt 0)]) (r := [.int y107_6, .ref (A 192)]) (b := A 109) (q := 109) 134 (gd rfl) rfl rfl rfl rfl rfl (ww_o rfl) (Nat.le_of_ble_eq_true rfl) (Nat.zero_le _) (Nat.zero_le _) (k_408 (by first | exact dq1 hd rfl | exact dq0 hd rfl | exact dq2 hd rfl | exact dq3 hd rfl | omega) hI120 (in_w 0 1 (in_c 0 rfl) rfl)) (fun e u h => h) (fun v u h => ?_)
        obtain ⟨s131, hI131, hF131, z131, rfl, rfl⟩ := h
        show GG _ _ _ _ _ _ _ _ [.long z131, .int y107_6, .ref (A 192)] _ _ _
        refine g_lastore 135 (gd rfl) rfl (n := 32) rfl (in_ix i113 rfl) ?_
        have hI134 := inv_sL (q := 192) (j := y107_6.toNatClampNeg) (x := z131) hI131 rfl (l_rng z131)
        refine g_iinc 138 (gd rfl) rfl rfl (Nat.le_of_ble_eq_true rfl) (fun z135 e135 => ?_)
        have i135 := in_add 1 32 e135 i113 (in_c 1 rfl) rfl rfl
        refine g_goto 107 (gd rfl) rfl ?_
        exact gg_w (by first | exact Nat.le_add_right _ _ | exact gw2 | exact gw3 | exact gwe rfl | exact gwf rfl | exact gwg rfl | exact gwh rfl | omega) (gg_f (gf_cons rfl (gf_cons rfl (gf_cons rfl (gf_cons rfl (gf_cons rfl (gf_cons rfl gf_nil)))))) (ih107 (sL s131 192 y107_6.toNatClampNeg z131) z135 hI134 (fr_sL rfl (fr_tr rfl (fr_tr rfl hFc107 hF120) hF131)) (in_w 0 200 j107_1 rfl) (in_w 1 4 j107_2 rfl) (in_w 0 90 j107_3 rfl) (in_w 0 32 i135 rfl) (m_up mm107 (t_add e135 i113 (in_c 1 rfl) rfl) (in_w 1 1 (in_c 1 rfl) rfl))))
  have ct81 : ∀ (k81 : Nat) (sc81 : GS) (y81_6 : Int32), Inv sc81 → Fr fm_409 s sc81 → (In x1 0 200) → (In x2 1 4) → (In x3 0 90) → (In y81_6 0 32) → 32 - (y81_6).toInt < (k81 : Int) → GG Z (d - 1) 409 post (gx xp) (12903706 + k81 * 900) 81 (fun j => xlook j [(0, .ref (A 109)), (1, .int x1), (2, .int x2), (3, .int x3), (4, .long x4), (6, .int y81_6)]) [] (WW Z A sc81 ++ ex) 0 0 := by
    intro k81
    induction k81 with
    | zero => intro sc81 y81_6 hIc81 hFc81 j81_1 j81_2 j81_3 j81_6 mm81; exact m_no mm81 j81_6 rfl
    | succ k81 ih81 =>
      intro sc81 y81_6 hIc81 hFc81 j81_1 j81_2 j81_3 j81_6 mm81
      refine gg_w (M := 12903706 + k81 * 900 + 900) gws ?_
      refine g_iload 83 (gd rfl) rfl rfl ?_
      refine g_aload_n 84 (gd rfl) rfl rfl ?_
      refine g_getI 87 (gd rfl) rfl rfl rfl (fun z84 e84 => ?_)
      have q84 : u_109_20 = z84 := (fr_F e_109_20 hFc81 rfl).trans e84.symm
      subst q84
      refine g_cmp_ge 90 104 (gd rfl) rfl rfl (fun c87 => ?_) (fun c87 => ?_)
      · skip
        refine g_iconst 0 105 (gd rfl) rfl rfl ?_
        refine g_istore 107 (gd rfl) rfl (Nat.le_of_ble_eq_true rfl) ?_
        exact gg_w (by first | exact Nat.le_add_right _ _ | exact gw2 | exact gw3 | exact gwe rfl | exact gwf rfl | exact gwg rfl | exact gwh rfl | omega) (gg_f (gf_cons rfl (gf_cons rfl (gf_cons rfl (gf_cons rfl (gf_cons rfl (gf_cons rfl gf_nil)))))) (ct107 33 sc81 (Int32.ofInt 0) hIc81 hFc81 (in_w 0 200 j81_1 rfl) (in_w 1 4 j81_2 rfl) (in_w 0 90 j81_3 rfl) (in_w 0 32 (in_c 0 rfl) rfl) (m_in 33 (in_w 0 32 (in_c 0 rfl) rfl) rfl)))
      · skip
        have i87 := r_lt1 0 31 c87 j81_6 ro_109_20 rfl
        have i87a := r_lt2 1 32 c87 j81_6 ro_109_20 rfl
        refine g_aload_n 91 (gd rfl) rfl rfl ?_
        refine g_getA (q2 := 191) 94 (gd rfl) rfl rfl rfl rfl ?_
        refine g_iload 96 (gd rfl) rfl rfl ?_
        refine g_lconst 0 97 (gd rfl) rfl rfl ?_
        refine g_lastore 98 (gd rfl) rfl (n := 32) rfl (in_ix i87 rfl) ?_
        have hI97 := inv_sL (q := 191) (j := y81_6.toNatClampNeg) (x := (Int64.ofInt 0)) hIc81 rfl (l_rng (Int64.ofInt 0))
        refine g_iinc 101 (gd rfl) rfl rfl (Nat.le_of_ble_eq_true rfl) (fun z98 e98 => ?_)
        have i98 := in_add 1 32 e98 i87 (in_c 1 rfl) rfl rfl
        refine g_goto 81 (gd rfl) rfl ?_
        exact gg_w (by first | exact Nat.le_add_right _ _ | exact gw2 | exact gw3 | exact gwe rfl | exact gwf rfl | exact gwg rfl | exact gwh rfl | omega) (gg_f (gf_cons rfl (gf_cons rfl (gf_cons rfl (gf_cons rfl (gf_cons rfl (gf_cons rfl gf_nil)))))) (ih81 (sL sc81 191 y81_6.toNatClampNeg (Int64.ofInt 0)) z98 hI97 (fr_sL rfl hFc81) (in_w 0 200 j81_1 rfl) (in_w 1 4 j81_2 rfl) (in_w 0 90 j81_3 rfl) (in_w 0 32 i98 rfl) (m_up mm81 (t_add e98 i87 (in_c 1 rfl) rfl) (in_w 1 1 (in_c 1 rfl) rfl))))
  refine g_enter2 (k := 409) (N := 12934306) (by first | exact dq1 hd rfl | exact dq0 hd rfl | exact dq2 hd rfl | exact dq3 hd rfl | omega) rfl (Nat.le_of_ble_eq_true rfl) ?_
  refine g_aload_n 1 (gd rfl) rfl rfl ?_
  refine g_iload_n 2 (gd rfl) rfl rfl ?_
  refine g_i2l 3 (gd rfl) rfl (fun z2 e2 => ?_)
  have i2 := l_i e2 (i_rng x1)
  refine g_lconst 0 4 (gd rfl) rfl rfl ?_
  refine g_ldc2_w 200 7 (gd rfl) rfl rfl ?_
  refine g_calls (As := [.long z2, .long (Int64.ofInt 0), .long (Int64.ofInt 200)]) (r := [.ref (A 109)]) 10 (gd rfl) rfl rfl rfl rfl rfl (Nat.le_of_ble_eq_true rfl) (mc := 0) (ms := 0) (Nat.zero_le _) (Nat.zero_le _) (P := fun v u => _) ?_ (fun v u h => h)
  intro po7 xx7 hp7 hx7
  refine g_enter2 (k := 269) (N := 300) (by first | exact dq1 hd rfl | exact dq0 hd rfl | exact dq2 hd rfl | exact dq3 hd rfl | omega) rfl (Nat.le_of_ble_eq_true rfl) ?_
  refine g_lload_n 1 (gd rfl) rfl rfl ?_
  refine g_lload_n 2 (gd rfl) rfl rfl ?_
  refine g_lcmp 3 (gd rfl) rfl (fun z7x2 e7x2 => ?_)
  have i7x2 := lc_in e7x2
  refine g_if_lt 6 17 (gd rfl) rfl rfl (fun c7x3 => ?_) (fun c7x3 => ?_)
  · skip
    have i7x3 := z_lt (-1) (-1) c7x3 i7x2 rfl
    have c7x3a := lc_lt e7x2 c7x3
    have i7x3a := lr_lt1 (-2147483648) (-1) c7x3a i2 (l_c 0 rfl) rfl
    have i7x3b := l_b e2 i7x3a
    refine g_iconst 0 18 (gd rfl) rfl rfl ?_
    refine g_ireturn (gd rfl) rfl (nb01 (in_w 0 1 (in_c 0 rfl) rfl)) (hp7 _ _ ?_)
    show GG _ _ _ _ _ _ _ _ [.int (Int32.ofInt 0), .ref (A 109)] _ _ _
    refine g_if_eq 13 41 (gd rfl) rfl rfl (fun c10 => ?_) (fun c10 => ?_)
    · skip
      refine g_iconst 0 42 (gd rfl) rfl rfl ?_
      refine g_callv (X := _) (As := [.int (Int32.ofInt 0)]) (r := []) (b := A 109) (q := 109) 45 (gd rfl) rfl rfl rfl rfl rfl (ww_o rfl) (Nat.le_of_ble_eq_true rfl) (mc := 0) (ms := 0) (Nat.zero_le _) (Nat.zero_le _) (P := fun v u => _) ?_ (fun e u h => h) (fun v u h => h)
      intro po42 xx42 hp42 hx42
      refine g_enter2 (k := 271) (N := 300) (by first | exact dq1 hd rfl | exact dq0 hd rfl | exact dq2 hd rfl | exact dq3 hd rfl | omega) rfl (Nat.le_of_ble_eq_true rfl) ?_
      refine g_aload_n 1 (gd rfl) rfl rfl ?_
      refine g_iload_n 2 (gd rfl) rfl rfl ?_
      refine g_iconst 1 3 (gd rfl) rfl rfl ?_
      refine g_callv (X := _) (As := [.int (Int32.ofInt 0), .int (Int32.ofInt 1)]) (r := []) (b := A 109) (q := 109) 6 (gd rfl) rfl rfl rfl rfl rfl (ww_o rfl) (Nat.le_of_ble_eq_true rfl) (mc := 0) (ms := 0) (Nat.zero_le _) (Nat.zero_le _) (P := fun v u => _) ?_ (fun e u h => h) (fun v u h => h)
      intro po42x3 xx42x3 hp42x3 hx42x3
      refine g_enter2 (k := 270) (N := 300) (by first | exact dq1 hd rfl | exact dq0 hd rfl | exact dq2 hd rfl | exact dq3 hd rfl | omega) rfl (Nat.le_of_ble_eq_true rfl) ?_
      refine g_aload_n 1 (gd rfl) rfl rfl ?_
      refine g_iload_n 2 (gd rfl) rfl rfl ?_
      refine g_if_ne 5 9 (gd rfl) rfl rfl (fun c42x3x2 => ?_) (fun c42x3x2 => ?_)
      · skip
        exact zn_ne c42x3x2 (in_c 0 rfl) rfl
      · skip
        refine g_iconst 1 6 (gd rfl) rfl rfl ?_
        refine g_goto 18 (gd rfl) rfl ?_
        refine g_putI 21 (gd rfl) rfl rfl rfl rfl ?_
        have hI42x3x18 := inv_sF (q := 109) (j := 0) hI rfl (in_w 0 2 (in_c 1 rfl) rfl)
        refine g_aload_n 22 (gd rfl) rfl rfl ?_
        refine g_getI 25 (gd rfl) rfl rfl rfl (fun z42x3x22 e42x3x22 => ?_)
        have q42x3x22 : (Int32.ofInt 1) = z42x3x22 := (sF_get).trans e42x3x22.symm
        subst q42x3x22
        refine g_if_le 28 32 (gd rfl) rfl rfl (fun c42x3x25 => ?_) (fun c42x3x25 => ?_)
        · skip
          exact zn_le c42x3x25 (in_c 1 rfl) rfl
        · skip
          refine g_iconst 1 29 (gd rfl) rfl rfl ?_
          refine g_goto 33 (gd rfl) rfl ?_
          refine g_ireturn (gd rfl) rfl (nb01 (in_w 0 1 (in_c 1 rfl) rfl)) (hp42x3 _ _ ?_)
          show GG _ _ _ _ _ _ _ _ [.int (Int32.ofInt 1)] _ _ _
          refine g_ireturn (gd rfl) rfl (nb01 (in_w 0 1 (in_c 1 rfl) rfl)) (hp42 _ _ ?_)
          show GG _ _ _ _ _ _ _ _ [.int (Int32.ofInt 1)] _ _ _
          refine g_if_eq 48 50 (gd rfl) rfl rfl (fun c45 => ?_) (fun c45 => ?_)
          · skip
            exact zn_eq c45 (in_c 1 rfl) rfl
          · skip
            refine g_iconst 0 49 (gd rfl) rfl rfl ?_
            exact g_ireturn (gd rfl) rfl rfl (hP _ _ ⟨(sF s 109 0 (Int32.ofInt 1)), hI42x3x18, (fr_sF rfl fr_rf), (Int32.ofInt 0), rfl, rfl, in_w 0 200 (in_c 0 rfl) rfl⟩)
    · skip
      exact zn_ne c10 (in_c 0 rfl) rfl
  · skip
    have i7x3 := z_ge 0 1 c7x3 i7x2 rfl
    have c7x3a := lc_ge e7x2 c7x3
    have i7x3a := lr_le2 0 2147483647 c7x3a (l_c 0 rfl) i2 rfl
    have i7x3b := l_b e2 i7x3a
    refine g_lload_n 7 (gd rfl) rfl rfl ?_
    refine g_lload 9 (gd rfl) rfl rfl ?_
    refine g_lcmp 10 (gd rfl) rfl (fun z7x9 e7x9 => ?_)
    have i7x9 := lc_in e7x9
    refine g_if_gt 13 17 (gd rfl) rfl rfl (fun c7x10 => ?_) (fun c7x10 => ?_)
    · skip
      have i7x10 := z_gt 1 1 c7x10 i7x9 rfl
      have c7x10a := lc_gt e7x9 c7x10
      have i7x10a := lr_lt2 201 2147483647 c7x10a (l_c 200 rfl) i7x3a rfl
      have i7x10b := l_b e2 i7x10a
      refine g_iconst 0 18 (gd rfl) rfl rfl ?_
      refine g_ireturn (gd rfl) rfl (nb01 (in_w 0 1 (in_c 0 rfl) rfl)) (hp7 _ _ ?_)
      show GG _ _ _ _ _ _ _ _ [.int (Int32.ofInt 0), .ref (A 109)] _ _ _
      refine g_if_eq 13 41 (gd rfl) rfl rfl (fun c10 => ?_) (fun c10 => ?_)
      · skip
        refine g_iconst 0 42 (gd rfl) rfl rfl ?_
        refine g_callv (X := _) (As := [.int (Int32.ofInt 0)]) (r := []) (b := A 109) (q := 109) 45 (gd rfl) rfl rfl rfl rfl rfl (ww_o rfl) (Nat.le_of_ble_eq_true rfl) (mc := 0) (ms := 0) (Nat.zero_le _) (Nat.zero_le _) (P := fun v u => _) ?_ (fun e u h => h) (fun v u h => h)
        intro po42 xx42 hp42 hx42
        refine g_enter2 (k := 271) (N := 300) (by first | exact dq1 hd rfl | exact dq0 hd rfl | exact dq2 hd rfl | exact dq3 hd rfl | omega) rfl (Nat.le_of_ble_eq_true rfl) ?_
        refine g_aload_n 1 (gd rfl) rfl rfl ?_
        refine g_iload_n 2 (gd rfl) rfl rfl ?_
        refine g_iconst 1 3 (gd rfl) rfl rfl ?_
        refine g_callv (X := _) (As := [.int (Int32.ofInt 0), .int (Int32.ofInt 1)]) (r := []) (b := A 109) (q := 109) 6 (gd rfl) rfl rfl rfl rfl rfl (ww_o rfl) (Nat.le_of_ble_eq_true rfl) (mc := 0) (ms := 0) (Nat.zero_le _) (Nat.zero_le _) (P := fun v u => _) ?_ (fun e u h => h) (fun v u h => h)
        intro po42x3 xx42x3 hp42x3 hx42x3
        refine g_enter2 (k := 270) (N := 300) (by first | exact dq1 hd rfl | exact dq0 hd rfl | exact dq2 hd rfl | exact dq3 hd rfl | omega) rfl (Nat.le_of_ble_eq_true rfl) ?_
        refine g_aload_n 1 (gd rfl) rfl rfl ?_
        refine g_iload_n 2 (gd rfl) rfl rfl ?_
        refine g_if_ne 5 9 (gd rfl) rfl rfl (fun c42x3x2 => ?_) (fun c42x3x2 => ?_)
        · skip
          exact zn_ne c42x3x2 (in_c 0 rfl) rfl
        · skip
          refine g_iconst 1 6 (gd rfl) rfl rfl ?_
          refine g_goto 18 (gd rfl) rfl ?_
          refine g_putI 21 (gd rfl) rfl rfl rfl rfl ?_
          have hI42x3x18 := inv_sF (q := 109) (j := 0) hI rfl (in_w 0 2 (in_c 1 rfl) rfl)
          refine g_aload_n 22 (gd rfl) rfl rfl ?_
          refine g_getI 25 (gd rfl) rfl rfl rfl (fun z42x3x22 e42x3x22 => ?_)
          have q42x3x22 : (Int32.ofInt 1) = z42x3x22 := (sF_get).trans e42x3x22.symm
          subst q42x3x22
          refine g_if_le 28 32 (gd rfl) rfl rfl (fun c42x3x25 => ?_) (fun c42x3x25 => ?_)
          · skip
            exact zn_le c42x3x25 (in_c 1 rfl) rfl
          · skip
            refine g_iconst 1 29 (gd rfl) rfl rfl ?_
            refine g_goto 33 (gd rfl) rfl ?_
            refine g_ireturn (gd rfl) rfl (nb01 (in_w 0 1 (in_c 1 rfl) rfl)) (hp42x3 _ _ ?_)
            show GG _ _ _ _ _ _ _ _ [.int (Int32.ofInt 1)] _ _ _
            refine g_ireturn (gd rfl) rfl (nb01 (in_w 0 1 (in_c 1 rfl) rfl)) (hp42 _ _ ?_)
            show GG _ _ _ _ _ _ _ _ [.int (Int32.ofInt 1)] _ _ _
            refine g_if_eq 48 50 (gd rfl) rfl rfl (fun c45 => ?_) (fun c45 => ?_)
            · skip
              exact zn_eq c45 (in_c 1 rfl) rfl
            · skip
              refine g_iconst 0 49 (gd rfl) rfl rfl ?_
              exact g_ireturn (gd rfl) rfl rfl (hP _ _ ⟨(sF s 109 0 (Int32.ofInt 1)), hI42x3x18, (fr_sF rfl fr_rf), (Int32.ofInt 0), rfl, rfl, in_w 0 200 (in_c 0 rfl) rfl⟩)
      · skip
        exact zn_ne c10 (in_c 0 rfl) rfl
    · skip
      have i7x10 := z_le (-1) 0 c7x10 i7x9 rfl
      have c7x10a := lc_le e7x9 c7x10
      have i7x10a := lr_le1 0 200 c7x10a i7x3a (l_c 200 rfl) rfl
      have i7x10b := l_b e2 i7x10a
      refine g_iconst 1 14 (gd rfl) rfl rfl ?_
      refine g_goto 18 (gd rfl) rfl ?_
      refine g_ireturn (gd rfl) rfl (nb01 (in_w 0 1 (in_c 1 rfl) rfl)) (hp7 _ _ ?_)
      show GG _ _ _ _ _ _ _ _ [.int (Int32.ofInt 1), .ref (A 109)] _ _ _
      refine g_if_eq 13 41 (gd rfl) rfl rfl (fun c10 => ?_) (fun c10 => ?_)
      · skip
        exact zn_eq c10 (in_c 1 rfl) rfl
      · skip
        refine g_iload_n 14 (gd rfl) rfl rfl ?_
        refine g_i2l 15 (gd rfl) rfl (fun z14 e14 => ?_)
        have i14 := l_i e14 (i_rng x2)
        refine g_lconst 1 16 (gd rfl) rfl rfl ?_
        refine g_ldc2_w 4 19 (gd rfl) rfl rfl ?_
        refine g_calls (As := [.long z14, .long (Int64.ofInt 1), .long (Int64.ofInt 4)]) (r := [.ref (A 109)]) 22 (gd rfl) rfl rfl rfl rfl rfl (Nat.le_of_ble_eq_true rfl) (mc := 0) (ms := 0) (Nat.zero_le _) (Nat.zero_le _) (P := fun v u => _) ?_ (fun v u h => h)
        intro po19 xx19 hp19 hx19
        refine g_enter2 (k := 269) (N := 300) (by first | exact dq1 hd rfl | exact dq0 hd rfl | exact dq2 hd rfl | exact dq3 hd rfl | omega) rfl (Nat.le_of_ble_eq_true rfl) ?_
        refine g_lload_n 1 (gd rfl) rfl rfl ?_
        refine g_lload_n 2 (gd rfl) rfl rfl ?_
        refine g_lcmp 3 (gd rfl) rfl (fun z19x2 e19x2 => ?_)
        have i19x2 := lc_in e19x2
        refine g_if_lt 6 17 (gd rfl) rfl rfl (fun c19x3 => ?_) (fun c19x3 => ?_)
        · skip
          have i19x3 := z_lt (-1) (-1) c19x3 i19x2 rfl
          have c19x3a := lc_lt e19x2 c19x3
          have i19x3a := lr_lt1 (-2147483648) 0 c19x3a i14 (l_c 1 rfl) rfl
          have i19x3b := l_b e14 i19x3a
          refine g_iconst 0 18 (gd rfl) rfl rfl ?_
          refine g_ireturn (gd rfl) rfl (nb01 (in_w 0 1 (in_c 0 rfl) rfl)) (hp19 _ _ ?_)
          show GG _ _ _ _ _ _ _ _ [.int (Int32.ofInt 0), .ref (A 109)] _ _ _
          refine g_if_eq 25 41 (gd rfl) rfl rfl (fun c22 => ?_) (fun c22 => ?_)
          · skip
            refine g_iconst 0 42 (gd rfl) rfl rfl ?_
            refine g_callv (X := _) (As := [.int (Int32.ofInt 0)]) (r := []) (b := A 109) (q := 109) 45 (gd rfl) rfl rfl rfl rfl rfl (ww_o rfl) (Nat.le_of_ble_eq_true rfl) (mc := 0) (ms := 0) (Nat.zero_le _) (Nat.zero_le _) (P := fun v u => _) ?_ (fun e u h => h) (fun v u h => h)
            intro po42 xx42 hp42 hx42
            refine g_enter2 (k := 271) (N := 300) (by first | exact dq1 hd rfl | exact dq0 hd rfl | exact dq2 hd rfl | exact dq3 hd rfl | omega) rfl (Nat.le_of_ble_eq_true rfl) ?_
            refine g_aload_n 1 (gd rfl) rfl rfl ?_
            refine g_iload_n 2 (gd rfl) rfl rfl ?_
            refine g_iconst 1 3 (gd rfl) rfl rfl ?_
            refine g_callv (X := _) (As := [.int (Int32.ofInt 0), .int (Int32.ofInt 1)]) (r := []) (b := A 109) (q := 109) 6 (gd rfl) rfl rfl rfl rfl rfl (ww_o rfl) (Nat.le_of_ble_eq_true rfl) (mc := 0) (ms := 0) (Nat.zero_le _) (Nat.zero_le _) (P := fun v u => _) ?_ (fun e u h => h) (fun v u h => h)
            intro po42x3 xx42x3 hp42x3 hx42x3
            refine g_enter2 (k := 270) (N := 300) (by first | exact dq1 hd rfl | exact dq0 hd rfl | exact dq2 hd rfl | exact dq3 hd rfl | omega) rfl (Nat.le_of_ble_eq_true rfl) ?_
            refine g_aload_n 1 (gd rfl) rfl rfl ?_
            refine g_iload_n 2 (gd rfl) rfl rfl ?_
            refine g_if_ne 5 9 (gd rfl) rfl rfl (fun c42x3x2 => ?_) (fun c42x3x2 => ?_)
            · skip
              exact zn_ne c42x3x2 (in_c 0 rfl) rfl
            · skip
              refine g_iconst 1 6 (gd rfl) rfl rfl ?_
              refine g_goto 18 (gd rfl) rfl ?_
              refine g_putI 21 (gd rfl) rfl rfl rfl rfl ?_
              have hI42x3x18 := inv_sF (q := 109) (j := 0) hI rfl (in_w 0 2 (in_c 1 rfl) rfl)
              refine g_aload_n 22 (gd rfl) rfl rfl ?_
              refine g_getI 25 (gd rfl) rfl rfl rfl (fun z42x3x22 e42x3x22 => ?_)
              have q42x3x22 : (Int32.ofInt 1) = z42x3x22 := (sF_get).trans e42x3x22.symm
              subst q42x3x22
              refine g_if_le 28 32 (gd rfl) rfl rfl (fun c42x3x25 => ?_) (fun c42x3x25 => ?_)
              · skip
                exact zn_le c42x3x25 (in_c 1 rfl) rfl
              · skip
                refine g_iconst 1 29 (gd rfl) rfl rfl ?_
                refine g_goto 33 (gd rfl) rfl ?_
                refine g_ireturn (gd rfl) rfl (nb01 (in_w 0 1 (in_c 1 rfl) rfl)) (hp42x3 _ _ ?_)
                show GG _ _ _ _ _ _ _ _ [.int (Int32.ofInt 1)] _ _ _
                refine g_ireturn (gd rfl) rfl (nb01 (in_w 0 1 (in_c 1 rfl) rfl)) (hp42 _ _ ?_)
                show GG _ _ _ _ _ _ _ _ [.int (Int32.ofInt 1)] _ _ _
                refine g_if_eq 48 50 (gd rfl) rfl rfl (fun c45 => ?_) (fun c45 => ?_)
                · skip
                  exact zn_eq c45 (in_c 1 rfl) rfl
                · skip
                  refine g_iconst 0 49 (gd rfl) rfl rfl ?_
                  exact g_ireturn (gd rfl) rfl rfl (hP _ _ ⟨(sF s 109 0 (Int32.ofInt 1)), hI42x3x18, (fr_sF rfl fr_rf), (Int32.ofInt 0), rfl, rfl, in_w 0 200 (in_c 0 rfl) rfl⟩)
          · skip
            exact zn_ne c22 (in_c 0 rfl) rfl
        · skip
          have i19x3 := z_ge 0 1 c19x3 i19x2 rfl
          have c19x3a := lc_ge e19x2 c19x3
          have i19x3a := lr_le2 1 2147483647 c19x3a (l_c 1 rfl) i14 rfl
          have i19x3b := l_b e14 i19x3a
          refine g_lload_n 7 (gd rfl) rfl rfl ?_
          refine g_lload 9 (gd rfl) rfl rfl ?_
          refine g_lcmp 10 (gd rfl) rfl (fun z19x9 e19x9 => ?_)
          have i19x9 := lc_in e19x9
          refine g_if_gt 13 17 (gd rfl) rfl rfl (fun c19x10 => ?_) (fun c19x10 => ?_)
          · skip
            have i19x10 := z_gt 1 1 c19x10 i19x9 rfl
            have c19x10a := lc_gt e19x9 c19x10
            have i19x10a := lr_lt2 5 2147483647 c19x10a (l_c 4 rfl) i19x3a rfl
            have i19x10b := l_b e14 i19x10a
            refine g_iconst 0 18 (gd rfl) rfl rfl ?_
            refine g_ireturn (gd rfl) rfl (nb01 (in_w 0 1 (in_c 0 rfl) rfl)) (hp19 _ _ ?_)
            show GG _ _ _ _ _ _ _ _ [.int (Int32.ofInt 0), .ref (A 109)] _ _ _
            refine g_if_eq 25 41 (gd rfl) rfl rfl (fun c22 => ?_) (fun c22 => ?_)
            · skip
              refine g_iconst 0 42 (gd rfl) rfl rfl ?_
              refine g_callv (X := _) (As := [.int (Int32.ofInt 0)]) (r := []) (b := A 109) (q := 109) 45 (gd rfl) rfl rfl rfl rfl rfl (ww_o rfl) (Nat.le_of_ble_eq_true rfl) (mc := 0) (ms := 0) (Nat.zero_le _) (Nat.zero_le _) (P := fun v u => _) ?_ (fun e u h => h) (fun v u h => h)
              intro po42 xx42 hp42 hx42
              refine g_enter2 (k := 271) (N := 300) (by first | exact dq1 hd rfl | exact dq0 hd rfl | exact dq2 hd rfl | exact dq3 hd rfl | omega) rfl (Nat.le_of_ble_eq_true rfl) ?_
              refine g_aload_n 1 (gd rfl) rfl rfl ?_
              refine g_iload_n 2 (gd rfl) rfl rfl ?_
              refine g_iconst 1 3 (gd rfl) rfl rfl ?_
              refine g_callv (X := _) (As := [.int (Int32.ofInt 0), .int (Int32.ofInt 1)]) (r := []) (b := A 109) (q := 109) 6 (gd rfl) rfl rfl rfl rfl rfl (ww_o rfl) (Nat.le_of_ble_eq_true rfl) (mc := 0) (ms := 0) (Nat.zero_le _) (Nat.zero_le _) (P := fun v u => _) ?_ (fun e u h => h) (fun v u h => h)
              intro po42x3 xx42x3 hp42x3 hx42x3
              refine g_enter2 (k := 270) (N := 300) (by first | exact dq1 hd rfl | exact dq0 hd rfl | exact dq2 hd rfl | exact dq3 hd rfl | omega) rfl (Nat.le_of_ble_eq_true rfl) ?_
              refine g_aload_n 1 (gd rfl) rfl rfl ?_
              refine g_iload_n 2 (gd rfl) rfl rfl ?_
              refine g_if_ne 5 9 (gd rfl) rfl rfl (fun c42x3x2 => ?_) (fun c42x3x2 => ?_)
              · skip
                exact zn_ne c42x3x2 (in_c 0 rfl) rfl
              · skip
                refine g_iconst 1 6 (gd rfl) rfl rfl ?_
                refine g_goto 18 (gd rfl) rfl ?_
                refine g_putI 21 (gd rfl) rfl rfl rfl rfl ?_
                have hI42x3x18 := inv_sF (q := 109) (j := 0) hI rfl (in_w 0 2 (in_c 1 rfl) rfl)
                refine g_aload_n 22 (gd rfl) rfl rfl ?_
                refine g_getI 25 (gd rfl) rfl rfl rfl (fun z42x3x22 e42x3x22 => ?_)
                have q42x3x22 : (Int32.ofInt 1) = z42x3x22 := (sF_get).trans e42x3x22.symm
                subst q42x3x22
                refine g_if_le 28 32 (gd rfl) rfl rfl (fun c42x3x25 => ?_) (fun c42x3x25 => ?_)
                · skip
                  exact zn_le c42x3x25 (in_c 1 rfl) rfl
                · skip
                  refine g_iconst 1 29 (gd rfl) rfl rfl ?_
                  refine g_goto 33 (gd rfl) rfl ?_
                  refine g_ireturn (gd rfl) rfl (nb01 (in_w 0 1 (in_c 1 rfl) rfl)) (hp42x3 _ _ ?_)
                  show GG _ _ _ _ _ _ _ _ [.int (Int32.ofInt 1)] _ _ _
                  refine g_ireturn (gd rfl) rfl (nb01 (in_w 0 1 (in_c 1 rfl) rfl)) (hp42 _ _ ?_)
                  show GG _ _ _ _ _ _ _ _ [.int (Int32.ofInt 1)] _ _ _
                  refine g_if_eq 48 50 (gd rfl) rfl rfl (fun c45 => ?_) (fun c45 => ?_)
                  · skip
                    exact zn_eq c45 (in_c 1 rfl) rfl
                  · skip
                    refine g_iconst 0 49 (gd rfl) rfl rfl ?_
                    exact g_ireturn (gd rfl) rfl rfl (hP _ _ ⟨(sF s 109 0 (Int32.ofInt 1)), hI42x3x18, (fr_sF rfl fr_rf), (Int32.ofInt 0), rfl, rfl, in_w 0 200 (in_c 0 rfl) rfl⟩)
            · skip
              exact zn_ne c22 (in_c 0 rfl) rfl
          · skip
            have i19x10 := z_le (-1) 0 c19x10 i19x9 rfl
            have c19x10a := lc_le e19x9 c19x10
            have i19x10a := lr_le1 1 4 c19x10a i19x3a (l_c 4 rfl) rfl
            have i19x10b := l_b e14 i19x10a
            refine g_iconst 1 14 (gd rfl) rfl rfl ?_
            refine g_goto 18 (gd rfl) rfl ?_
            refine g_ireturn (gd rfl) rfl (nb01 (in_w 0 1 (in_c 1 rfl) rfl)) (hp19 _ _ ?_)
            show GG _ _ _ _ _ _ _ _ [.int (Int32.ofInt 1), .ref (A 109)] _ _ _
            refine g_if_eq 25 41 (gd rfl) rfl rfl (fun c22 => ?_) (fun c22 => ?_)
            · skip
              exact zn_eq c22 (in_c 1 rfl) rfl
            · skip
              refine g_iload_n 26 (gd rfl) rfl rfl ?_
              refine g_i2l 27 (gd rfl) rfl (fun z26 e26 => ?_)
              have i26 := l_i e26 (i_rng x3)
              refine g_lconst 0 28 (gd rfl) rfl rfl ?_
              refine g_ldc2_w 90 31 (gd rfl) rfl rfl ?_
              refine g_calls (As := [.long z26, .long (Int64.ofInt 0), .long (Int64.ofInt 90)]) (r := [.ref (A 109)]) 34 (gd rfl) rfl rfl rfl rfl rfl (Nat.le_of_ble_eq_true rfl) (mc := 0) (ms := 0) (Nat.zero_le _) (Nat.zero_le _) (P := fun v u => _) ?_ (fun v u h => h)
              intro po31 xx31 hp31 hx31
              refine g_enter2 (k := 269) (N := 300) (by first | exact dq1 hd rfl | exact dq0 hd rfl | exact dq2 hd rfl | exact dq3 hd rfl | omega) rfl (Nat.le_of_ble_eq_true rfl) ?_
              refine g_lload_n 1 (gd rfl) rfl rfl ?_
              refine g_lload_n 2 (gd rfl) rfl rfl ?_
              refine g_lcmp 3 (gd rfl) rfl (fun z31x2 e31x2 => ?_)
              have i31x2 := lc_in e31x2
              refine g_if_lt 6 17 (gd rfl) rfl rfl (fun c31x3 => ?_) (fun c31x3 => ?_)
              · skip
                have i31x3 := z_lt (-1) (-1) c31x3 i31x2 rfl
                have c31x3a := lc_lt e31x2 c31x3
                have i31x3a := lr_lt1 (-2147483648) (-1) c31x3a i26 (l_c 0 rfl) rfl
                have i31x3b := l_b e26 i31x3a
                refine g_iconst 0 18 (gd rfl) rfl rfl ?_
                refine g_ireturn (gd rfl) rfl (nb01 (in_w 0 1 (in_c 0 rfl) rfl)) (hp31 _ _ ?_)
                show GG _ _ _ _ _ _ _ _ [.int (Int32.ofInt 0), .ref (A 109)] _ _ _
                refine g_if_eq 37 41 (gd rfl) rfl rfl (fun c34 => ?_) (fun c34 => ?_)
                · skip
                  refine g_iconst 0 42 (gd rfl) rfl rfl ?_
                  refine g_callv (X := _) (As := [.int (Int32.ofInt 0)]) (r := []) (b := A 109) (q := 109) 45 (gd rfl) rfl rfl rfl rfl rfl (ww_o rfl) (Nat.le_of_ble_eq_true rfl) (mc := 0) (ms := 0) (Nat.zero_le _) (Nat.zero_le _) (P := fun v u => _) ?_ (fun e u h => h) (fun v u h => h)
                  intro po42 xx42 hp42 hx42
                  refine g_enter2 (k := 271) (N := 300) (by first | exact dq1 hd rfl | exact dq0 hd rfl | exact dq2 hd rfl | exact dq3 hd rfl | omega) rfl (Nat.le_of_ble_eq_true rfl) ?_
                  refine g_aload_n 1 (gd rfl) rfl rfl ?_
                  refine g_iload_n 2 (gd rfl) rfl rfl ?_
                  refine g_iconst 1 3 (gd rfl) rfl rfl ?_
                  refine g_callv (X := _) (As := [.int (Int32.ofInt 0), .int (Int32.ofInt 1)]) (r := []) (b := A 109) (q := 109) 6 (gd rfl) rfl rfl rfl rfl rfl (ww_o rfl) (Nat.le_of_ble_eq_true rfl) (mc := 0) (ms := 0) (Nat.zero_le _) (Nat.zero_le _) (P := fun v u => _) ?_ (fun e u h => h) (fun v u h => h)
                  intro po42x3 xx42x3 hp42x3 hx42x3
                  refine g_enter2 (k := 270) (N := 300) (by first | exact dq1 hd rfl | exact dq0 hd rfl | exact dq2 hd rfl | exact dq3 hd rfl | omega) rfl (Nat.le_of_ble_eq_true rfl) ?_
                  refine g_aload_n 1 (gd rfl) rfl rfl ?_
                  refine g_iload_n 2 (gd rfl) rfl rfl ?_
                  refine g_if_ne 5 9 (gd rfl) rfl rfl (fun c42x3x2 => ?_) (fun c42x3x2 => ?_)
                  · skip
                    exact zn_ne c42x3x2 (in_c 0 rfl) rfl
                  · skip
                    refine g_iconst 1 6 (gd rfl) rfl rfl ?_
                    refine g_goto 18 (gd rfl) rfl ?_
                    refine g_putI 21 (gd rfl) rfl rfl rfl rfl ?_
                    have hI42x3x18 := inv_sF (q := 109) (j := 0) hI rfl (in_w 0 2 (in_c 1 rfl) rfl)
                    refine g_aload_n 22 (gd rfl) rfl rfl ?_
                    refine g_getI 25 (gd rfl) rfl rfl rfl (fun z42x3x22 e42x3x22 => ?_)
                    have q42x3x22 : (Int32.ofInt 1) = z42x3x22 := (sF_get).trans e42x3x22.symm
                    subst q42x3x22
                    refine g_if_le 28 32 (gd rfl) rfl rfl (fun c42x3x25 => ?_) (fun c42x3x25 => ?_)
                    · skip
                      exact zn_le c42x3x25 (in_c 1 rfl) rfl
                    · skip
                      refine g_iconst 1 29 (gd rfl) rfl rfl ?_
                      refine g_goto 33 (gd rfl) rfl ?_
                      refine g_ireturn (gd rfl) rfl (nb01 (in_w 0 1 (in_c 1 rfl) rfl)) (hp42x3 _ _ ?_)
                      show GG _ _ _ _ _ _ _ _ [.int (Int32.ofInt 1)] _ _ _
                      refine g_ireturn (gd rfl) rfl (nb01 (in_w 0 1 (in_c 1 rfl) rfl)) (hp42 _ _ ?_)
                      show GG _ _ _ _ _ _ _ _ [.int (Int32.ofInt 1)] _ _ _
                      refine g_if_eq 48 50 (gd rfl) rfl rfl (fun c45 => ?_) (fun c45 => ?_)
                      · skip
                        exact zn_eq c45 (in_c 1 rfl) rfl
                      · skip
                        refine g_iconst 0 49 (gd rfl) rfl rfl ?_
                        exact g_ireturn (gd rfl) rfl rfl (hP _ _ ⟨(sF s 109 0 (Int32.ofInt 1)), hI42x3x18, (fr_sF rfl fr_rf), (Int32.ofInt 0), rfl, rfl, in_w 0 200 (in_c 0 rfl) rfl⟩)
                · skip
                  exact zn_ne c34 (in_c 0 rfl) rfl
              · skip
                have i31x3 := z_ge 0 1 c31x3 i31x2 rfl
                have c31x3a := lc_ge e31x2 c31x3
                have i31x3a := lr_le2 0 2147483647 c31x3a (l_c 0 rfl) i26 rfl
                have i31x3b := l_b e26 i31x3a
                refine g_lload_n 7 (gd rfl) rfl rfl ?_
                refine g_lload 9 (gd rfl) rfl rfl ?_
                refine g_lcmp 10 (gd rfl) rfl (fun z31x9 e31x9 => ?_)
                have i31x9 := lc_in e31x9
                refine g_if_gt 13 17 (gd rfl) rfl rfl (fun c31x10 => ?_) (fun c31x10 => ?_)
                · skip
                  have i31x10 := z_gt 1 1 c31x10 i31x9 rfl
                  have c31x10a := lc_gt e31x9 c31x10
                  have i31x10a := lr_lt2 91 2147483647 c31x10a (l_c 90 rfl) i31x3a rfl
                  have i31x10b := l_b e26 i31x10a
                  refine g_iconst 0 18 (gd rfl) rfl rfl ?_
                  refine g_ireturn (gd rfl) rfl (nb01 (in_w 0 1 (in_c 0 rfl) rfl)) (hp31 _ _ ?_)
                  show GG _ _ _ _ _ _ _ _ [.int (Int32.ofInt 0), .ref (A 109)] _ _ _
                  refine g_if_eq 37 41 (gd rfl) rfl rfl (fun c34 => ?_) (fun c34 => ?_)
                  · skip
                    refine g_iconst 0 42 (gd rfl) rfl rfl ?_
                    refine g_callv (X := _) (As := [.int (Int32.ofInt 0)]) (r := []) (b := A 109) (q := 109) 45 (gd rfl) rfl rfl rfl rfl rfl (ww_o rfl) (Nat.le_of_ble_eq_true rfl) (mc := 0) (ms := 0) (Nat.zero_le _) (Nat.zero_le _) (P := fun v u => _) ?_ (fun e u h => h) (fun v u h => h)
                    intro po42 xx42 hp42 hx42
                    refine g_enter2 (k := 271) (N := 300) (by first | exact dq1 hd rfl | exact dq0 hd rfl | exact dq2 hd rfl | exact dq3 hd rfl | omega) rfl (Nat.le_of_ble_eq_true rfl) ?_
                    refine g_aload_n 1 (gd rfl) rfl rfl ?_
                    refine g_iload_n 2 (gd rfl) rfl rfl ?_
                    refine g_iconst 1 3 (gd rfl) rfl rfl ?_
                    refine g_callv (X := _) (As := [.int (Int32.ofInt 0), .int (Int32.ofInt 1)]) (r := []) (b := A 109) (q := 109) 6 (gd rfl) rfl rfl rfl rfl rfl (ww_o rfl) (Nat.le_of_ble_eq_true rfl) (mc := 0) (ms := 0) (Nat.zero_le _) (Nat.zero_le _) (P := fun v u => _) ?_ (fun e u h => h) (fun v u h => h)
                    intro po42x3 xx42x3 hp42x3 hx42x3
                    refine g_enter2 (k := 270) (N := 300) (by first | exact dq1 hd rfl | exact dq0 hd rfl | exact dq2 hd rfl | exact dq3 hd rfl | omega) rfl (Nat.le_of_ble_eq_true rfl) ?_
                    refine g_aload_n 1 (gd rfl) rfl rfl ?_
                    refine g_iload_n 2 (gd rfl) rfl rfl ?_
                    refine g_if_ne 5 9 (gd rfl) rfl rfl (fun c42x3x2 => ?_) (fun c42x3x2 => ?_)
                    · skip
                      exact zn_ne c42x3x2 (in_c 0 rfl) rfl
                    · skip
                      refine g_iconst 1 6 (gd rfl) rfl rfl ?_
                      refine g_goto 18 (gd rfl) rfl ?_
                      refine g_putI 21 (gd rfl) rfl rfl rfl rfl ?_
                      have hI42x3x18 := inv_sF (q := 109) (j := 0) hI rfl (in_w 0 2 (in_c 1 rfl) rfl)
                      refine g_aload_n 22 (gd rfl) rfl rfl ?_
                      refine g_getI 25 (gd rfl) rfl rfl rfl (fun z42x3x22 e42x3x22 => ?_)
                      have q42x3x22 : (Int32.ofInt 1) = z42x3x22 := (sF_get).trans e42x3x22.symm
                      subst q42x3x22
                      refine g_if_le 28 32 (gd rfl) rfl rfl (fun c42x3x25 => ?_) (fun c42x3x25 => ?_)
                      · skip
                        exact zn_le c42x3x25 (in_c 1 rfl) rfl
                      · skip
                        refine g_iconst 1 29 (gd rfl) rfl rfl ?_
                        refine g_goto 33 (gd rfl) rfl ?_
                        refine g_ireturn (gd rfl) rfl (nb01 (in_w 0 1 (in_c 1 rfl) rfl)) (hp42x3 _ _ ?_)
                        show GG _ _ _ _ _ _ _ _ [.int (Int32.ofInt 1)] _ _ _
                        refine g_ireturn (gd rfl) rfl (nb01 (in_w 0 1 (in_c 1 rfl) rfl)) (hp42 _ _ ?_)
                        show GG _ _ _ _ _ _ _ _ [.int (Int32.ofInt 1)] _ _ _
                        refine g_if_eq 48 50 (gd rfl) rfl rfl (fun c45 => ?_) (fun c45 => ?_)
                        · skip
                          exact zn_eq c45 (in_c 1 rfl) rfl
                        · skip
                          refine g_iconst 0 49 (gd rfl) rfl rfl ?_
                          exact g_ireturn (gd rfl) rfl rfl (hP _ _ ⟨(sF s 109 0 (Int32.ofInt 1)), hI42x3x18, (fr_sF rfl fr_rf), (Int32.ofInt 0), rfl, rfl, in_w 0 200 (in_c 0 rfl) rfl⟩)
                  · skip
                    exact zn_ne c34 (in_c 0 rfl) rfl
                · skip
                  have i31x10 := z_le (-1) 0 c31x10 i31x9 rfl
                  have c31x10a := lc_le e31x9 c31x10
                  have i31x10a := lr_le1 0 90 c31x10a i31x3a (l_c 90 rfl) rfl
                  have i31x10b := l_b e26 i31x10a
                  refine g_iconst 1 14 (gd rfl) rfl rfl ?_
                  refine g_goto 18 (gd rfl) rfl ?_
                  refine g_ireturn (gd rfl) rfl (nb01 (in_w 0 1 (in_c 1 rfl) rfl)) (hp31 _ _ ?_)
                  show GG _ _ _ _ _ _ _ _ [.int (Int32.ofInt 1), .ref (A 109)] _ _ _
                  refine g_if_eq 37 41 (gd rfl) rfl rfl (fun c34 => ?_) (fun c34 => ?_)
                  · skip
                    exact zn_eq c34 (in_c 1 rfl) rfl
                  · skip
                    refine g_iconst 1 38 (gd rfl) rfl rfl ?_
                    refine g_goto 42 (gd rfl) rfl ?_
                    refine g_callv (X := _) (As := [.int (Int32.ofInt 1)]) (r := []) (b := A 109) (q := 109) 45 (gd rfl) rfl rfl rfl rfl rfl (ww_o rfl) (Nat.le_of_ble_eq_true rfl) (mc := 0) (ms := 0) (Nat.zero_le _) (Nat.zero_le _) (P := fun v u => _) ?_ (fun e u h => h) (fun v u h => h)
                    intro po42 xx42 hp42 hx42
                    refine g_enter2 (k := 271) (N := 300) (by first | exact dq1 hd rfl | exact dq0 hd rfl | exact dq2 hd rfl | exact dq3 hd rfl | omega) rfl (Nat.le_of_ble_eq_true rfl) ?_
                    refine g_aload_n 1 (gd rfl) rfl rfl ?_
                    refine g_iload_n 2 (gd rfl) rfl rfl ?_
                    refine g_iconst 1 3 (gd rfl) rfl rfl ?_
                    refine g_callv (X := _) (As := [.int (Int32.ofInt 1), .int (Int32.ofInt 1)]) (r := []) (b := A 109) (q := 109) 6 (gd rfl) rfl rfl rfl rfl rfl (ww_o rfl) (Nat.le_of_ble_eq_true rfl) (mc := 0) (ms := 0) (Nat.zero_le _) (Nat.zero_le _) (P := fun v u => _) ?_ (fun e u h => h) (fun v u h => h)
                    intro po42x3 xx42x3 hp42x3 hx42x3
                    refine g_enter2 (k := 270) (N := 300) (by first | exact dq1 hd rfl | exact dq0 hd rfl | exact dq2 hd rfl | exact dq3 hd rfl | omega) rfl (Nat.le_of_ble_eq_true rfl) ?_
                    refine g_aload_n 1 (gd rfl) rfl rfl ?_
                    refine g_iload_n 2 (gd rfl) rfl rfl ?_
                    refine g_if_ne 5 9 (gd rfl) rfl rfl (fun c42x3x2 => ?_) (fun c42x3x2 => ?_)
                    · skip
                      refine g_iload_n 10 (gd rfl) rfl rfl ?_
                      refine g_if_ne 13 17 (gd rfl) rfl rfl (fun c42x3x10 => ?_) (fun c42x3x10 => ?_)
                      · skip
                        refine g_iconst 0 18 (gd rfl) rfl rfl ?_
                        refine g_putI 21 (gd rfl) rfl rfl rfl rfl ?_
                        have hI42x3x18 := inv_sF (q := 109) (j := 0) hI rfl (in_w 0 2 (in_c 0 rfl) rfl)
                        refine g_aload_n 22 (gd rfl) rfl rfl ?_
                        refine g_getI 25 (gd rfl) rfl rfl rfl (fun z42x3x22 e42x3x22 => ?_)
                        have q42x3x22 : (Int32.ofInt 0) = z42x3x22 := (sF_get).trans e42x3x22.symm
                        subst q42x3x22
                        refine g_if_le 28 32 (gd rfl) rfl rfl (fun c42x3x25 => ?_) (fun c42x3x25 => ?_)
                        · skip
                          refine g_iconst 0 33 (gd rfl) rfl rfl ?_
                          refine g_ireturn (gd rfl) rfl (nb01 (in_w 0 1 (in_c 0 rfl) rfl)) (hp42x3 _ _ ?_)
                          show GG _ _ _ _ _ _ _ _ [.int (Int32.ofInt 0)] _ _ _
                          refine g_ireturn (gd rfl) rfl (nb01 (in_w 0 1 (in_c 0 rfl) rfl)) (hp42 _ _ ?_)
                          show GG _ _ _ _ _ _ _ _ [.int (Int32.ofInt 0)] _ _ _
                          refine g_if_eq 48 50 (gd rfl) rfl rfl (fun c45 => ?_) (fun c45 => ?_)
                          · skip
                            refine g_aload_n 51 (gd rfl) rfl rfl ?_
                            refine g_aload_n 52 (gd rfl) rfl rfl ?_
                            refine g_getI 55 (gd rfl) rfl rfl rfl (fun z52 e52 => ?_)
                            have q52 : u_109_20 = z52 := (sF_ne rfl (e_109_20)).trans e52.symm
                            subst q52
                            refine g_putI 58 (gd rfl) rfl rfl rfl rfl ?_
                            have hI55 := inv_sF (q := 109) (j := 113) hI42x3x18 rfl (in_w 0 32 ro_109_20 rfl)
                            refine g_aload_n 59 (gd rfl) rfl rfl ?_
                            refine g_iconst 0 60 (gd rfl) rfl rfl ?_
                            refine g_putI 63 (gd rfl) rfl rfl rfl rfl ?_
                            have hI60 := inv_sF (q := 109) (j := 116) hI55 rfl (in_w (-2147483648) 2147483647 (in_c 0 rfl) rfl)
                            refine g_aload_n 64 (gd rfl) rfl rfl ?_
                            refine g_iconst 0 65 (gd rfl) rfl rfl ?_
                            refine g_putI 68 (gd rfl) rfl rfl rfl rfl ?_
                            have hI65 := inv_sF (q := 109) (j := 117) hI60 rfl (in_w (-2147483648) 2147483647 (in_c 0 rfl) rfl)
                            refine g_aload_n 69 (gd rfl) rfl rfl ?_
                            refine g_iconst 0 70 (gd rfl) rfl rfl ?_
                            refine g_putI 73 (gd rfl) rfl rfl rfl rfl ?_
                            have hI70 := inv_sF (q := 109) (j := 118) hI65 rfl (in_w (-2147483648) 2147483647 (in_c 0 rfl) rfl)
                            refine g_aload_n 74 (gd rfl) rfl rfl ?_
                            refine g_lconst 0 75 (gd rfl) rfl rfl ?_
                            refine g_putL 78 (gd rfl) rfl rfl rfl rfl ?_
                            have hI75 := inv_sG (q := 109) (j := 121) (x := (Int64.ofInt 0)) hI70 rfl (l_rng (Int64.ofInt 0))
                            refine g_iconst 0 79 (gd rfl) rfl rfl ?_
                            refine g_istore 81 (gd rfl) rfl (Nat.le_of_ble_eq_true rfl) ?_
                            exact gg_w (by first | exact Nat.le_of_ble_eq_true rfl | omega) (gg_f (gf_cons rfl (gf_cons rfl (gf_cons rfl (gf_cons rfl (gf_cons rfl (gf_cons rfl gf_nil)))))) (ct81 33 (sG (sF (sF (sF (sF (sF s 109 0 (Int32.ofInt 0)) 109 113 u_109_20) 109 116 (Int32.ofInt 0)) 109 117 (Int32.ofInt 0)) 109 118 (Int32.ofInt 0)) 109 121 (Int64.ofInt 0)) (Int32.ofInt 0) hI75 (fr_sG rfl (fr_sF rfl (fr_sF rfl (fr_sF rfl (fr_sF rfl (fr_sF rfl fr_rf)))))) (in_w 0 200 i7x10b rfl) (in_w 1 4 i19x10b rfl) (in_w 0 90 i31x10b rfl) (in_w 0 32 (in_c 0 rfl) rfl) (m_in 33 (in_w 0 32 (in_c 0 rfl) rfl) rfl)))
                          · skip
                            exact zn_ne c45 (in_c 0 rfl) rfl
                        · skip
                          exact zn_gt c42x3x25 (in_c 0 rfl) rfl
                      · skip
                        exact zn_eq c42x3x10 (in_c 1 rfl) rfl
                    · skip
                      exact zn_eq c42x3x2 (in_c 1 rfl) rfl
end
section
/-! methods, by vc.py -/
def fm_62_102_46 : FM := ([104], [], [(46, 2), (46, 3), (46, 4), (46, 5), (46, 6), (46, 7), (102, 4)], [])
/-- GraphHouse$Engine.readAtom -/
theorem k_62_102_46 {Z : AmZ} {A : Nat → Nat} {s : GS} {ex : va_W} {d : Nat} {X : AmX} {u_46_2 : Int32} {u_46_1 : Int32} {u_46_4 : Int32} {u_46_3 : Int32} {u_46_5 : Int32} {u_102_4 : Int32} (hd : 8 ≤ d) (hI : Inv s) (e_46_2 : u_46_2 = s.2.2.1 46 2) (e_46_1 : u_46_1 = s.2.2.1 46 1) (e_46_4 : u_46_4 = s.2.2.1 46 4) (e_46_3 : u_46_3 = s.2.2.1 46 3) (e_46_5 : u_46_5 = s.2.2.1 46 5) (e_102_4 : u_102_4 = s.2.2.1 102 4) (r_46_1 : In u_46_1 0 120) (p_0 : (u_46_2).toInt ≤ (u_46_1).toInt) (p_1 : (u_46_4).toInt ≤ (u_46_2).toInt) (p_2 : (u_102_4).toInt ≤ (u_46_4).toInt) (p_3 : 1 ≤ (u_46_3).toInt) (p_4 : (u_46_3).toInt ≤ 2) (q_0 : TK s) : GC Z d 62 [.ref (A 102), .ref (A 46)] (WW Z A s ++ ex) 0 0 (fun v u => ∃ t : GS, Inv t ∧ Fr fm_62_102_46 s t ∧ ((t.2.2.1 46 2).toInt ≤ (t.2.2.1 46 1).toInt) ∧ ((t.2.2.1 46 4).toInt ≤ (t.2.2.1 46 2).toInt) ∧ ((t.2.2.1 102 4).toInt ≤ (t.2.2.1 46 4).toInt) ∧ ((s.2.2.1 46 4).toInt - (s.2.2.1 102 4).toInt ≤ (t.2.2.1 46 4).toInt - (t.2.2.1 102 4).toInt) ∧ ∃ z : Int32, v = some (.int z) ∧ u = WW Z A t ++ ex ∧ In z 0 1 ∧ (TK t) ∧ ((z).toInt ≠ 0 → PCV s t 1)) X := by
  intro post xp hP hX
  refine g_enter2 (k := 62) (N := 900) (by first | exact dq1 hd rfl | exact dq0 hd rfl | exact dq2 hd rfl | exact dq3 hd rfl | omega) rfl (Nat.le_of_ble_eq_true rfl) ?_
  refine g_aload_n 1 (gd rfl) rfl rfl ?_
  refine g_getI 4 (gd rfl) rfl rfl rfl (fun z1 e1 => ?_)
  have q1 : u_46_5 = z1 := (e_46_5).trans e1.symm
  subst q1
  refine g_istore_n 5 (gd rfl) rfl (Nat.le_of_ble_eq_true rfl) ?_
  have hk := tka_1 q_0 (show u_46_3 = s.2.2.1 46 3 from e_46_3) (show u_46_4 = s.2.2.1 46 4 from e_46_4) (show u_46_2 = s.2.2.1 46 2 from e_46_2) (by have a0 := oa5 ((inv_F hI 0 120 rfl e_102_4)) ((inv_F hI 0 5 rfl e_46_3)) ((inv_F hI 0 1000 rfl e_46_4)) r_46_1 ((inv_F hI 0 1000 rfl e_46_2)); omega)
  refine g_aload_n 6 (gd rfl) rfl rfl ?_
  refine g_getI 9 (gd rfl) rfl rfl rfl (fun z6 e6 => ?_)
  have q6 : u_46_3 = z6 := (e_46_3).trans e6.symm
  subst q6
  refine g_iconst 1 10 (gd rfl) rfl rfl ?_
  refine g_cmp_ne 13 46 (gd rfl) rfl rfl (fun c10 => ?_) (fun c10 => ?_)
  · skip
    refine g_aload_n 47 (gd rfl) rfl rfl ?_
    refine g_iload_n 48 (gd rfl) rfl rfl ?_
    have hDe : _ = s.2.2.1 102 4 := (show u_102_4 = s.2.2.1 102 4 from e_102_4)
    have n48 : (u_102_4).toInt ≤ 119 := by have a0 := oa5 ((inv_F hI 0 120 rfl e_102_4)) ((inv_F hI 0 5 rfl e_46_3)) ((inv_F hI 0 1000 rfl e_46_4)) r_46_1 ((inv_F hI 0 1000 rfl e_46_2)); omega
    refine g_callv (X := _) (As := [.int u_46_5]) (r := []) (b := A 102) (q := 102) 51 (gd rfl) rfl rfl rfl rfl rfl (ww_o rfl) (Nat.le_of_ble_eq_true rfl) (Nat.zero_le _) (Nat.zero_le _) (k_57_102 (by first | exact dq1 hd rfl | exact dq0 hd rfl | exact dq2 hd rfl | exact dq3 hd rfl | omega) hI e_102_4 n48) (fun e u h => h) (fun v u h => ?_)
    obtain ⟨s48, hI48, hF48, n48a, z48, rfl, rfl, i48, p48⟩ := h
    obtain ⟨z48a, e48⟩ : ∃ w, w = s48.2.2.1 102 4 := ⟨_, rfl⟩
    have i48a := inv_F hI48 0 120 rfl e48
    rw [← (show u_102_4 = s.2.2.1 102 4 from e_102_4)] at n48a
    rw [← (show z48a = s48.2.2.1 102 4 from e48)] at n48a
    show GG _ _ _ _ _ _ _ _ [.int z48] _ _ _
    refine g_pop 52 (gd rfl) rfl rfl ?_
    refine g_aload_n 53 (gd rfl) rfl rfl ?_
    refine g_bipush 6 55 (gd rfl) rfl rfl ?_
    refine g_iconst 0 56 (gd rfl) rfl rfl ?_
    have v56 : u_46_2 = s48.2.2.1 46 2 := fr_F (e_46_2) hF48 rfl
    have v56a : u_46_1 = s48.2.2.1 46 1 := fr_F (e_46_1) hF48 rfl
    have n56 : (u_46_2).toInt ≤ (u_46_1).toInt := by have a0 := oa6 ((inv_F hI 0 120 rfl e_102_4)) ((inv_F hI 0 5 rfl e_46_3)) ((inv_F hI 0 1000 rfl e_46_4)) r_46_1 ((inv_F hI 0 1000 rfl e_46_2)) i48a; omega
    refine g_callv (X := _) (As := [.int (Int32.ofInt 6), .int (Int32.ofInt 0)]) (r := []) (b := A 46) (q := 46) 59 (gd rfl) rfl rfl rfl rfl rfl (ww_o rfl) (Nat.le_of_ble_eq_true rfl) (Nat.zero_le _) (Nat.zero_le _) (k_171_46 (by first | exact dq1 hd rfl | exact dq0 hd rfl | exact dq2 hd rfl | exact dq3 hd rfl | omega) hI48 (in_w 6 7 (in_c 6 rfl) rfl) (in_w 0 1 (in_c 0 rfl) rfl) v56 v56a n56) (fun e u h => h) (fun v u h => ?_)
    obtain ⟨s56, hI56, hF56, n56a, n56b, n56c, rfl, rfl, p56, p56a⟩ := h
    obtain ⟨z56a, e56⟩ : ∃ w, w = s56.2.2.1 46 2 := ⟨_, rfl⟩
    have i56a := inv_F hI56 0 1000 rfl e56
    obtain ⟨z56b, e56a⟩ : ∃ w, w = s56.2.2.1 46 4 := ⟨_, rfl⟩
    have i56b := inv_F hI56 0 1000 rfl e56a
    rw [← (show z56a = s56.2.2.1 46 2 from e56)] at n56a
    rw [← (show u_46_1 = s56.2.2.1 46 1 from fr_F (fr_F (e_46_1) hF48 rfl) hF56 rfl)] at n56a
    rw [← (show z56a = s56.2.2.1 46 2 from e56)] at n56b
    rw [← (show z56b = s56.2.2.1 46 4 from e56a)] at n56b
    rw [← (show u_46_2 = s48.2.2.1 46 2 from fr_F (e_46_2) hF48 rfl)] at n56c
    rw [← (show z56b = s56.2.2.1 46 4 from e56a)] at n56c
    show GG _ _ _ _ _ _ _ _ [] _ _ _
    refine g_iconst 1 60 (gd rfl) rfl rfl ?_
    have n60 : TK s56 := by exact p56 (by decide)
    have n60a : ((Int32.ofInt 1)).toInt ≠ 0 → PCV s s56 1 := by intro _; exact pv_tr (j := 1) (k := 0) (pv_st (j := 0) (k := 1) pv_rf (inv_F hI 0 120 rfl rfl).1 p48 (by rw [← e48, ← hDe]; have a0 := oa8 ((inv_F hI 0 120 rfl e_102_4)) ((inv_F hI 0 5 rfl e_46_3)) ((inv_F hI 0 1000 rfl e_46_4)) r_46_1 ((inv_F hI 0 1000 rfl e_46_2)) i56b i56a i48a; omega) (fun e => hc_a (by first | (have a0 := oa8 ((inv_F hI 0 120 rfl e_102_4)) ((inv_F hI 0 5 rfl e_46_3)) ((inv_F hI 0 1000 rfl e_46_4)) r_46_1 ((inv_F hI 0 1000 rfl e_46_2)) i56b i56a i48a; omega) | (have c1 : (Int32.ofInt 1).toInt = 1 := (by decide); have hv := tkv_1 q_0 e_46_3 e_46_5 (by have a0 := oa8 ((inv_F hI 0 120 rfl e_102_4)) ((inv_F hI 0 5 rfl e_46_3)) ((inv_F hI 0 1000 rfl e_46_4)) r_46_1 ((inv_F hI 0 1000 rfl e_46_2)) i56b i56a i48a; omega); have a0 := oa8 ((inv_F hI 0 120 rfl e_102_4)) ((inv_F hI 0 5 rfl e_46_3)) ((inv_F hI 0 1000 rfl e_46_4)) r_46_1 ((inv_F hI 0 1000 rfl e_46_2)) i56b i56a i48a; omega)) e)) (pv_sm (hF56.1 104 rfl) (hF56.2.2.1 102 4 rfl))
    have n60b : (z56a).toInt ≤ (u_46_1).toInt := by have a0 := oa8 ((inv_F hI 0 120 rfl e_102_4)) ((inv_F hI 0 5 rfl e_46_3)) ((inv_F hI 0 1000 rfl e_46_4)) r_46_1 ((inv_F hI 0 1000 rfl e_46_2)) i56b i56a i48a; omega
    have n60c : (s56.2.2.1 46 2).toInt ≤ (s56.2.2.1 46 1).toInt := by have b0 : z56a = s56.2.2.1 46 2 := e56; have b1 : u_46_1 = s56.2.2.1 46 1 := fr_F (fr_F (e_46_1) hF48 rfl) hF56 rfl; rw [← b0, ← b1]; exact n60b
    have n60d : (z56b).toInt ≤ (z56a).toInt := by have a0 := oa8 ((inv_F hI 0 120 rfl e_102_4)) ((inv_F hI 0 5 rfl e_46_3)) ((inv_F hI 0 1000 rfl e_46_4)) r_46_1 ((inv_F hI 0 1000 rfl e_46_2)) i56b i56a i48a; omega
    have n60e : (s56.2.2.1 46 4).toInt ≤ (s56.2.2.1 46 2).toInt := by have b0 : z56b = s56.2.2.1 46 4 := e56a; have b1 : z56a = s56.2.2.1 46 2 := e56; rw [← b0, ← b1]; exact n60d
    have n60f : (z48a).toInt ≤ (z56b).toInt := by have a0 := oa8 ((inv_F hI 0 120 rfl e_102_4)) ((inv_F hI 0 5 rfl e_46_3)) ((inv_F hI 0 1000 rfl e_46_4)) r_46_1 ((inv_F hI 0 1000 rfl e_46_2)) i56b i56a i48a; omega
    have n60g : (s56.2.2.1 102 4).toInt ≤ (s56.2.2.1 46 4).toInt := by have b0 : z48a = s56.2.2.1 102 4 := fr_F (e48) hF56 rfl; have b1 : z56b = s56.2.2.1 46 4 := e56a; rw [← b0, ← b1]; exact n60f
    have n60h : (u_46_4).toInt - (u_102_4).toInt ≤ (z56b).toInt - (z48a).toInt := by have a0 := oa8 ((inv_F hI 0 120 rfl e_102_4)) ((inv_F hI 0 5 rfl e_46_3)) ((inv_F hI 0 1000 rfl e_46_4)) r_46_1 ((inv_F hI 0 1000 rfl e_46_2)) i56b i56a i48a; omega
    have n60i : (s.2.2.1 46 4).toInt - (s.2.2.1 102 4).toInt ≤ (s56.2.2.1 46 4).toInt - (s56.2.2.1 102 4).toInt := by have b0 : z56b = s56.2.2.1 46 4 := e56a; have b1 : z48a = s56.2.2.1 102 4 := fr_F (e48) hF56 rfl; first | (rw [← b0, ← b1, ← e_46_4, ← e_102_4]; exact n60h) | (rw [← b0, ← b1]; exact n60h)
    exact g_ireturn (gd rfl) rfl (nb01 (in_w 0 1 (in_c 1 rfl) rfl)) (hP _ _ ⟨s56, hI56, (fr_tr rfl (fr_tr rfl fr_rf hF48) hF56), n60c, n60e, n60g, n60i, (Int32.ofInt 1), rfl, rfl, in_w 0 1 (in_c 1 rfl) rfl, n60, n60a⟩)
  · skip
    have i10 := r_eq1 1 1 c10 (inv_F hI 0 5 rfl e_46_3) (in_c 1 rfl) rfl
    refine g_ldcs 6 15 (gd rfl) rfl rfl ?_
    refine g_bipush 97 17 (gd rfl) rfl rfl ?_
    refine g_aload_n 18 (gd rfl) rfl rfl ?_
    refine g_getI 21 (gd rfl) rfl rfl rfl (fun z18 e18 => ?_)
    have q18 : u_46_5 = z18 := (e_46_5).trans e18.symm
    subst q18
    refine g_iadd 22 (gd rfl) rfl (fun z21 e21 => ?_)
    refine g_i2c 23 (gd rfl) rfl (fun z22 e22 => ?_)
    have i22 := in_i2c e22
    have i23 : In (Int32.ofInt 6) 0 6 := in_w 0 6 (in_c 6 rfl) rfl
    refine g_callS (X := _) (As := [.int z22]) (r := []) (x := (Int32.ofInt 6)) 26 (gd rfl) rfl rfl rfl zm_430 rfl rfl rfl i23 (Nat.le_of_ble_eq_true rfl) (k_430 i23 (by omega)) (fun e u h => h) (fun v u h => ?_)
    obtain ⟨z23, rfl, rfl, p23⟩ := h
    have i23a : In z23 (-1) 8 := by have a := zn_9 i23; unfold In at p23; exact ⟨by omega, by omega⟩
    show GG _ _ _ _ _ _ _ _ [.int z23] _ _ _
    refine g_istore_n 27 (gd rfl) rfl (Nat.le_of_ble_eq_true rfl) ?_
    refine g_iload_n 28 (gd rfl) rfl rfl ?_
    refine g_if_ge 31 41 (gd rfl) rfl rfl (fun c28 => ?_) (fun c28 => ?_)
    · skip
      have i28 := z_ge 0 8 c28 i23a rfl
      refine g_ldc 1000000 43 (gd rfl) rfl rfl ?_
      refine g_iload_n 44 (gd rfl) rfl rfl ?_
      refine g_iadd 45 (gd rfl) rfl (fun z44 e44 => ?_)
      have i44 := in_add 1000000 1000008 e44 (in_c 1000000 rfl) i28 rfl rfl
      refine g_istore_n 46 (gd rfl) rfl (Nat.le_of_ble_eq_true rfl) ?_
      refine g_aload_n 47 (gd rfl) rfl rfl ?_
      refine g_iload_n 48 (gd rfl) rfl rfl ?_
      have hDe : _ = s.2.2.1 102 4 := (show u_102_4 = s.2.2.1 102 4 from e_102_4)
      have n48 : (u_102_4).toInt ≤ 119 := by have a0 := oa7 ((inv_F hI 0 120 rfl e_102_4)) i10 ((inv_F hI 0 1000 rfl e_46_4)) r_46_1 ((inv_F hI 0 1000 rfl e_46_2)) i28 i44; have a7 := t_add e44 (in_c 1000000 rfl) i28 rfl; have a8 := in_u ((in_c 1000000 rfl)); omega
      refine g_callv (X := _) (As := [.int z44]) (r := []) (b := A 102) (q := 102) 51 (gd rfl) rfl rfl rfl rfl rfl (ww_o rfl) (Nat.le_of_ble_eq_true rfl) (Nat.zero_le _) (Nat.zero_le _) (k_57_102 (by first | exact dq1 hd rfl | exact dq0 hd rfl | exact dq2 hd rfl | exact dq3 hd rfl | omega) hI e_102_4 n48) (fun e u h => h) (fun v u h => ?_)
      obtain ⟨s48, hI48, hF48, n48a, z48, rfl, rfl, i48, p48⟩ := h
      obtain ⟨z48a, e48⟩ : ∃ w, w = s48.2.2.1 102 4 := ⟨_, rfl⟩
      have i48a := inv_F hI48 0 120 rfl e48
      rw [← (show u_102_4 = s.2.2.1 102 4 from e_102_4)] at n48a
      rw [← (show z48a = s48.2.2.1 102 4 from e48)] at n48a
      show GG _ _ _ _ _ _ _ _ [.int z48] _ _ _
      refine g_pop 52 (gd rfl) rfl rfl ?_
      refine g_aload_n 53 (gd rfl) rfl rfl ?_
      refine g_bipush 6 55 (gd rfl) rfl rfl ?_
      refine g_iconst 0 56 (gd rfl) rfl rfl ?_
      have v56 : u_46_2 = s48.2.2.1 46 2 := fr_F (e_46_2) hF48 rfl
      have v56a : u_46_1 = s48.2.2.1 46 1 := fr_F (e_46_1) hF48 rfl
      have n56 : (u_46_2).toInt ≤ (u_46_1).toInt := by have a0 := oa7 ((inv_F hI 0 120 rfl e_102_4)) i10 ((inv_F hI 0 1000 rfl e_46_4)) r_46_1 ((inv_F hI 0 1000 rfl e_46_2)) i28 i44; have a7 := t_add e44 (in_c 1000000 rfl) i28 rfl; have a8 := oa2 ((in_c 1000000 rfl)) i48a; omega
      refine g_callv (X := _) (As := [.int (Int32.ofInt 6), .int (Int32.ofInt 0)]) (r := []) (b := A 46) (q := 46) 59 (gd rfl) rfl rfl rfl rfl rfl (ww_o rfl) (Nat.le_of_ble_eq_true rfl) (Nat.zero_le _) (Nat.zero_le _) (k_171_46 (by first | exact dq1 hd rfl | exact dq0 hd rfl | exact dq2 hd rfl | exact dq3 hd rfl | omega) hI48 (in_w 6 7 (in_c 6 rfl) rfl) (in_w 0 1 (in_c 0 rfl) rfl) v56 v56a n56) (fun e u h => h) (fun v u h => ?_)
      obtain ⟨s56, hI56, hF56, n56a, n56b, n56c, rfl, rfl, p56, p56a⟩ := h
      obtain ⟨z56a, e56⟩ : ∃ w, w = s56.2.2.1 46 2 := ⟨_, rfl⟩
      have i56a := inv_F hI56 0 1000 rfl e56
      obtain ⟨z56b, e56a⟩ : ∃ w, w = s56.2.2.1 46 4 := ⟨_, rfl⟩
      have i56b := inv_F hI56 0 1000 rfl e56a
      rw [← (show z56a = s56.2.2.1 46 2 from e56)] at n56a
      rw [← (show u_46_1 = s56.2.2.1 46 1 from fr_F (fr_F (e_46_1) hF48 rfl) hF56 rfl)] at n56a
      rw [← (show z56a = s56.2.2.1 46 2 from e56)] at n56b
      rw [← (show z56b = s56.2.2.1 46 4 from e56a)] at n56b
      rw [← (show u_46_2 = s48.2.2.1 46 2 from fr_F (e_46_2) hF48 rfl)] at n56c
      rw [← (show z56b = s56.2.2.1 46 4 from e56a)] at n56c
      show GG _ _ _ _ _ _ _ _ [] _ _ _
      refine g_iconst 1 60 (gd rfl) rfl rfl ?_
      have n60 : TK s56 := by exact p56 (by decide)
      have n60a : ((Int32.ofInt 1)).toInt ≠ 0 → PCV s s56 1 := by intro _; exact pv_tr (j := 1) (k := 0) (pv_st (j := 0) (k := 1) pv_rf (inv_F hI 0 120 rfl rfl).1 p48 (by rw [← e48, ← hDe]; have a0 := oa7 ((inv_F hI 0 120 rfl e_102_4)) i10 ((inv_F hI 0 1000 rfl e_46_4)) r_46_1 ((inv_F hI 0 1000 rfl e_46_2)) i28 i44; have a7 := t_add e44 (in_c 1000000 rfl) i28 rfl; have a8 := oa4 ((in_c 1000000 rfl)) i56b i56a i48a; omega) (fun e => hc_a (by first | (have a0 := oa7 ((inv_F hI 0 120 rfl e_102_4)) i10 ((inv_F hI 0 1000 rfl e_46_4)) r_46_1 ((inv_F hI 0 1000 rfl e_46_2)) i28 i44; have a7 := t_add e44 (in_c 1000000 rfl) i28 rfl; have a8 := oa4 ((in_c 1000000 rfl)) i56b i56a i48a; omega) | (have c1 : (Int32.ofInt 1).toInt = 1 := (by decide); have hv := tkv_1 q_0 e_46_3 e_46_5 (by have a0 := oa7 ((inv_F hI 0 120 rfl e_102_4)) i10 ((inv_F hI 0 1000 rfl e_46_4)) r_46_1 ((inv_F hI 0 1000 rfl e_46_2)) i28 i44; have a7 := t_add e44 (in_c 1000000 rfl) i28 rfl; have a8 := oa4 ((in_c 1000000 rfl)) i56b i56a i48a; omega); have a0 := oa7 ((inv_F hI 0 120 rfl e_102_4)) i10 ((inv_F hI 0 1000 rfl e_46_4)) r_46_1 ((inv_F hI 0 1000 rfl e_46_2)) i28 i44; have a7 := t_add e44 (in_c 1000000 rfl) i28 rfl; have a8 := oa4 ((in_c 1000000 rfl)) i56b i56a i48a; omega)) e)) (pv_sm (hF56.1 104 rfl) (hF56.2.2.1 102 4 rfl))
      have n60b : (z56a).toInt ≤ (u_46_1).toInt := by have a0 := oa7 ((inv_F hI 0 120 rfl e_102_4)) i10 ((inv_F hI 0 1000 rfl e_46_4)) r_46_1 ((inv_F hI 0 1000 rfl e_46_2)) i28 i44; have a7 := t_add e44 (in_c 1000000 rfl) i28 rfl; have a8 := oa4 ((in_c 1000000 rfl)) i56b i56a i48a; omega
      have n60c : (s56.2.2.1 46 2).toInt ≤ (s56.2.2.1 46 1).toInt := by have b0 : z56a = s56.2.2.1 46 2 := e56; have b1 : u_46_1 = s56.2.2.1 46 1 := fr_F (fr_F (e_46_1) hF48 rfl) hF56 rfl; rw [← b0, ← b1]; exact n60b
      have n60d : (z56b).toInt ≤ (z56a).toInt := by have a0 := oa7 ((inv_F hI 0 120 rfl e_102_4)) i10 ((inv_F hI 0 1000 rfl e_46_4)) r_46_1 ((inv_F hI 0 1000 rfl e_46_2)) i28 i44; have a7 := t_add e44 (in_c 1000000 rfl) i28 rfl; have a8 := oa4 ((in_c 1000000 rfl)) i56b i56a i48a; omega
      have n60e : (s56.2.2.1 46 4).toInt ≤ (s56.2.2.1 46 2).toInt := by have b0 : z56b = s56.2.2.1 46 4 := e56a; have b1 : z56a = s56.2.2.1 46 2 := e56; rw [← b0, ← b1]; exact n60d
      have n60f : (z48a).toInt ≤ (z56b).toInt := by have a0 := oa7 ((inv_F hI 0 120 rfl e_102_4)) i10 ((inv_F hI 0 1000 rfl e_46_4)) r_46_1 ((inv_F hI 0 1000 rfl e_46_2)) i28 i44; have a7 := t_add e44 (in_c 1000000 rfl) i28 rfl; have a8 := oa4 ((in_c 1000000 rfl)) i56b i56a i48a; omega
      have n60g : (s56.2.2.1 102 4).toInt ≤ (s56.2.2.1 46 4).toInt := by have b0 : z48a = s56.2.2.1 102 4 := fr_F (e48) hF56 rfl; have b1 : z56b = s56.2.2.1 46 4 := e56a; rw [← b0, ← b1]; exact n60f
      have n60h : (u_46_4).toInt - (u_102_4).toInt ≤ (z56b).toInt - (z48a).toInt := by have a0 := oa7 ((inv_F hI 0 120 rfl e_102_4)) i10 ((inv_F hI 0 1000 rfl e_46_4)) r_46_1 ((inv_F hI 0 1000 rfl e_46_2)) i28 i44; have a7 := t_add e44 (in_c 1000000 rfl) i28 rfl; have a8 := oa4 ((in_c 1000000 rfl)) i56b i56a i48a; omega
      have n60i : (s.2.2.1 46 4).toInt - (s.2.2.1 102 4).toInt ≤ (s56.2.2.1 46 4).toInt - (s56.2.2.1 102 4).toInt := by have b0 : z56b = s56.2.2.1 46 4 := e56a; have b1 : z48a = s56.2.2.1 102 4 := fr_F (e48) hF56 rfl; first | (rw [← b0, ← b1, ← e_46_4, ← e_102_4]; exact n60h) | (rw [← b0, ← b1]; exact n60h)
      exact g_ireturn (gd rfl) rfl (nb01 (in_w 0 1 (in_c 1 rfl) rfl)) (hP _ _ ⟨s56, hI56, (fr_tr rfl (fr_tr rfl fr_rf hF48) hF56), n60c, n60e, n60g, n60i, (Int32.ofInt 1), rfl, rfl, in_w 0 1 (in_c 1 rfl) rfl, n60, n60a⟩)
    · skip
      have i28 := z_lt (-1) (-1) c28 i23a rfl
      refine g_aload_n 32 (gd rfl) rfl rfl ?_
      refine g_iconst 5 33 (gd rfl) rfl rfl ?_
      refine g_aload_n 34 (gd rfl) rfl rfl ?_
      refine g_getI 37 (gd rfl) rfl rfl rfl (fun z34 e34 => ?_)
      have q34 : u_46_4 = z34 := (e_46_4).trans e34.symm
      subst q34
      refine g_callv (X := _) (As := [.int (Int32.ofInt 5), .int u_46_4]) (r := []) (b := A 46) (q := 46) 40 (gd rfl) rfl rfl rfl rfl rfl (ww_o rfl) (Nat.le_of_ble_eq_true rfl) (Nat.zero_le _) (Nat.zero_le _) (k_168_46 (by first | exact dq1 hd rfl | exact dq0 hd rfl | exact dq2 hd rfl | exact dq3 hd rfl | omega) hI (in_w 1 5 (in_c 5 rfl) rfl) (in_w 0 1000 (inv_F hI 0 1000 rfl e_46_4) rfl)) (fun e u h => h) (fun v u h => ?_)
      obtain ⟨s37, hI37, hF37, z37, rfl, rfl, i37⟩ := h
      show GG _ _ _ _ _ _ _ _ [.int z37] _ _ _
      have n40 : TK s37 := by exact tk_fr hF37 rfl q_0
      have n40a : (z37).toInt ≠ 0 → PCV s s37 1 := by intro h; unfold In at i37; omega
      have n40b : (u_46_2).toInt ≤ (u_46_1).toInt := by have a0 := oa6 ((inv_F hI 0 120 rfl e_102_4)) i10 ((inv_F hI 0 1000 rfl e_46_4)) r_46_1 ((inv_F hI 0 1000 rfl e_46_2)) i28; omega
      have n40c : (s37.2.2.1 46 2).toInt ≤ (s37.2.2.1 46 1).toInt := by have b0 : u_46_2 = s37.2.2.1 46 2 := fr_F (e_46_2) hF37 rfl; have b1 : u_46_1 = s37.2.2.1 46 1 := fr_F (e_46_1) hF37 rfl; rw [← b0, ← b1]; exact n40b
      have n40d : (u_46_4).toInt ≤ (u_46_2).toInt := by have a0 := oa6 ((inv_F hI 0 120 rfl e_102_4)) i10 ((inv_F hI 0 1000 rfl e_46_4)) r_46_1 ((inv_F hI 0 1000 rfl e_46_2)) i28; omega
      have n40e : (s37.2.2.1 46 4).toInt ≤ (s37.2.2.1 46 2).toInt := by have b0 : u_46_4 = s37.2.2.1 46 4 := fr_F (e_46_4) hF37 rfl; have b1 : u_46_2 = s37.2.2.1 46 2 := fr_F (e_46_2) hF37 rfl; rw [← b0, ← b1]; exact n40d
      have n40f : (u_102_4).toInt ≤ (u_46_4).toInt := by have a0 := oa6 ((inv_F hI 0 120 rfl e_102_4)) i10 ((inv_F hI 0 1000 rfl e_46_4)) r_46_1 ((inv_F hI 0 1000 rfl e_46_2)) i28; omega
      have n40g : (s37.2.2.1 102 4).toInt ≤ (s37.2.2.1 46 4).toInt := by have b0 : u_102_4 = s37.2.2.1 102 4 := fr_F (e_102_4) hF37 rfl; have b1 : u_46_4 = s37.2.2.1 46 4 := fr_F (e_46_4) hF37 rfl; rw [← b0, ← b1]; exact n40f
      have n40h : (u_46_4).toInt - (u_102_4).toInt ≤ (u_46_4).toInt - (u_102_4).toInt := by exact Int.le_refl _
      have n40i : (s.2.2.1 46 4).toInt - (s.2.2.1 102 4).toInt ≤ (s37.2.2.1 46 4).toInt - (s37.2.2.1 102 4).toInt := by have b0 : u_46_4 = s37.2.2.1 46 4 := fr_F (e_46_4) hF37 rfl; have b1 : u_102_4 = s37.2.2.1 102 4 := fr_F (e_102_4) hF37 rfl; first | (rw [← b0, ← b1, ← e_46_4, ← e_102_4]; exact n40h) | (rw [← b0, ← b1]; exact n40h)
      exact g_ireturn (gd rfl) rfl (nb01 (in_w 0 1 i37 rfl)) (hP _ _ ⟨s37, hI37, (fr_tr rfl fr_rf hF37), n40c, n40e, n40g, n40i, z37, rfl, rfl, in_w 0 1 i37 rfl, n40, n40a⟩)

def fm_136_1_46 : FM := ([3, 4, 5, 6, 7, 8, 30, 31], [], [(2, 0), (2, 1), (2, 2), (2, 3), (30, 0), (46, 2), (46, 3), (46, 4), (46, 5), (46, 6), (46, 7)], [])
def fm_134_1_32 : FM := ([33, 34, 35, 36, 37, 38], [], [(32, 0), (32, 1), (32, 2), (32, 3), (32, 4)], [])
def fm_217_0 : FM := ([33, 34, 35, 36, 37, 38], [], [(0, 2), (32, 0), (32, 1), (32, 2), (32, 3), (32, 4)], [])
def fm_135_1_46 : FM := ([3, 4, 5, 6, 7, 8, 17, 18, 19, 20, 21, 22, 30, 31], [], [(2, 0), (2, 1), (2, 2), (2, 3), (2, 4), (16, 0), (16, 1), (16, 2), (16, 3), (16, 4), (30, 0), (46, 2), (46, 3), (46, 4), (46, 5), (46, 6), (46, 7)], [])
def fm_225_0 : FM := ([3, 4, 5, 6, 7, 8, 17, 18, 19, 20, 21, 22, 30, 31], [], [(2, 0), (2, 1), (2, 2), (2, 3), (2, 4), (16, 0), (16, 1), (16, 2), (16, 3), (16, 4), (30, 0), (46, 2), (46, 3), (46, 4), (46, 5), (46, 6), (46, 7)], [])
def fm_46_60_9 : FM := ([61, 63], [], [(60, 7)], [])
def fm_47_60_9 : FM := ([61, 63], [], [(60, 7)], [])
theorem k_47_60_9_r {Z : AmZ} {A : Nat → Nat} {ex : va_W} (kk : Nat) (ihF : ∀ {s : GS} {d : Nat} {X : AmX} {x2 : Int32} {x3 : Int32}, 40 + kk * 10 ≤ d → Inv s → (In x3 0 33) → 33 - (x3).toInt < ((kk : Nat) : Int) → GC Z d 46 [.ref (A 60), .ref (A 9), .int x2, .int x3] (WW Z A s ++ ex) 0 0 (fun v u => ∃ t : GS, Inv t ∧ Fr fm_46_60_9 s t ∧ ∃ z : Int32, v = some (.int z) ∧ u = WW Z A t ++ ex ∧ In z 0 1) X) : ∀ {s : GS} {d : Nat} {X : AmX} {x2 : Int32} {x3 : Int32}, 45 + kk * 10 ≤ d → Inv s → (In x3 0 32) → (x2.toInt ≠ 0) → 33 - (x3).toInt < ((kk + 1 : Nat) : Int) → GC Z d 47 [.ref (A 60), .ref (A 9), .int x2, .int x3] (WW Z A s ++ ex) 0 0 (fun v u => ∃ t : GS, Inv t ∧ Fr fm_47_60_9 s t ∧ ∃ z : Int32, v = some (.int z) ∧ u = WW Z A t ++ ex ∧ In z 0 1) X := by
  intro s d X x2 x3 hd hI h3 nza_2 hm
  intro post xp hP hX
  obtain ⟨u_60_3, e_60_3⟩ : ∃ w, w = s.2.2.1 60 3 := ⟨_, rfl⟩
  have ro_60_3 := inv_F hI 0 32 rfl e_60_3
  have ct27 : ∀ (k27 : Nat) (sc27 : GS) (y27_4 : Int32) (y27_5 : Int32) (y27_6 : Int32) (y27_7 : Int32) (y27_8 : Int32), Inv sc27 → Fr fm_47_60_9 s sc27 → (In y27_4 0 31) → (In y27_7 0 1) → (In y27_8 0 32) → 32 - (y27_8).toInt < (k27 : Int) → GG Z (d - 1) 47 post (gx xp) (1 + k27 * 900) 27 (fun j => xlook j [(0, .ref (A 60)), (1, .ref (A 9)), (2, .int x2), (3, .int x3), (4, .int y27_4), (5, .int y27_5), (6, .int y27_6), (7, .int y27_7), (8, .int y27_8)]) [] (WW Z A sc27 ++ ex) 0 0 := by
    intro k27
    induction k27 with
    | zero => intro sc27 y27_4 y27_5 y27_6 y27_7 y27_8 hIc27 hFc27 j27_4 j27_7 j27_8 mm27; exact m_no mm27 j27_8 rfl
    | succ k27 ih27 =>
      intro sc27 y27_4 y27_5 y27_6 y27_7 y27_8 hIc27 hFc27 j27_4 j27_7 j27_8 mm27
      refine gg_w (M := 1 + k27 * 900 + 900) gws ?_
      refine g_iload 29 (gd rfl) rfl rfl ?_
      refine g_aload_n 30 (gd rfl) rfl rfl ?_
      refine g_getI 33 (gd rfl) rfl rfl rfl (fun z30 e30 => ?_)
      have q30 : u_60_3 = z30 := (fr_F e_60_3 hFc27 rfl).trans e30.symm
      subst q30
      refine g_cmp_ge 36 139 (gd rfl) rfl rfl (fun c33 => ?_) (fun c33 => ?_)
      · skip
        refine g_iconst 0 140 (gd rfl) rfl rfl ?_
        exact g_ireturn (gd rfl) rfl (nb01 (in_w 0 1 (in_c 0 rfl) rfl)) (hP _ _ ⟨sc27, hIc27, hFc27, (Int32.ofInt 0), rfl, rfl, in_w 0 1 (in_c 0 rfl) rfl⟩)
      · skip
        have i33 := r_lt1 0 31 c33 j27_8 ro_60_3 rfl
        have i33a := r_lt2 1 32 c33 j27_8 ro_60_3 rfl
        refine g_aload_n 37 (gd rfl) rfl rfl ?_
        refine g_getA (q2 := 61) 40 (gd rfl) rfl rfl rfl rfl ?_
        refine g_iload 42 (gd rfl) rfl rfl ?_
        refine g_iaload 43 (gd rfl) rfl (n := 32) rfl (in_ix i33 rfl) (fun z42 e42 => ?_)
        refine g_iload 45 (gd rfl) rfl rfl ?_
        refine g_iand 46 (gd rfl) rfl (fun z45 e45 => ?_)
        refine g_if_ne 49 53 (gd rfl) rfl rfl (fun c46 => ?_) (fun c46 => ?_)
        · skip
          refine g_iconst 0 54 (gd rfl) rfl rfl ?_
          refine g_istore 56 (gd rfl) rfl (Nat.le_of_ble_eq_true rfl) ?_
          refine g_aload_n 57 (gd rfl) rfl rfl ?_
          refine g_getA (q2 := 61) 60 (gd rfl) rfl rfl rfl rfl ?_
          refine g_iload 62 (gd rfl) rfl rfl ?_
          refine g_iaload 63 (gd rfl) rfl (n := 32) rfl (in_ix i33 rfl) (fun z62 e62 => ?_)
          have q62 : z42 = z62 := (e42).trans e62.symm
          subst q62
          refine g_aload_n 64 (gd rfl) rfl rfl ?_
          refine g_iload 66 (gd rfl) rfl rfl ?_
          refine g_iaload 67 (gd rfl) rfl (n := 32) rfl (in_ix j27_4 rfl) (fun z66 e66 => ?_)
          refine g_iand 68 (gd rfl) rfl (fun z67 e67 => ?_)
          refine g_if_ne 71 133 (gd rfl) rfl rfl (fun c68 => ?_) (fun c68 => ?_)
          · skip
            refine g_iinc 136 (gd rfl) rfl rfl (Nat.le_of_ble_eq_true rfl) (fun z133 e133 => ?_)
            have i133 := in_add 1 32 e133 i33 (in_c 1 rfl) rfl rfl
            refine g_goto 27 (gd rfl) rfl ?_
            exact gg_w (by first | exact Nat.le_add_right _ _ | exact gw2 | exact gw3 | exact gwe rfl | exact gwf rfl | exact gwg rfl | exact gwh rfl | omega) (gg_f (gf_cons rfl (gf_cons rfl (gf_cons rfl (gf_cons rfl (gf_cons rfl (gf_cons rfl (gf_cons rfl (gf_cons rfl (gf_cons rfl gf_nil))))))))) (ih27 sc27 y27_4 y27_5 y27_6 y27_7 z133 hIc27 hFc27 (in_w 0 31 j27_4 rfl) (in_w 0 1 j27_7 rfl) (in_w 0 32 i133 rfl) (m_up mm27 (t_add e133 i33 (in_c 1 rfl) rfl) (in_w 1 1 (in_c 1 rfl) rfl))))
          · skip
            have i68 := z_eq 0 0 c68 (i_rng z67) rfl
            refine g_iload 73 (gd rfl) rfl rfl ?_
            refine g_if_eq 76 81 (gd rfl) rfl rfl (fun c73 => ?_) (fun c73 => ?_)
            · skip
              refine g_iload 83 (gd rfl) rfl rfl ?_
              refine g_iload 85 (gd rfl) rfl rfl ?_
              refine g_ior 86 (gd rfl) rfl (fun z85 e85 => ?_)
              have i85 := in_or 1 e85 (in_w 0 1 j27_7 rfl) (in_w 0 1 (in_c 0 rfl) rfl) rfl
              refine g_istore 88 (gd rfl) rfl (Nat.le_of_ble_eq_true rfl) ?_
              refine g_aload_n 89 (gd rfl) rfl rfl ?_
              refine g_getA (q2 := 61) 92 (gd rfl) rfl rfl rfl rfl ?_
              refine g_iload 94 (gd rfl) rfl rfl ?_
              refine g_dup2 95 (gd rfl) rfl rfl rfl ?_
              refine g_iaload 96 (gd rfl) rfl (n := 32) rfl (in_ix i33 rfl) (fun z95 e95 => ?_)
              have q95 : z42 = z95 := (e42).trans e95.symm
              subst q95
              refine g_iload 98 (gd rfl) rfl rfl ?_
              refine g_ior 99 (gd rfl) rfl (fun z98 e98 => ?_)
              refine g_iastore 100 (gd rfl) rfl (n := 32) rfl (in_ix i33 rfl) ?_
              have hI99 := inv_sI (q := 61) (j := y27_8.toNatClampNeg) hIc27 rfl (in_w (-2147483648) 2147483647 (i_rng z98) rfl)
              refine g_aload_n 101 (gd rfl) rfl rfl ?_
              refine g_aload_n 102 (gd rfl) rfl rfl ?_
              refine g_iload_n 103 (gd rfl) rfl rfl ?_
              refine g_iload 105 (gd rfl) rfl rfl ?_
              refine g_iconst (-1) 106 (gd rfl) rfl rfl ?_
              refine g_ixor 107 (gd rfl) rfl (fun z106 e106 => ?_)
              refine g_iand 108 (gd rfl) rfl (fun z107 e107 => ?_)
              refine g_iload_n 109 (gd rfl) rfl rfl ?_
              refine g_iconst 1 110 (gd rfl) rfl rfl ?_
              refine g_iadd 111 (gd rfl) rfl (fun z110 e110 => ?_)
              have i110 := in_add 1 33 e110 h3 (in_c 1 rfl) rfl rfl
              have n111 : 33 - (z110).toInt < ((kk : Nat) : Int) := by have a0 := oa8 h3 i33a i33 j27_7 j27_4 ((in_c 0 rfl)) i85 i110; have a8 := t_add e110 h3 (in_c 1 rfl) rfl; have a9 := in_u ((in_c 1 rfl)); omega
              refine g_callv (X := _) (As := [.ref (A 9), .int z107, .int z110]) (r := []) (b := A 60) (q := 60) 114 (gd rfl) rfl rfl rfl rfl rfl (ww_o rfl) (Nat.le_of_ble_eq_true rfl) (Nat.zero_le _) (Nat.zero_le _) (ihF (by omega) hI99 (in_w 0 33 i110 rfl) n111) (fun e u h => h) (fun v u h => ?_)
              obtain ⟨s111, hI111, hF111, z111, rfl, rfl, i111⟩ := h
              show GG _ _ _ _ _ _ _ _ [.int z111] _ _ _
              refine g_if_eq 117 119 (gd rfl) rfl rfl (fun c114 => ?_) (fun c114 => ?_)
              · skip
                have i114 := z_eq 0 0 c114 i111 rfl
                refine g_aload_n 120 (gd rfl) rfl rfl ?_
                refine g_getA (q2 := 61) 123 (gd rfl) rfl rfl rfl rfl ?_
                refine g_iload 125 (gd rfl) rfl rfl ?_
                refine g_dup2 126 (gd rfl) rfl rfl rfl ?_
                refine g_iaload 127 (gd rfl) rfl (n := 32) rfl (in_ix i33 rfl) (fun z126 e126 => ?_)
                refine g_iload 129 (gd rfl) rfl rfl ?_
                refine g_iconst (-1) 130 (gd rfl) rfl rfl ?_
                refine g_ixor 131 (gd rfl) rfl (fun z130 e130 => ?_)
                refine g_iand 132 (gd rfl) rfl (fun z131 e131 => ?_)
                refine g_iastore 133 (gd rfl) rfl (n := 32) rfl (in_ix i33 rfl) ?_
                have hI132 := inv_sI (q := 61) (j := y27_8.toNatClampNeg) hI111 rfl (in_w (-2147483648) 2147483647 (i_rng z131) rfl)
                refine g_iinc 136 (gd rfl) rfl rfl (Nat.le_of_ble_eq_true rfl) (fun z133 e133 => ?_)
                have i133 := in_add 1 32 e133 i33 (in_c 1 rfl) rfl rfl
                refine g_goto 27 (gd rfl) rfl ?_
                exact gg_w (by first | exact Nat.le_add_right _ _ | exact gw2 | exact gw3 | exact gwe rfl | exact gwf rfl | exact gwg rfl | exact gwh rfl | omega) (gg_f (gf_cons rfl (gf_cons rfl (gf_cons rfl (gf_cons rfl (gf_cons rfl (gf_cons rfl (gf_cons rfl (gf_cons rfl (gf_cons rfl gf_nil))))))))) (ih27 (sI s111 61 y27_8.toNatClampNeg z131) y27_4 y27_5 y27_6 z85 z133 hI132 (fr_sI rfl (fr_tr rfl (fr_sI rfl hFc27) hF111)) (in_w 0 31 j27_4 rfl) (in_w 0 1 i85 rfl) (in_w 0 32 i133 rfl) (m_up mm27 (t_add e133 i33 (in_c 1 rfl) rfl) (in_w 1 1 (in_c 1 rfl) rfl))))
              · skip
                have i114 := z_ne 1 1 c114 i111 rfl
                refine g_iconst 1 118 (gd rfl) rfl rfl ?_
                exact g_ireturn (gd rfl) rfl (nb01 (in_w 0 1 (in_c 1 rfl) rfl)) (hP _ _ ⟨s111, hI111, (fr_tr rfl (fr_sI rfl hFc27) hF111), (Int32.ofInt 1), rfl, rfl, in_w 0 1 (in_c 1 rfl) rfl⟩)
            · skip
              exact zn_ne c73 (in_c 0 rfl) rfl
        · skip
          have i46 := z_eq 0 0 c46 (i_rng z45) rfl
          refine g_iconst 1 50 (gd rfl) rfl rfl ?_
          refine g_goto 54 (gd rfl) rfl ?_
          refine g_istore 56 (gd rfl) rfl (Nat.le_of_ble_eq_true rfl) ?_
          refine g_aload_n 57 (gd rfl) rfl rfl ?_
          refine g_getA (q2 := 61) 60 (gd rfl) rfl rfl rfl rfl ?_
          refine g_iload 62 (gd rfl) rfl rfl ?_
          refine g_iaload 63 (gd rfl) rfl (n := 32) rfl (in_ix i33 rfl) (fun z62 e62 => ?_)
          have q62 : z42 = z62 := (e42).trans e62.symm
          subst q62
          refine g_aload_n 64 (gd rfl) rfl rfl ?_
          refine g_iload 66 (gd rfl) rfl rfl ?_
          refine g_iaload 67 (gd rfl) rfl (n := 32) rfl (in_ix j27_4 rfl) (fun z66 e66 => ?_)
          refine g_iand 68 (gd rfl) rfl (fun z67 e67 => ?_)
          refine g_if_ne 71 133 (gd rfl) rfl rfl (fun c68 => ?_) (fun c68 => ?_)
          · skip
            refine g_iinc 136 (gd rfl) rfl rfl (Nat.le_of_ble_eq_true rfl) (fun z133 e133 => ?_)
            have i133 := in_add 1 32 e133 i33 (in_c 1 rfl) rfl rfl
            refine g_goto 27 (gd rfl) rfl ?_
            exact gg_w (by first | exact Nat.le_add_right _ _ | exact gw2 | exact gw3 | exact gwe rfl | exact gwf rfl | exact gwg rfl | exact gwh rfl | omega) (gg_f (gf_cons rfl (gf_cons rfl (gf_cons rfl (gf_cons rfl (gf_cons rfl (gf_cons rfl (gf_cons rfl (gf_cons rfl (gf_cons rfl gf_nil))))))))) (ih27 sc27 y27_4 y27_5 y27_6 y27_7 z133 hIc27 hFc27 (in_w 0 31 j27_4 rfl) (in_w 0 1 j27_7 rfl) (in_w 0 32 i133 rfl) (m_up mm27 (t_add e133 i33 (in_c 1 rfl) rfl) (in_w 1 1 (in_c 1 rfl) rfl))))
          · skip
            have i68 := z_eq 0 0 c68 (i_rng z67) rfl
            refine g_iload 73 (gd rfl) rfl rfl ?_
            refine g_if_eq 76 81 (gd rfl) rfl rfl (fun c73 => ?_) (fun c73 => ?_)
            · skip
              exact zn_eq c73 (in_c 1 rfl) rfl
            · skip
              refine g_iload 78 (gd rfl) rfl rfl ?_
              refine g_if_ne 81 133 (gd rfl) rfl rfl (fun c78 => ?_) (fun c78 => ?_)
              · skip
                have i78 := z_ne 1 1 c78 j27_7 rfl
                refine g_iinc 136 (gd rfl) rfl rfl (Nat.le_of_ble_eq_true rfl) (fun z133 e133 => ?_)
                have i133 := in_add 1 32 e133 i33 (in_c 1 rfl) rfl rfl
                refine g_goto 27 (gd rfl) rfl ?_
                exact gg_w (by first | exact Nat.le_add_right _ _ | exact gw2 | exact gw3 | exact gwe rfl | exact gwf rfl | exact gwg rfl | exact gwh rfl | omega) (gg_f (gf_cons rfl (gf_cons rfl (gf_cons rfl (gf_cons rfl (gf_cons rfl (gf_cons rfl (gf_cons rfl (gf_cons rfl (gf_cons rfl gf_nil))))))))) (ih27 sc27 y27_4 y27_5 y27_6 y27_7 z133 hIc27 hFc27 (in_w 0 31 j27_4 rfl) (in_w 0 1 i78 rfl) (in_w 0 32 i133 rfl) (m_up mm27 (t_add e133 i33 (in_c 1 rfl) rfl) (in_w 1 1 (in_c 1 rfl) rfl))))
              · skip
                have i78 := z_eq 0 0 c78 j27_7 rfl
                refine g_iload 83 (gd rfl) rfl rfl ?_
                refine g_iload 85 (gd rfl) rfl rfl ?_
                refine g_ior 86 (gd rfl) rfl (fun z85 e85 => ?_)
                have i85 := in_or 1 e85 (in_w 0 1 i78 rfl) (in_w 0 1 (in_c 1 rfl) rfl) rfl
                refine g_istore 88 (gd rfl) rfl (Nat.le_of_ble_eq_true rfl) ?_
                refine g_aload_n 89 (gd rfl) rfl rfl ?_
                refine g_getA (q2 := 61) 92 (gd rfl) rfl rfl rfl rfl ?_
                refine g_iload 94 (gd rfl) rfl rfl ?_
                refine g_dup2 95 (gd rfl) rfl rfl rfl ?_
                refine g_iaload 96 (gd rfl) rfl (n := 32) rfl (in_ix i33 rfl) (fun z95 e95 => ?_)
                have q95 : z42 = z95 := (e42).trans e95.symm
                subst q95
                refine g_iload 98 (gd rfl) rfl rfl ?_
                refine g_ior 99 (gd rfl) rfl (fun z98 e98 => ?_)
                refine g_iastore 100 (gd rfl) rfl (n := 32) rfl (in_ix i33 rfl) ?_
                have hI99 := inv_sI (q := 61) (j := y27_8.toNatClampNeg) hIc27 rfl (in_w (-2147483648) 2147483647 (i_rng z98) rfl)
                refine g_aload_n 101 (gd rfl) rfl rfl ?_
                refine g_aload_n 102 (gd rfl) rfl rfl ?_
                refine g_iload_n 103 (gd rfl) rfl rfl ?_
                refine g_iload 105 (gd rfl) rfl rfl ?_
                refine g_iconst (-1) 106 (gd rfl) rfl rfl ?_
                refine g_ixor 107 (gd rfl) rfl (fun z106 e106 => ?_)
                refine g_iand 108 (gd rfl) rfl (fun z107 e107 => ?_)
                refine g_iload_n 109 (gd rfl) rfl rfl ?_
                refine g_iconst 1 110 (gd rfl) rfl rfl ?_
                refine g_iadd 111 (gd rfl) rfl (fun z110 e110 => ?_)
                have i110 := in_add 1 33 e110 h3 (in_c 1 rfl) rfl rfl
                have n111 : 33 - (z110).toInt < ((kk : Nat) : Int) := by have a0 := oa8 h3 i33a i33 i78 j27_4 ((in_c 1 rfl)) i85 i110; have a8 := t_add e110 h3 (in_c 1 rfl) rfl; omega
                refine g_callv (X := _) (As := [.ref (A 9), .int z107, .int z110]) (r := []) (b := A 60) (q := 60) 114 (gd rfl) rfl rfl rfl rfl rfl (ww_o rfl) (Nat.le_of_ble_eq_true rfl) (Nat.zero_le _) (Nat.zero_le _) (ihF (by omega) hI99 (in_w 0 33 i110 rfl) n111) (fun e u h => h) (fun v u h => ?_)
                obtain ⟨s111, hI111, hF111, z111, rfl, rfl, i111⟩ := h
                show GG _ _ _ _ _ _ _ _ [.int z111] _ _ _
                refine g_if_eq 117 119 (gd rfl) rfl rfl (fun c114 => ?_) (fun c114 => ?_)
                · skip
                  have i114 := z_eq 0 0 c114 i111 rfl
                  refine g_aload_n 120 (gd rfl) rfl rfl ?_
                  refine g_getA (q2 := 61) 123 (gd rfl) rfl rfl rfl rfl ?_
                  refine g_iload 125 (gd rfl) rfl rfl ?_
                  refine g_dup2 126 (gd rfl) rfl rfl rfl ?_
                  refine g_iaload 127 (gd rfl) rfl (n := 32) rfl (in_ix i33 rfl) (fun z126 e126 => ?_)
                  refine g_iload 129 (gd rfl) rfl rfl ?_
                  refine g_iconst (-1) 130 (gd rfl) rfl rfl ?_
                  refine g_ixor 131 (gd rfl) rfl (fun z130 e130 => ?_)
                  refine g_iand 132 (gd rfl) rfl (fun z131 e131 => ?_)
                  refine g_iastore 133 (gd rfl) rfl (n := 32) rfl (in_ix i33 rfl) ?_
                  have hI132 := inv_sI (q := 61) (j := y27_8.toNatClampNeg) hI111 rfl (in_w (-2147483648) 2147483647 (i_rng z131) rfl)
                  refine g_iinc 136 (gd rfl) rfl rfl (Nat.le_of_ble_eq_true rfl) (fun z133 e133 => ?_)
                  have i133 := in_add 1 32 e133 i33 (in_c 1 rfl) rfl rfl
                  refine g_goto 27 (gd rfl) rfl ?_
                  exact gg_w (by first | exact Nat.le_add_right _ _ | exact gw2 | exact gw3 | exact gwe rfl | exact gwf rfl | exact gwg rfl | exact gwh rfl | omega) (gg_f (gf_cons rfl (gf_cons rfl (gf_cons rfl (gf_cons rfl (gf_cons rfl (gf_cons rfl (gf_cons rfl (gf_cons rfl (gf_cons rfl gf_nil))))))))) (ih27 (sI s111 61 y27_8.toNatClampNeg z131) y27_4 y27_5 y27_6 z85 z133 hI132 (fr_sI rfl (fr_tr rfl (fr_sI rfl hFc27) hF111)) (in_w 0 31 j27_4 rfl) (in_w 0 1 i85 rfl) (in_w 0 32 i133 rfl) (m_up mm27 (t_add e133 i33 (in_c 1 rfl) rfl) (in_w 1 1 (in_c 1 rfl) rfl))))
                · skip
                  have i114 := z_ne 1 1 c114 i111 rfl
                  refine g_iconst 1 118 (gd rfl) rfl rfl ?_
                  exact g_ireturn (gd rfl) rfl (nb01 (in_w 0 1 (in_c 1 rfl) rfl)) (hP _ _ ⟨s111, hI111, (fr_tr rfl (fr_sI rfl hFc27) hF111), (Int32.ofInt 1), rfl, rfl, in_w 0 1 (in_c 1 rfl) rfl⟩)
  refine g_enter2 (k := 47) (N := 30601) (by first | exact dq1 hd rfl | exact dq0 hd rfl | exact dq2 hd rfl | exact dq3 hd rfl | omega) rfl (Nat.le_of_ble_eq_true rfl) ?_
  refine g_aload_n 1 (gd rfl) rfl rfl ?_
  refine g_aload_n 2 (gd rfl) rfl rfl ?_
  refine g_iload_n 3 (gd rfl) rfl rfl ?_
  refine g_callv (X := _) (As := [.ref (A 9), .int x2]) (r := []) (b := A 60) (q := 60) 6 (gd rfl) rfl rfl rfl rfl rfl (ww_o rfl) (Nat.le_of_ble_eq_true rfl) (Nat.zero_le _) (Nat.zero_le _) (k_52_60_9 (by first | exact dq1 hd rfl | exact dq0 hd rfl | exact dq2 hd rfl | exact dq3 hd rfl | omega) hI nza_2) (fun e u h => h) (fun v u h => ?_)
  obtain ⟨z3, rfl, rfl, i3⟩ := h
  show GG _ _ _ _ _ _ _ _ [.int z3] _ _ _
  refine g_istore 8 (gd rfl) rfl (Nat.le_of_ble_eq_true rfl) ?_
  refine g_iconst 1 9 (gd rfl) rfl rfl ?_
  refine g_iload 11 (gd rfl) rfl rfl ?_
  refine g_ishl 12 (gd rfl) rfl (fun z11 e11 => ?_)
  refine g_istore 14 (gd rfl) rfl (Nat.le_of_ble_eq_true rfl) ?_
  refine g_aload_n 15 (gd rfl) rfl rfl ?_
  refine g_iload_n 16 (gd rfl) rfl rfl ?_
  refine g_calls (As := [.ref (A 9), .int x2]) (r := []) 19 (gd rfl) rfl rfl rfl rfl rfl (Nat.le_of_ble_eq_true rfl) (Nat.zero_le _) (Nat.zero_le _) (k_48_9 (by first | exact dq1 hd rfl | exact dq0 hd rfl | exact dq2 hd rfl | exact dq3 hd rfl | omega) hI ) (fun v u h => ?_)
  obtain ⟨z16, rfl, rfl, i16⟩ := h
  show GG _ _ _ _ _ _ _ _ [.int z16] _ _ _
  refine g_istore 21 (gd rfl) rfl (Nat.le_of_ble_eq_true rfl) ?_
  refine g_iconst 0 22 (gd rfl) rfl rfl ?_
  refine g_istore 24 (gd rfl) rfl (Nat.le_of_ble_eq_true rfl) ?_
  refine g_iconst 0 25 (gd rfl) rfl rfl ?_
  refine g_istore 27 (gd rfl) rfl (Nat.le_of_ble_eq_true rfl) ?_
  exact gg_w (by first | exact Nat.le_of_ble_eq_true rfl | omega) (gg_f (gf_cons rfl (gf_cons rfl (gf_cons rfl (gf_cons rfl (gf_cons rfl (gf_cons rfl (gf_cons rfl (gf_cons rfl (gf_cons rfl gf_nil))))))))) (ct27 33 s z3 z11 z16 (Int32.ofInt 0) (Int32.ofInt 0) hI fr_rf (in_w 0 31 i3 rfl) (in_w 0 1 (in_c 0 rfl) rfl) (in_w 0 32 (in_c 0 rfl) rfl) (m_in 33 (in_w 0 32 (in_c 0 rfl) rfl) rfl)))
theorem k_46_60_9_r {Z : AmZ} {A : Nat → Nat} {ex : va_W} (kk : Nat) : ∀ {s : GS} {d : Nat} {X : AmX} {x2 : Int32} {x3 : Int32}, 40 + kk * 10 ≤ d → Inv s → (In x3 0 33) → 33 - (x3).toInt < ((kk : Nat) : Int) → GC Z d 46 [.ref (A 60), .ref (A 9), .int x2, .int x3] (WW Z A s ++ ex) 0 0 (fun v u => ∃ t : GS, Inv t ∧ Fr fm_46_60_9 s t ∧ ∃ z : Int32, v = some (.int z) ∧ u = WW Z A t ++ ex ∧ In z 0 1) X := by
  induction kk with
  | zero => intro s d X x2 x3 hd hI h3 hm; exact m_no hm h3 rfl
  | succ kk ih =>
    have ihP : ∀ {s : GS} {d : Nat} {X : AmX} {x2 : Int32} {x3 : Int32}, 45 + kk * 10 ≤ d → Inv s → (In x3 0 32) → (x2.toInt ≠ 0) → 33 - (x3).toInt < ((kk + 1 : Nat) : Int) → GC Z d 47 [.ref (A 60), .ref (A 9), .int x2, .int x3] (WW Z A s ++ ex) 0 0 (fun v u => ∃ t : GS, Inv t ∧ Fr fm_47_60_9 s t ∧ ∃ z : Int32, v = some (.int z) ∧ u = WW Z A t ++ ex ∧ In z 0 1) X := k_47_60_9_r kk ih
    intro s d X x2 x3 hd hI h3 hm
    intro post xp hP hX
    obtain ⟨u_60_3, e_60_3⟩ : ∃ w, w = s.2.2.1 60 3 := ⟨_, rfl⟩
    have ro_60_3 := inv_F hI 0 32 rfl e_60_3
    have ct65 : ∀ (k65 : Nat) (sc65 : GS) (y65_4 : Int32) (y65_5 : Int32) (y65_6 : Int32) (y65_7 : Int32) (y65_8 : Int32), Inv sc65 → Fr fm_46_60_9 s sc65 → (In x3 0 32) → (In y65_4 0 32) → (In y65_6 0 31) → (In y65_8 0 32) → ((y65_5).toInt ≠ 0) → 32 - (y65_8).toInt < (k65 : Int) → GG Z (d - 1) 46 post (gx xp) (1 + k65 * 900) 65 (fun j => xlook j [(0, .ref (A 60)), (1, .ref (A 9)), (2, .int x2), (3, .int x3), (4, .int y65_4), (5, .int y65_5), (6, .int y65_6), (7, .int y65_7), (8, .int y65_8)]) [] (WW Z A sc65 ++ ex) 0 0 := by
      intro k65
      induction k65 with
      | zero => intro sc65 y65_4 y65_5 y65_6 y65_7 y65_8 hIc65 hFc65 j65_3 j65_4 j65_6 j65_8 nz65_5 mm65; exact m_no mm65 j65_8 rfl
      | succ k65 ih65 =>
        intro sc65 y65_4 y65_5 y65_6 y65_7 y65_8 hIc65 hFc65 j65_3 j65_4 j65_6 j65_8 nz65_5 mm65
        refine gg_w (M := 1 + k65 * 900 + 900) gws ?_
        refine g_iload 67 (gd rfl) rfl rfl ?_
        refine g_aload_n 68 (gd rfl) rfl rfl ?_
        refine g_getI 71 (gd rfl) rfl rfl rfl (fun z68 e68 => ?_)
        have q68 : u_60_3 = z68 := (fr_F e_60_3 hFc65 rfl).trans e68.symm
        subst q68
        refine g_cmp_ge 74 93 (gd rfl) rfl rfl (fun c71 => ?_) (fun c71 => ?_)
        · skip
          refine g_aload_n 94 (gd rfl) rfl rfl ?_
          refine g_iload 96 (gd rfl) rfl rfl ?_
          refine g_putI 99 (gd rfl) rfl rfl rfl rfl ?_
          have hI96 := inv_sF (q := 60) (j := 7) hIc65 rfl (in_w 0 32 j65_4 rfl)
          refine g_iconst 0 100 (gd rfl) rfl rfl ?_
          exact g_ireturn (gd rfl) rfl (nb01 (in_w 0 1 (in_c 0 rfl) rfl)) (hP _ _ ⟨(sF sc65 60 7 y65_4), hI96, (fr_sF rfl hFc65), (Int32.ofInt 0), rfl, rfl, in_w 0 1 (in_c 0 rfl) rfl⟩)
        · skip
          have i71 := r_lt1 0 31 c71 j65_8 ro_60_3 rfl
          have i71a := r_lt2 1 32 c71 j65_8 ro_60_3 rfl
          refine g_aload_n 75 (gd rfl) rfl rfl ?_
          refine g_getA (q2 := 61) 78 (gd rfl) rfl rfl rfl rfl ?_
          refine g_iload 80 (gd rfl) rfl rfl ?_
          refine g_dup2 81 (gd rfl) rfl rfl rfl ?_
          refine g_iaload 82 (gd rfl) rfl (n := 32) rfl (in_ix i71 rfl) (fun z81 e81 => ?_)
          refine g_iload_n 83 (gd rfl) rfl rfl ?_
          refine g_iconst (-1) 84 (gd rfl) rfl rfl ?_
          refine g_ixor 85 (gd rfl) rfl (fun z84 e84 => ?_)
          refine g_iand 86 (gd rfl) rfl (fun z85 e85 => ?_)
          refine g_iastore 87 (gd rfl) rfl (n := 32) rfl (in_ix i71 rfl) ?_
          have hI86 := inv_sI (q := 61) (j := y65_8.toNatClampNeg) hIc65 rfl (in_w (-2147483648) 2147483647 (i_rng z85) rfl)
          refine g_iinc 90 (gd rfl) rfl rfl (Nat.le_of_ble_eq_true rfl) (fun z87 e87 => ?_)
          have i87 := in_add 1 32 e87 i71 (in_c 1 rfl) rfl rfl
          refine g_goto 65 (gd rfl) rfl ?_
          exact gg_w (by first | exact Nat.le_add_right _ _ | exact gw2 | exact gw3 | exact gwe rfl | exact gwf rfl | exact gwg rfl | exact gwh rfl | omega) (gg_f (gf_cons rfl (gf_cons rfl (gf_cons rfl (gf_cons rfl (gf_cons rfl (gf_cons rfl (gf_cons rfl (gf_cons rfl (gf_cons rfl gf_nil))))))))) (ih65 (sI sc65 61 y65_8.toNatClampNeg z85) y65_4 y65_5 y65_6 y65_7 z87 hI86 (fr_sI rfl hFc65) (in_w 0 32 j65_3 rfl) (in_w 0 32 j65_4 rfl) (in_w 0 31 j65_6 rfl) (in_w 0 32 i87 rfl) nz65_5 (m_up mm65 (t_add e87 i71 (in_c 1 rfl) rfl) (in_w 1 1 (in_c 1 rfl) rfl))))
    have ct25 : ∀ (k25 : Nat) (sc25 : GS) (y25_4 : Int32) (y25_5 : Int32) (y25_6 : Int32), Inv sc25 → Fr fm_46_60_9 s sc25 → (In x3 0 32) → (In y25_4 0 32) → (In y25_6 0 32) → 32 - (y25_6).toInt < (k25 : Int) → GG Z (d - 1) 46 post (gx xp) (29702 + k25 * 900) 25 (fun j => xlook j [(0, .ref (A 60)), (1, .ref (A 9)), (2, .int x2), (3, .int x3), (4, .int y25_4), (5, .int y25_5), (6, .int y25_6)]) [] (WW Z A sc25 ++ ex) 0 0 := by
      intro k25
      induction k25 with
      | zero => intro sc25 y25_4 y25_5 y25_6 hIc25 hFc25 j25_3 j25_4 j25_6 mm25; exact m_no mm25 j25_6 rfl
      | succ k25 ih25 =>
        intro sc25 y25_4 y25_5 y25_6 hIc25 hFc25 j25_3 j25_4 j25_6 mm25
        refine gg_w (M := 29702 + k25 * 900 + 900) gws ?_
        refine g_iload 27 (gd rfl) rfl rfl ?_
        refine g_bipush 32 29 (gd rfl) rfl rfl ?_
        refine g_cmp_ge 32 116 (gd rfl) rfl rfl (fun c29 => ?_) (fun c29 => ?_)
        · skip
          have i29 := r_le2 32 32 c29 (in_c 32 rfl) j25_6 rfl
          refine g_aload_n 117 (gd rfl) rfl rfl ?_
          refine g_aload_n 118 (gd rfl) rfl rfl ?_
          refine g_iload 120 (gd rfl) rfl rfl ?_
          refine g_callv (X := _) (As := [.ref (A 9), .int y25_4]) (r := []) (b := A 60) (q := 60) 123 (gd rfl) rfl rfl rfl rfl rfl (ww_o rfl) (Nat.le_of_ble_eq_true rfl) (Nat.zero_le _) (Nat.zero_le _) (k_50_60_9 (by first | exact dq1 hd rfl | exact dq0 hd rfl | exact dq2 hd rfl | exact dq3 hd rfl | omega) hIc25 (in_w 0 32 j25_4 rfl)) (fun e u h => h) (fun v u h => ?_)
          obtain ⟨s120, hI120, hF120, rfl, rfl⟩ := h
          show GG _ _ _ _ _ _ _ _ [] _ _ _
          refine g_iconst 1 124 (gd rfl) rfl rfl ?_
          exact g_ireturn (gd rfl) rfl (nb01 (in_w 0 1 (in_c 1 rfl) rfl)) (hP _ _ ⟨s120, hI120, (fr_tr rfl hFc25 hF120), (Int32.ofInt 1), rfl, rfl, in_w 0 1 (in_c 1 rfl) rfl⟩)
        · skip
          have i29 := r_lt1 0 31 c29 j25_6 (in_c 32 rfl) rfl
          refine g_iload 34 (gd rfl) rfl rfl ?_
          refine g_if_eq 37 116 (gd rfl) rfl rfl (fun c34 => ?_) (fun c34 => ?_)
          · skip
            have i34 := z_eq 0 0 c34 (i_rng y25_5) rfl
            refine g_aload_n 117 (gd rfl) rfl rfl ?_
            refine g_aload_n 118 (gd rfl) rfl rfl ?_
            refine g_iload 120 (gd rfl) rfl rfl ?_
            refine g_callv (X := _) (As := [.ref (A 9), .int y25_4]) (r := []) (b := A 60) (q := 60) 123 (gd rfl) rfl rfl rfl rfl rfl (ww_o rfl) (Nat.le_of_ble_eq_true rfl) (Nat.zero_le _) (Nat.zero_le _) (k_50_60_9 (by first | exact dq1 hd rfl | exact dq0 hd rfl | exact dq2 hd rfl | exact dq3 hd rfl | omega) hIc25 (in_w 0 32 j25_4 rfl)) (fun e u h => h) (fun v u h => ?_)
            obtain ⟨s120, hI120, hF120, rfl, rfl⟩ := h
            show GG _ _ _ _ _ _ _ _ [] _ _ _
            refine g_iconst 1 124 (gd rfl) rfl rfl ?_
            exact g_ireturn (gd rfl) rfl (nb01 (in_w 0 1 (in_c 1 rfl) rfl)) (hP _ _ ⟨s120, hI120, (fr_tr rfl hFc25 hF120), (Int32.ofInt 1), rfl, rfl, in_w 0 1 (in_c 1 rfl) rfl⟩)
          · skip
            refine g_aload_n 38 (gd rfl) rfl rfl ?_
            refine g_iload 40 (gd rfl) rfl rfl ?_
            refine g_iload 42 (gd rfl) rfl rfl ?_
            refine g_ineg 43 (gd rfl) rfl (fun z42 e42 => ?_)
            refine g_iand 44 (gd rfl) rfl (fun z43 e43 => ?_)
            refine g_iload 46 (gd rfl) rfl rfl ?_
            refine g_calls (As := [.ref (A 9), .int z43, .int y25_5]) (r := []) 49 (gd rfl) rfl rfl rfl rfl rfl (Nat.le_of_ble_eq_true rfl) (Nat.zero_le _) (Nat.zero_le _) (k_266_9 (by first | exact dq1 hd rfl | exact dq0 hd rfl | exact dq2 hd rfl | exact dq3 hd rfl | omega) hIc25 ) (fun v u h => ?_)
            obtain ⟨z46, rfl, rfl, i46, p46⟩ := h
            show GG _ _ _ _ _ _ _ _ [.int z46] _ _ _
            refine g_istore 51 (gd rfl) rfl (Nat.le_of_ble_eq_true rfl) ?_
            refine g_aload_n 52 (gd rfl) rfl rfl ?_
            refine g_aload_n 53 (gd rfl) rfl rfl ?_
            refine g_iload 55 (gd rfl) rfl rfl ?_
            refine g_iload_n 56 (gd rfl) rfl rfl ?_
            have nz56 : (z46).toInt ≠ 0 := by obtain ⟨k, hk⟩ := lsb_bit c34 e42 e43; exact bt_nz (p46 k hk)
            have n56 : 33 - (x3).toInt < ((kk + 1 : Nat) : Int) := by have a0 := oa4 j25_3 ro_60_3 i29 j25_4; omega
            refine g_callv (X := _) (As := [.ref (A 9), .int z46, .int x3]) (r := []) (b := A 60) (q := 60) 59 (gd rfl) rfl rfl rfl rfl rfl (ww_o rfl) (Nat.le_of_ble_eq_true rfl) (Nat.zero_le _) (Nat.zero_le _) (ihP (by omega) hIc25 (in_w 0 32 j25_3 rfl) nz56 n56) (fun e u h => h) (fun v u h => ?_)
            obtain ⟨s56, hI56, hF56, z56, rfl, rfl, i56⟩ := h
            show GG _ _ _ _ _ _ _ _ [.int z56] _ _ _
            refine g_if_ne 62 101 (gd rfl) rfl rfl (fun c59 => ?_) (fun c59 => ?_)
            · skip
              have i59 := z_ne 1 1 c59 i56 rfl
              refine g_iload 103 (gd rfl) rfl rfl ?_
              refine g_iload 105 (gd rfl) rfl rfl ?_
              refine g_iconst (-1) 106 (gd rfl) rfl rfl ?_
              refine g_ixor 107 (gd rfl) rfl (fun z106 e106 => ?_)
              refine g_iand 108 (gd rfl) rfl (fun z107 e107 => ?_)
              refine g_istore 110 (gd rfl) rfl (Nat.le_of_ble_eq_true rfl) ?_
              refine g_iinc 113 (gd rfl) rfl rfl (Nat.le_of_ble_eq_true rfl) (fun z110 e110 => ?_)
              have i110 := in_add 1 32 e110 i29 (in_c 1 rfl) rfl rfl
              refine g_goto 25 (gd rfl) rfl ?_
              exact gg_w (by first | exact Nat.le_add_right _ _ | exact gw2 | exact gw3 | exact gwe rfl | exact gwf rfl | exact gwg rfl | exact gwh rfl | omega) (gg_f (gf_cons rfl (gf_cons rfl (gf_cons rfl (gf_cons rfl (gf_cons rfl (gf_cons rfl (gf_cons rfl gf_nil))))))) (ih25 s56 y25_4 z107 z110 hI56 (fr_tr rfl hFc25 hF56) (in_w 0 32 j25_3 rfl) (in_w 0 32 j25_4 rfl) (in_w 0 32 i110 rfl) (m_up mm25 (t_add e110 i29 (in_c 1 rfl) rfl) (in_w 1 1 (in_c 1 rfl) rfl))))
            · skip
              have i59 := z_eq 0 0 c59 i56 rfl
              refine g_iconst 0 63 (gd rfl) rfl rfl ?_
              refine g_istore 65 (gd rfl) rfl (Nat.le_of_ble_eq_true rfl) ?_
              exact gg_w (by first | exact Nat.le_add_right _ _ | exact gw2 | exact gw3 | exact gwe rfl | exact gwf rfl | exact gwg rfl | exact gwh rfl | omega) (gg_f (gf_cons rfl (gf_cons rfl (gf_cons rfl (gf_cons rfl (gf_cons rfl (gf_cons rfl (gf_cons rfl (gf_cons rfl (gf_cons rfl gf_nil))))))))) (ct65 33 s56 y25_4 y25_5 y25_6 z46 (Int32.ofInt 0) hI56 (fr_tr rfl hFc25 hF56) (in_w 0 32 j25_3 rfl) (in_w 0 32 j25_4 rfl) (in_w 0 31 i29 rfl) (in_w 0 32 (in_c 0 rfl) rfl) c34 (m_in 33 (in_w 0 32 (in_c 0 rfl) rfl) rfl)))
    refine g_enter2 (k := 46) (N := 60302) (by first | exact dq1 hd rfl | exact dq0 hd rfl | exact dq2 hd rfl | exact dq3 hd rfl | omega) rfl (Nat.le_of_ble_eq_true rfl) ?_
    refine g_iload_n 1 (gd rfl) rfl rfl ?_
    refine g_bipush 32 3 (gd rfl) rfl rfl ?_
    refine g_cmp_le 6 8 (gd rfl) rfl rfl (fun c3 => ?_) (fun c3 => ?_)
    · skip
      have i3 := r_le1 0 32 c3 h3 (in_c 32 rfl) rfl
      refine g_aload_n 9 (gd rfl) rfl rfl ?_
      refine g_getI 12 (gd rfl) rfl rfl rfl (fun z9 e9 => ?_)
      have i9 := inv_F hI 0 32 rfl e9
      refine g_istore 14 (gd rfl) rfl (Nat.le_of_ble_eq_true rfl) ?_
      refine g_aload_n 15 (gd rfl) rfl rfl ?_
      refine g_aload_n 16 (gd rfl) rfl rfl ?_
      refine g_iload_n 17 (gd rfl) rfl rfl ?_
      refine g_callv (X := _) (As := [.ref (A 9), .int x2]) (r := []) (b := A 60) (q := 60) 20 (gd rfl) rfl rfl rfl rfl rfl (ww_o rfl) (Nat.le_of_ble_eq_true rfl) (Nat.zero_le _) (Nat.zero_le _) (k_49_60_9 (by first | exact dq1 hd rfl | exact dq0 hd rfl | exact dq2 hd rfl | exact dq3 hd rfl | omega) hI ) (fun e u h => h) (fun v u h => ?_)
      obtain ⟨s17, hI17, hF17, z17, rfl, rfl, i17⟩ := h
      show GG _ _ _ _ _ _ _ _ [.int z17] _ _ _
      refine g_istore 22 (gd rfl) rfl (Nat.le_of_ble_eq_true rfl) ?_
      refine g_iconst 0 23 (gd rfl) rfl rfl ?_
      refine g_istore 25 (gd rfl) rfl (Nat.le_of_ble_eq_true rfl) ?_
      exact gg_w (by first | exact Nat.le_of_ble_eq_true rfl | omega) (gg_f (gf_cons rfl (gf_cons rfl (gf_cons rfl (gf_cons rfl (gf_cons rfl (gf_cons rfl (gf_cons rfl gf_nil))))))) (ct25 33 s17 z9 z17 (Int32.ofInt 0) hI17 (fr_tr rfl fr_rf hF17) (in_w 0 32 i3 rfl) (in_w 0 32 i9 rfl) (in_w 0 32 (in_c 0 rfl) rfl) (m_in 33 (in_w 0 32 (in_c 0 rfl) rfl) rfl)))
    · skip
      have i3 := r_lt2 33 33 c3 (in_c 32 rfl) h3 rfl
      refine g_iconst 0 7 (gd rfl) rfl rfl ?_
      exact g_ireturn (gd rfl) rfl (nb01 (in_w 0 1 (in_c 0 rfl) rfl)) (hP _ _ ⟨s, hI, fr_rf, (Int32.ofInt 0), rfl, rfl, in_w 0 1 (in_c 0 rfl) rfl⟩)
theorem k_46_60_9 {Z : AmZ} {A : Nat → Nat} {s : GS} {ex : va_W} {d : Nat} {X : AmX} {x2 : Int32} {x3 : Int32} (hd : 380 ≤ d) (hI : Inv s) (h3 : (In x3 0 33)) : GC Z d 46 [.ref (A 60), .ref (A 9), .int x2, .int x3] (WW Z A s ++ ex) 0 0 (fun v u => ∃ t : GS, Inv t ∧ Fr fm_46_60_9 s t ∧ ∃ z : Int32, v = some (.int z) ∧ u = WW Z A t ++ ex ∧ In z 0 1) X := k_46_60_9_r 34 (by omega) hI h3 (m_in 34 h3 rfl)

def fm_46_60_39 : FM := ([61, 63], [], [(60, 7)], [])
def fm_47_60_39 : FM := ([61, 63], [], [(60, 7)], [])
theorem k_47_60_39_r {Z : AmZ} {A : Nat → Nat} {ex : va_W} (kk : Nat) (ihF : ∀ {s : GS} {d : Nat} {X : AmX} {x2 : Int32} {x3 : Int32}, 40 + kk * 10 ≤ d → Inv s → (In x3 0 33) → 33 - (x3).toInt < ((kk : Nat) : Int) → GC Z d 46 [.ref (A 60), .ref (A 39), .int x2, .int x3] (WW Z A s ++ ex) 0 0 (fun v u => ∃ t : GS, Inv t ∧ Fr fm_46_60_39 s t ∧ ∃ z : Int32, v = some (.int z) ∧ u = WW Z A t ++ ex ∧ In z 0 1) X) : ∀ {s : GS} {d : Nat} {X : AmX} {x2 : Int32} {x3 : Int32}, 45 + kk * 10 ≤ d → Inv s → (In x3 0 32) → (x2.toInt ≠ 0) → 33 - (x3).toInt < ((kk + 1 : Nat) : Int) → GC Z d 47 [.ref (A 60), .ref (A 39), .int x2, .int x3] (WW Z A s ++ ex) 0 0 (fun v u => ∃ t : GS, Inv t ∧ Fr fm_47_60_39 s t ∧ ∃ z : Int32, v = some (.int z) ∧ u = WW Z A t ++ ex ∧ In z 0 1) X := by
  intro s d X x2 x3 hd hI h3 nza_2 hm
  intro post xp hP hX
  obtain ⟨u_60_3, e_60_3⟩ : ∃ w, w = s.2.2.1 60 3 := ⟨_, rfl⟩
  have ro_60_3 := inv_F hI 0 32 rfl e_60_3
  have ct27 : ∀ (k27 : Nat) (sc27 : GS) (y27_4 : Int32) (y27_5 : Int32) (y27_6 : Int32) (y27_7 : Int32) (y27_8 : Int32), Inv sc27 → Fr fm_47_60_39 s sc27 → (In y27_4 0 31) → (In y27_7 0 1) → (In y27_8 0 32) → 32 - (y27_8).toInt < (k27 : Int) → GG Z (d - 1) 47 post (gx xp) (1 + k27 * 900) 27 (fun j => xlook j [(0, .ref (A 60)), (1, .ref (A 39)), (2, .int x2), (3, .int x3), (4, .int y27_4), (5, .int y27_5), (6, .int y27_6), (7, .int y27_7), (8, .int y27_8)]) [] (WW Z A sc27 ++ ex) 0 0 := by
    intro k27
    induction k27 with
    | zero => intro sc27 y27_4 y27_5 y27_6 y27_7 y27_8 hIc27 hFc27 j27_4 j27_7 j27_8 mm27; exact m_no mm27 j27_8 rfl
    | succ k27 ih27 =>
      intro sc27 y27_4 y27_5 y27_6 y27_7 y27_8 hIc27 hFc27 j27_4 j27_7 j27_8 mm27
      refine gg_w (M := 1 + k27 * 900 + 900) gws ?_
      refine g_iload 29 (gd rfl) rfl rfl ?_
      refine g_aload_n 30 (gd rfl) rfl rfl ?_
      refine g_getI 33 (gd rfl) rfl rfl rfl (fun z30 e30 => ?_)
      have q30 : u_60_3 = z30 := (fr_F e_60_3 hFc27 rfl).trans e30.symm
      subst q30
      refine g_cmp_ge 36 139 (gd rfl) rfl rfl (fun c33 => ?_) (fun c33 => ?_)
      · skip
        refine g_iconst 0 140 (gd rfl) rfl rfl ?_
        exact g_ireturn (gd rfl) rfl (nb01 (in_w 0 1 (in_c 0 rfl) rfl)) (hP _ _ ⟨sc27, hIc27, hFc27, (Int32.ofInt 0), rfl, rfl, in_w 0 1 (in_c 0 rfl) rfl⟩)
      · skip
        have i33 := r_lt1 0 31 c33 j27_8 ro_60_3 rfl
        have i33a := r_lt2 1 32 c33 j27_8 ro_60_3 rfl
        refine g_aload_n 37 (gd rfl) rfl rfl ?_
        refine g_getA (q2 := 61) 40 (gd rfl) rfl rfl rfl rfl ?_
        refine g_iload 42 (gd rfl) rfl rfl ?_
        refine g_iaload 43 (gd rfl) rfl (n := 32) rfl (in_ix i33 rfl) (fun z42 e42 => ?_)
        refine g_iload 45 (gd rfl) rfl rfl ?_
        refine g_iand 46 (gd rfl) rfl (fun z45 e45 => ?_)
        refine g_if_ne 49 53 (gd rfl) rfl rfl (fun c46 => ?_) (fun c46 => ?_)
        · skip
          refine g_iconst 0 54 (gd rfl) rfl rfl ?_
          refine g_istore 56 (gd rfl) rfl (Nat.le_of_ble_eq_true rfl) ?_
          refine g_aload_n 57 (gd rfl) rfl rfl ?_
          refine g_getA (q2 := 61) 60 (gd rfl) rfl rfl rfl rfl ?_
          refine g_iload 62 (gd rfl) rfl rfl ?_
          refine g_iaload 63 (gd rfl) rfl (n := 32) rfl (in_ix i33 rfl) (fun z62 e62 => ?_)
          have q62 : z42 = z62 := (e42).trans e62.symm
          subst q62
          refine g_aload_n 64 (gd rfl) rfl rfl ?_
          refine g_iload 66 (gd rfl) rfl rfl ?_
          refine g_iaload 67 (gd rfl) rfl (n := 32) rfl (in_ix j27_4 rfl) (fun z66 e66 => ?_)
          refine g_iand 68 (gd rfl) rfl (fun z67 e67 => ?_)
          refine g_if_ne 71 133 (gd rfl) rfl rfl (fun c68 => ?_) (fun c68 => ?_)
          · skip
            refine g_iinc 136 (gd rfl) rfl rfl (Nat.le_of_ble_eq_true rfl) (fun z133 e133 => ?_)
            have i133 := in_add 1 32 e133 i33 (in_c 1 rfl) rfl rfl
            refine g_goto 27 (gd rfl) rfl ?_
            exact gg_w (by first | exact Nat.le_add_right _ _ | exact gw2 | exact gw3 | exact gwe rfl | exact gwf rfl | exact gwg rfl | exact gwh rfl | omega) (gg_f (gf_cons rfl (gf_cons rfl (gf_cons rfl (gf_cons rfl (gf_cons rfl (gf_cons rfl (gf_cons rfl (gf_cons rfl (gf_cons rfl gf_nil))))))))) (ih27 sc27 y27_4 y27_5 y27_6 y27_7 z133 hIc27 hFc27 (in_w 0 31 j27_4 rfl) (in_w 0 1 j27_7 rfl) (in_w 0 32 i133 rfl) (m_up mm27 (t_add e133 i33 (in_c 1 rfl) rfl) (in_w 1 1 (in_c 1 rfl) rfl))))
          · skip
            have i68 := z_eq 0 0 c68 (i_rng z67) rfl
            refine g_iload 73 (gd rfl) rfl rfl ?_
            refine g_if_eq 76 81 (gd rfl) rfl rfl (fun c73 => ?_) (fun c73 => ?_)
            · skip
              refine g_iload 83 (gd rfl) rfl rfl ?_
              refine g_iload 85 (gd rfl) rfl rfl ?_
              refine g_ior 86 (gd rfl) rfl (fun z85 e85 => ?_)
              have i85 := in_or 1 e85 (in_w 0 1 j27_7 rfl) (in_w 0 1 (in_c 0 rfl) rfl) rfl
              refine g_istore 88 (gd rfl) rfl (Nat.le_of_ble_eq_true rfl) ?_
              refine g_aload_n 89 (gd rfl) rfl rfl ?_
              refine g_getA (q2 := 61) 92 (gd rfl) rfl rfl rfl rfl ?_
              refine g_iload 94 (gd rfl) rfl rfl ?_
              refine g_dup2 95 (gd rfl) rfl rfl rfl ?_
              refine g_iaload 96 (gd rfl) rfl (n := 32) rfl (in_ix i33 rfl) (fun z95 e95 => ?_)
              have q95 : z42 = z95 := (e42).trans e95.symm
              subst q95
              refine g_iload 98 (gd rfl) rfl rfl ?_
              refine g_ior 99 (gd rfl) rfl (fun z98 e98 => ?_)
              refine g_iastore 100 (gd rfl) rfl (n := 32) rfl (in_ix i33 rfl) ?_
              have hI99 := inv_sI (q := 61) (j := y27_8.toNatClampNeg) hIc27 rfl (in_w (-2147483648) 2147483647 (i_rng z98) rfl)
              refine g_aload_n 101 (gd rfl) rfl rfl ?_
              refine g_aload_n 102 (gd rfl) rfl rfl ?_
              refine g_iload_n 103 (gd rfl) rfl rfl ?_
              refine g_iload 105 (gd rfl) rfl rfl ?_
              refine g_iconst (-1) 106 (gd rfl) rfl rfl ?_
              refine g_ixor 107 (gd rfl) rfl (fun z106 e106 => ?_)
              refine g_iand 108 (gd rfl) rfl (fun z107 e107 => ?_)
              refine g_iload_n 109 (gd rfl) rfl rfl ?_
              refine g_iconst 1 110 (gd rfl) rfl rfl ?_
              refine g_iadd 111 (gd rfl) rfl (fun z110 e110 => ?_)
              have i110 := in_add 1 33 e110 h3 (in_c 1 rfl) rfl rfl
              have n111 : 33 - (z110).toInt < ((kk : Nat) : Int) := by have a0 := oa8 h3 i33a i33 j27_7 j27_4 ((in_c 0 rfl)) i85 i110; have a8 := t_add e110 h3 (in_c 1 rfl) rfl; have a9 := in_u ((in_c 1 rfl)); omega
              refine g_callv (X := _) (As := [.ref (A 39), .int z107, .int z110]) (r := []) (b := A 60) (q := 60) 114 (gd rfl) rfl rfl rfl rfl rfl (ww_o rfl) (Nat.le_of_ble_eq_true rfl) (Nat.zero_le _) (Nat.zero_le _) (ihF (by omega) hI99 (in_w 0 33 i110 rfl) n111) (fun e u h => h) (fun v u h => ?_)
              obtain ⟨s111, hI111, hF111, z111, rfl, rfl, i111⟩ := h
              show GG _ _ _ _ _ _ _ _ [.int z111] _ _ _
              refine g_if_eq 117 119 (gd rfl) rfl rfl (fun c114 => ?_) (fun c114 => ?_)
              · skip
                have i114 := z_eq 0 0 c114 i111 rfl
                refine g_aload_n 120 (gd rfl) rfl rfl ?_
                refine g_getA (q2 := 61) 123 (gd rfl) rfl rfl rfl rfl ?_
                refine g_iload 125 (gd rfl) rfl rfl ?_
                refine g_dup2 126 (gd rfl) rfl rfl rfl ?_
                refine g_iaload 127 (gd rfl) rfl (n := 32) rfl (in_ix i33 rfl) (fun z126 e126 => ?_)
                refine g_iload 129 (gd rfl) rfl rfl ?_
                refine g_iconst (-1) 130 (gd rfl) rfl rfl ?_
                refine g_ixor 131 (gd rfl) rfl (fun z130 e130 => ?_)
                refine g_iand 132 (gd rfl) rfl (fun z131 e131 => ?_)
                refine g_iastore 133 (gd rfl) rfl (n := 32) rfl (in_ix i33 rfl) ?_
                have hI132 := inv_sI (q := 61) (j := y27_8.toNatClampNeg) hI111 rfl (in_w (-2147483648) 2147483647 (i_rng z131) rfl)
                refine g_iinc 136 (gd rfl) rfl rfl (Nat.le_of_ble_eq_true rfl) (fun z133 e133 => ?_)
                have i133 := in_add 1 32 e133 i33 (in_c 1 rfl) rfl rfl
                refine g_goto 27 (gd rfl) rfl ?_
                exact gg_w (by first | exact Nat.le_add_right _ _ | exact gw2 | exact gw3 | exact gwe rfl | exact gwf rfl | exact gwg rfl | exact gwh rfl | omega) (gg_f (gf_cons rfl (gf_cons rfl (gf_cons rfl (gf_cons rfl (gf_cons rfl (gf_cons rfl (gf_cons rfl (gf_cons rfl (gf_cons rfl gf_nil))))))))) (ih27 (sI s111 61 y27_8.toNatClampNeg z131) y27_4 y27_5 y27_6 z85 z133 hI132 (fr_sI rfl (fr_tr rfl (fr_sI rfl hFc27) hF111)) (in_w 0 31 j27_4 rfl) (in_w 0 1 i85 rfl) (in_w 0 32 i133 rfl) (m_up mm27 (t_add e133 i33 (in_c 1 rfl) rfl) (in_w 1 1 (in_c 1 rfl) rfl))))
              · skip
                have i114 := z_ne 1 1 c114 i111 rfl
                refine g_iconst 1 118 (gd rfl) rfl rfl ?_
                exact g_ireturn (gd rfl) rfl (nb01 (in_w 0 1 (in_c 1 rfl) rfl)) (hP _ _ ⟨s111, hI111, (fr_tr rfl (fr_sI rfl hFc27) hF111), (Int32.ofInt 1), rfl, rfl, in_w 0 1 (in_c 1 rfl) rfl⟩)
            · skip
              exact zn_ne c73 (in_c 0 rfl) rfl
        · skip
          have i46 := z_eq 0 0 c46 (i_rng z45) rfl
          refine g_iconst 1 50 (gd rfl) rfl rfl ?_
          refine g_goto 54 (gd rfl) rfl ?_
          refine g_istore 56 (gd rfl) rfl (Nat.le_of_ble_eq_true rfl) ?_
          refine g_aload_n 57 (gd rfl) rfl rfl ?_
          refine g_getA (q2 := 61) 60 (gd rfl) rfl rfl rfl rfl ?_
          refine g_iload 62 (gd rfl) rfl rfl ?_
          refine g_iaload 63 (gd rfl) rfl (n := 32) rfl (in_ix i33 rfl) (fun z62 e62 => ?_)
          have q62 : z42 = z62 := (e42).trans e62.symm
          subst q62
          refine g_aload_n 64 (gd rfl) rfl rfl ?_
          refine g_iload 66 (gd rfl) rfl rfl ?_
          refine g_iaload 67 (gd rfl) rfl (n := 32) rfl (in_ix j27_4 rfl) (fun z66 e66 => ?_)
          refine g_iand 68 (gd rfl) rfl (fun z67 e67 => ?_)
          refine g_if_ne 71 133 (gd rfl) rfl rfl (fun c68 => ?_) (fun c68 => ?_)
          · skip
            refine g_iinc 136 (gd rfl) rfl rfl (Nat.le_of_ble_eq_true rfl) (fun z133 e133 => ?_)
            have i133 := in_add 1 32 e133 i33 (in_c 1 rfl) rfl rfl
            refine g_goto 27 (gd rfl) rfl ?_
            exact gg_w (by first | exact Nat.le_add_right _ _ | exact gw2 | exact gw3 | exact gwe rfl | exact gwf rfl | exact gwg rfl | exact gwh rfl | omega) (gg_f (gf_cons rfl (gf_cons rfl (gf_cons rfl (gf_cons rfl (gf_cons rfl (gf_cons rfl (gf_cons rfl (gf_cons rfl (gf_cons rfl gf_nil))))))))) (ih27 sc27 y27_4 y27_5 y27_6 y27_7 z133 hIc27 hFc27 (in_w 0 31 j27_4 rfl) (in_w 0 1 j27_7 rfl) (in_w 0 32 i133 rfl) (m_up mm27 (t_add e133 i33 (in_c 1 rfl) rfl) (in_w 1 1 (in_c 1 rfl) rfl))))
          · skip
            have i68 := z_eq 0 0 c68 (i_rng z67) rfl
            refine g_iload 73 (gd rfl) rfl rfl ?_
            refine g_if_eq 76 81 (gd rfl) rfl rfl (fun c73 => ?_) (fun c73 => ?_)
            · skip
              exact zn_eq c73 (in_c 1 rfl) rfl
            · skip
              refine g_iload 78 (gd rfl) rfl rfl ?_
              refine g_if_ne 81 133 (gd rfl) rfl rfl (fun c78 => ?_) (fun c78 => ?_)
              · skip
                have i78 := z_ne 1 1 c78 j27_7 rfl
                refine g_iinc 136 (gd rfl) rfl rfl (Nat.le_of_ble_eq_true rfl) (fun z133 e133 => ?_)
                have i133 := in_add 1 32 e133 i33 (in_c 1 rfl) rfl rfl
                refine g_goto 27 (gd rfl) rfl ?_
                exact gg_w (by first | exact Nat.le_add_right _ _ | exact gw2 | exact gw3 | exact gwe rfl | exact gwf rfl | exact gwg rfl | exact gwh rfl | omega) (gg_f (gf_cons rfl (gf_cons rfl (gf_cons rfl (gf_cons rfl (gf_cons rfl (gf_cons rfl (gf_cons rfl (gf_cons rfl (gf_cons rfl gf_nil))))))))) (ih27 sc27 y27_4 y27_5 y27_6 y27_7 z133 hIc27 hFc27 (in_w 0 31 j27_4 rfl) (in_w 0 1 i78 rfl) (in_w 0 32 i133 rfl) (m_up mm27 (t_add e133 i33 (in_c 1 rfl) rfl) (in_w 1 1 (in_c 1 rfl) rfl))))
              · skip
                have i78 := z_eq 0 0 c78 j27_7 rfl
                refine g_iload 83 (gd rfl) rfl rfl ?_
                refine g_iload 85 (gd rfl) rfl rfl ?_
                refine g_ior 86 (gd rfl) rfl (fun z85 e85 => ?_)
                have i85 := in_or 1 e85 (in_w 0 1 i78 rfl) (in_w 0 1 (in_c 1 rfl) rfl) rfl
                refine g_istore 88 (gd rfl) rfl (Nat.le_of_ble_eq_true rfl) ?_
                refine g_aload_n 89 (gd rfl) rfl rfl ?_
                refine g_getA (q2 := 61) 92 (gd rfl) rfl rfl rfl rfl ?_
                refine g_iload 94 (gd rfl) rfl rfl ?_
                refine g_dup2 95 (gd rfl) rfl rfl rfl ?_
                refine g_iaload 96 (gd rfl) rfl (n := 32) rfl (in_ix i33 rfl) (fun z95 e95 => ?_)
                have q95 : z42 = z95 := (e42).trans e95.symm
                subst q95
                refine g_iload 98 (gd rfl) rfl rfl ?_
                refine g_ior 99 (gd rfl) rfl (fun z98 e98 => ?_)
                refine g_iastore 100 (gd rfl) rfl (n := 32) rfl (in_ix i33 rfl) ?_
                have hI99 := inv_sI (q := 61) (j := y27_8.toNatClampNeg) hIc27 rfl (in_w (-2147483648) 2147483647 (i_rng z98) rfl)
                refine g_aload_n 101 (gd rfl) rfl rfl ?_
                refine g_aload_n 102 (gd rfl) rfl rfl ?_
                refine g_iload_n 103 (gd rfl) rfl rfl ?_
                refine g_iload 105 (gd rfl) rfl rfl ?_
                refine g_iconst (-1) 106 (gd rfl) rfl rfl ?_
                refine g_ixor 107 (gd rfl) rfl (fun z106 e106 => ?_)
                refine g_iand 108 (gd rfl) rfl (fun z107 e107 => ?_)
                refine g_iload_n 109 (gd rfl) rfl rfl ?_
                refine g_iconst 1 110 (gd rfl) rfl rfl ?_
                refine g_iadd 111 (gd rfl) rfl (fun z110 e110 => ?_)
                have i110 := in_add 1 33 e110 h3 (in_c 1 rfl) rfl rfl
                have n111 : 33 - (z110).toInt < ((kk : Nat) : Int) := by have a0 := oa8 h3 i33a i33 i78 j27_4 ((in_c 1 rfl)) i85 i110; have a8 := t_add e110 h3 (in_c 1 rfl) rfl; omega
                refine g_callv (X := _) (As := [.ref (A 39), .int z107, .int z110]) (r := []) (b := A 60) (q := 60) 114 (gd rfl) rfl rfl rfl rfl rfl (ww_o rfl) (Nat.le_of_ble_eq_true rfl) (Nat.zero_le _) (Nat.zero_le _) (ihF (by omega) hI99 (in_w 0 33 i110 rfl) n111) (fun e u h => h) (fun v u h => ?_)
                obtain ⟨s111, hI111, hF111, z111, rfl, rfl, i111⟩ := h
                show GG _ _ _ _ _ _ _ _ [.int z111] _ _ _
                refine g_if_eq 117 119 (gd rfl) rfl rfl (fun c114 => ?_) (fun c114 => ?_)
                · skip
                  have i114 := z_eq 0 0 c114 i111 rfl
                  refine g_aload_n 120 (gd rfl) rfl rfl ?_
                  refine g_getA (q2 := 61) 123 (gd rfl) rfl rfl rfl rfl ?_
                  refine g_iload 125 (gd rfl) rfl rfl ?_
                  refine g_dup2 126 (gd rfl) rfl rfl rfl ?_
                  refine g_iaload 127 (gd rfl) rfl (n := 32) rfl (in_ix i33 rfl) (fun z126 e126 => ?_)
                  refine g_iload 129 (gd rfl) rfl rfl ?_
                  refine g_iconst (-1) 130 (gd rfl) rfl rfl ?_
                  refine g_ixor 131 (gd rfl) rfl (fun z130 e130 => ?_)
                  refine g_iand 132 (gd rfl) rfl (fun z131 e131 => ?_)
                  refine g_iastore 133 (gd rfl) rfl (n := 32) rfl (in_ix i33 rfl) ?_
                  have hI132 := inv_sI (q := 61) (j := y27_8.toNatClampNeg) hI111 rfl (in_w (-2147483648) 2147483647 (i_rng z131) rfl)
                  refine g_iinc 136 (gd rfl) rfl rfl (Nat.le_of_ble_eq_true rfl) (fun z133 e133 => ?_)
                  have i133 := in_add 1 32 e133 i33 (in_c 1 rfl) rfl rfl
                  refine g_goto 27 (gd rfl) rfl ?_
                  exact gg_w (by first | exact Nat.le_add_right _ _ | exact gw2 | exact gw3 | exact gwe rfl | exact gwf rfl | exact gwg rfl | exact gwh rfl | omega) (gg_f (gf_cons rfl (gf_cons rfl (gf_cons rfl (gf_cons rfl (gf_cons rfl (gf_cons rfl (gf_cons rfl (gf_cons rfl (gf_cons rfl gf_nil))))))))) (ih27 (sI s111 61 y27_8.toNatClampNeg z131) y27_4 y27_5 y27_6 z85 z133 hI132 (fr_sI rfl (fr_tr rfl (fr_sI rfl hFc27) hF111)) (in_w 0 31 j27_4 rfl) (in_w 0 1 i85 rfl) (in_w 0 32 i133 rfl) (m_up mm27 (t_add e133 i33 (in_c 1 rfl) rfl) (in_w 1 1 (in_c 1 rfl) rfl))))
                · skip
                  have i114 := z_ne 1 1 c114 i111 rfl
                  refine g_iconst 1 118 (gd rfl) rfl rfl ?_
                  exact g_ireturn (gd rfl) rfl (nb01 (in_w 0 1 (in_c 1 rfl) rfl)) (hP _ _ ⟨s111, hI111, (fr_tr rfl (fr_sI rfl hFc27) hF111), (Int32.ofInt 1), rfl, rfl, in_w 0 1 (in_c 1 rfl) rfl⟩)
  refine g_enter2 (k := 47) (N := 30601) (by first | exact dq1 hd rfl | exact dq0 hd rfl | exact dq2 hd rfl | exact dq3 hd rfl | omega) rfl (Nat.le_of_ble_eq_true rfl) ?_
  refine g_aload_n 1 (gd rfl) rfl rfl ?_
  refine g_aload_n 2 (gd rfl) rfl rfl ?_
  refine g_iload_n 3 (gd rfl) rfl rfl ?_
  refine g_callv (X := _) (As := [.ref (A 39), .int x2]) (r := []) (b := A 60) (q := 60) 6 (gd rfl) rfl rfl rfl rfl rfl (ww_o rfl) (Nat.le_of_ble_eq_true rfl) (Nat.zero_le _) (Nat.zero_le _) (k_52_60_39 (by first | exact dq1 hd rfl | exact dq0 hd rfl | exact dq2 hd rfl | exact dq3 hd rfl | omega) hI nza_2) (fun e u h => h) (fun v u h => ?_)
  obtain ⟨z3, rfl, rfl, i3⟩ := h
  show GG _ _ _ _ _ _ _ _ [.int z3] _ _ _
  refine g_istore 8 (gd rfl) rfl (Nat.le_of_ble_eq_true rfl) ?_
  refine g_iconst 1 9 (gd rfl) rfl rfl ?_
  refine g_iload 11 (gd rfl) rfl rfl ?_
  refine g_ishl 12 (gd rfl) rfl (fun z11 e11 => ?_)
  refine g_istore 14 (gd rfl) rfl (Nat.le_of_ble_eq_true rfl) ?_
  refine g_aload_n 15 (gd rfl) rfl rfl ?_
  refine g_iload_n 16 (gd rfl) rfl rfl ?_
  refine g_calls (As := [.ref (A 39), .int x2]) (r := []) 19 (gd rfl) rfl rfl rfl rfl rfl (Nat.le_of_ble_eq_true rfl) (Nat.zero_le _) (Nat.zero_le _) (k_48_39 (by first | exact dq1 hd rfl | exact dq0 hd rfl | exact dq2 hd rfl | exact dq3 hd rfl | omega) hI ) (fun v u h => ?_)
  obtain ⟨z16, rfl, rfl, i16⟩ := h
  show GG _ _ _ _ _ _ _ _ [.int z16] _ _ _
  refine g_istore 21 (gd rfl) rfl (Nat.le_of_ble_eq_true rfl) ?_
  refine g_iconst 0 22 (gd rfl) rfl rfl ?_
  refine g_istore 24 (gd rfl) rfl (Nat.le_of_ble_eq_true rfl) ?_
  refine g_iconst 0 25 (gd rfl) rfl rfl ?_
  refine g_istore 27 (gd rfl) rfl (Nat.le_of_ble_eq_true rfl) ?_
  exact gg_w (by first | exact Nat.le_of_ble_eq_true rfl | omega) (gg_f (gf_cons rfl (gf_cons rfl (gf_cons rfl (gf_cons rfl (gf_cons rfl (gf_cons rfl (gf_cons rfl (gf_cons rfl (gf_cons rfl gf_nil))))))))) (ct27 33 s z3 z11 z16 (Int32.ofInt 0) (Int32.ofInt 0) hI fr_rf (in_w 0 31 i3 rfl) (in_w 0 1 (in_c 0 rfl) rfl) (in_w 0 32 (in_c 0 rfl) rfl) (m_in 33 (in_w 0 32 (in_c 0 rfl) rfl) rfl)))
theorem k_46_60_39_r {Z : AmZ} {A : Nat → Nat} {ex : va_W} (kk : Nat) : ∀ {s : GS} {d : Nat} {X : AmX} {x2 : Int32} {x3 : Int32}, 40 + kk * 10 ≤ d → Inv s → (In x3 0 33) → 33 - (x3).toInt < ((kk : Nat) : Int) → GC Z d 46 [.ref (A 60), .ref (A 39), .int x2, .int x3] (WW Z A s ++ ex) 0 0 (fun v u => ∃ t : GS, Inv t ∧ Fr fm_46_60_39 s t ∧ ∃ z : Int32, v = some (.int z) ∧ u = WW Z A t ++ ex ∧ In z 0 1) X := by
  induction kk with
  | zero => intro s d X x2 x3 hd hI h3 hm; exact m_no hm h3 rfl
  | succ kk ih =>
    have ihP : ∀ {s : GS} {d : Nat} {X : AmX} {x2 : Int32} {x3 : Int32}, 45 + kk * 10 ≤ d → Inv s → (In x3 0 32) → (x2.toInt ≠ 0) → 33 - (x3).toInt < ((kk + 1 : Nat) : Int) → GC Z d 47 [.ref (A 60), .ref (A 39), .int x2, .int x3] (WW Z A s ++ ex) 0 0 (fun v u => ∃ t : GS, Inv t ∧ Fr fm_47_60_39 s t ∧ ∃ z : Int32, v = some (.int z) ∧ u = WW Z A t ++ ex ∧ In z 0 1) X := k_47_60_39_r kk ih
    intro s d X x2 x3 hd hI h3 hm
    intro post xp hP hX
    obtain ⟨u_60_3, e_60_3⟩ : ∃ w, w = s.2.2.1 60 3 := ⟨_, rfl⟩
    have ro_60_3 := inv_F hI 0 32 rfl e_60_3
    have ct65 : ∀ (k65 : Nat) (sc65 : GS) (y65_4 : Int32) (y65_5 : Int32) (y65_6 : Int32) (y65_7 : Int32) (y65_8 : Int32), Inv sc65 → Fr fm_46_60_39 s sc65 → (In x3 0 32) → (In y65_4 0 32) → (In y65_6 0 31) → (In y65_8 0 32) → ((y65_5).toInt ≠ 0) → 32 - (y65_8).toInt < (k65 : Int) → GG Z (d - 1) 46 post (gx xp) (1 + k65 * 900) 65 (fun j => xlook j [(0, .ref (A 60)), (1, .ref (A 39)), (2, .int x2), (3, .int x3), (4, .int y65_4), (5, .int y65_5), (6, .int y65_6), (7, .int y65_7), (8, .int y65_8)]) [] (WW Z A sc65 ++ ex) 0 0 := by
      intro k65
      induction k65 with
      | zero => intro sc65 y65_4 y65_5 y65_6 y65_7 y65_8 hIc65 hFc65 j65_3 j65_4 j65_6 j65_8 nz65_5 mm65; exact m_no mm65 j65_8 rfl
      | succ k65 ih65 =>
        intro sc65 y65_4 y65_5 y65_6 y65_7 y65_8 hIc65 hFc65 j65_3 j65_4 j65_6 j65_8 nz65_5 mm65
        refine gg_w (M := 1 + k65 * 900 + 900) gws ?_
        refine g_iload 67 (gd rfl) rfl rfl ?_
        refine g_aload_n 68 (gd rfl) rfl rfl ?_
        refine g_getI 71 (gd rfl) rfl rfl rfl (fun z68 e68 => ?_)
        have q68 : u_60_3 = z68 := (fr_F e_60_3 hFc65 rfl).trans e68.symm
        subst q68
        refine g_cmp_ge 74 93 (gd rfl) rfl rfl (fun c71 => ?_) (fun c71 => ?_)
        · skip
          refine g_aload_n 94 (gd rfl) rfl rfl ?_
          refine g_iload 96 (gd rfl) rfl rfl ?_
          refine g_putI 99 (gd rfl) rfl rfl rfl rfl ?_
          have hI96 := inv_sF (q := 60) (j := 7) hIc65 rfl (in_w 0 32 j65_4 rfl)
          refine g_iconst 0 100 (gd rfl) rfl rfl ?_
          exact g_ireturn (gd rfl) rfl (nb01 (in_w 0 1 (in_c 0 rfl) rfl)) (hP _ _ ⟨(sF sc65 60 7 y65_4), hI96, (fr_sF rfl hFc65), (Int32.ofInt 0), rfl, rfl, in_w 0 1 (in_c 0 rfl) rfl⟩)
        · skip
          have i71 := r_lt1 0 31 c71 j65_8 ro_60_3 rfl
          have i71a := r_lt2 1 32 c71 j65_8 ro_60_3 rfl
          refine g_aload_n 75 (gd rfl) rfl rfl ?_
          refine g_getA (q2 := 61) 78 (gd rfl) rfl rfl rfl rfl ?_
          refine g_iload 80 (gd rfl) rfl rfl ?_
          refine g_dup2 81 (gd rfl) rfl rfl rfl ?_
          refine g_iaload 82 (gd rfl) rfl (n := 32) rfl (in_ix i71 rfl) (fun z81 e81 => ?_)
          refine g_iload_n 83 (gd rfl) rfl rfl ?_
          refine g_iconst (-1) 84 (gd rfl) rfl rfl ?_
          refine g_ixor 85 (gd rfl) rfl (fun z84 e84 => ?_)
          refine g_iand 86 (gd rfl) rfl (fun z85 e85 => ?_)
          refine g_iastore 87 (gd rfl) rfl (n := 32) rfl (in_ix i71 rfl) ?_
          have hI86 := inv_sI (q := 61) (j := y65_8.toNatClampNeg) hIc65 rfl (in_w (-2147483648) 2147483647 (i_rng z85) rfl)
          refine g_iinc 90 (gd rfl) rfl rfl (Nat.le_of_ble_eq_true rfl) (fun z87 e87 => ?_)
          have i87 := in_add 1 32 e87 i71 (in_c 1 rfl) rfl rfl
          refine g_goto 65 (gd rfl) rfl ?_
          exact gg_w (by first | exact Nat.le_add_right _ _ | exact gw2 | exact gw3 | exact gwe rfl | exact gwf rfl | exact gwg rfl | exact gwh rfl | omega) (gg_f (gf_cons rfl (gf_cons rfl (gf_cons rfl (gf_cons rfl (gf_cons rfl (gf_cons rfl (gf_cons rfl (gf_cons rfl (gf_cons rfl gf_nil))))))))) (ih65 (sI sc65 61 y65_8.toNatClampNeg z85) y65_4 y65_5 y65_6 y65_7 z87 hI86 (fr_sI rfl hFc65) (in_w 0 32 j65_3 rfl) (in_w 0 32 j65_4 rfl) (in_w 0 31 j65_6 rfl) (in_w 0 32 i87 rfl) nz65_5 (m_up mm65 (t_add e87 i71 (in_c 1 rfl) rfl) (in_w 1 1 (in_c 1 rfl) rfl))))
    have ct25 : ∀ (k25 : Nat) (sc25 : GS) (y25_4 : Int32) (y25_5 : Int32) (y25_6 : Int32), Inv sc25 → Fr fm_46_60_39 s sc25 → (In x3 0 32) → (In y25_4 0 32) → (In y25_6 0 32) → 32 - (y25_6).toInt < (k25 : Int) → GG Z (d - 1) 46 post (gx xp) (29702 + k25 * 900) 25 (fun j => xlook j [(0, .ref (A 60)), (1, .ref (A 39)), (2, .int x2), (3, .int x3), (4, .int y25_4), (5, .int y25_5), (6, .int y25_6)]) [] (WW Z A sc25 ++ ex) 0 0 := by
      intro k25
      induction k25 with
      | zero => intro sc25 y25_4 y25_5 y25_6 hIc25 hFc25 j25_3 j25_4 j25_6 mm25; exact m_no mm25 j25_6 rfl
      | succ k25 ih25 =>
        intro sc25 y25_4 y25_5 y25_6 hIc25 hFc25 j25_3 j25_4 j25_6 mm25
        refine gg_w (M := 29702 + k25 * 900 + 900) gws ?_
        refine g_iload 27 (gd rfl) rfl rfl ?_
        refine g_bipush 32 29 (gd rfl) rfl rfl ?_
        refine g_cmp_ge 32 116 (gd rfl) rfl rfl (fun c29 => ?_) (fun c29 => ?_)
        · skip
          have i29 := r_le2 32 32 c29 (in_c 32 rfl) j25_6 rfl
          refine g_aload_n 117 (gd rfl) rfl rfl ?_
          refine g_aload_n 118 (gd rfl) rfl rfl ?_
          refine g_iload 120 (gd rfl) rfl rfl ?_
          refine g_callv (X := _) (As := [.ref (A 39), .int y25_4]) (r := []) (b := A 60) (q := 60) 123 (gd rfl) rfl rfl rfl rfl rfl (ww_o rfl) (Nat.le_of_ble_eq_true rfl) (Nat.zero_le _) (Nat.zero_le _) (k_50_60_39 (by first | exact dq1 hd rfl | exact dq0 hd rfl | exact dq2 hd rfl | exact dq3 hd rfl | omega) hIc25 (in_w 0 32 j25_4 rfl)) (fun e u h => h) (fun v u h => ?_)
          obtain ⟨s120, hI120, hF120, rfl, rfl⟩ := h
          show GG _ _ _ _ _ _ _ _ [] _ _ _
          refine g_iconst 1 124 (gd rfl) rfl rfl ?_
          exact g_ireturn (gd rfl) rfl (nb01 (in_w 0 1 (in_c 1 rfl) rfl)) (hP _ _ ⟨s120, hI120, (fr_tr rfl hFc25 hF120), (Int32.ofInt 1), rfl, rfl, in_w 0 1 (in_c 1 rfl) rfl⟩)
        · skip
          have i29 := r_lt1 0 31 c29 j25_6 (in_c 32 rfl) rfl
          refine g_iload 34 (gd rfl) rfl rfl ?_
          refine g_if_eq 37 116 (gd rfl) rfl rfl (fun c34 => ?_) (fun c34 => ?_)
          · skip
            have i34 := z_eq 0 0 c34 (i_rng y25_5) rfl
            refine g_aload_n 117 (gd rfl) rfl rfl ?_
            refine g_aload_n 118 (gd rfl) rfl rfl ?_
            refine g_iload 120 (gd rfl) rfl rfl ?_
            refine g_callv (X := _) (As := [.ref (A 39), .int y25_4]) (r := []) (b := A 60) (q := 60) 123 (gd rfl) rfl rfl rfl rfl rfl (ww_o rfl) (Nat.le_of_ble_eq_true rfl) (Nat.zero_le _) (Nat.zero_le _) (k_50_60_39 (by first | exact dq1 hd rfl | exact dq0 hd rfl | exact dq2 hd rfl | exact dq3 hd rfl | omega) hIc25 (in_w 0 32 j25_4 rfl)) (fun e u h => h) (fun v u h => ?_)
            obtain ⟨s120, hI120, hF120, rfl, rfl⟩ := h
            show GG _ _ _ _ _ _ _ _ [] _ _ _
            refine g_iconst 1 124 (gd rfl) rfl rfl ?_
            exact g_ireturn (gd rfl) rfl (nb01 (in_w 0 1 (in_c 1 rfl) rfl)) (hP _ _ ⟨s120, hI120, (fr_tr rfl hFc25 hF120), (Int32.ofInt 1), rfl, rfl, in_w 0 1 (in_c 1 rfl) rfl⟩)
          · skip
            refine g_aload_n 38 (gd rfl) rfl rfl ?_
            refine g_iload 40 (gd rfl) rfl rfl ?_
            refine g_iload 42 (gd rfl) rfl rfl ?_
            refine g_ineg 43 (gd rfl) rfl (fun z42 e42 => ?_)
            refine g_iand 44 (gd rfl) rfl (fun z43 e43 => ?_)
            refine g_iload 46 (gd rfl) rfl rfl ?_
            refine g_calls (As := [.ref (A 39), .int z43, .int y25_5]) (r := []) 49 (gd rfl) rfl rfl rfl rfl rfl (Nat.le_of_ble_eq_true rfl) (Nat.zero_le _) (Nat.zero_le _) (k_266_39 (by first | exact dq1 hd rfl | exact dq0 hd rfl | exact dq2 hd rfl | exact dq3 hd rfl | omega) hIc25 ) (fun v u h => ?_)
            obtain ⟨z46, rfl, rfl, i46, p46⟩ := h
            show GG _ _ _ _ _ _ _ _ [.int z46] _ _ _
            refine g_istore 51 (gd rfl) rfl (Nat.le_of_ble_eq_true rfl) ?_
            refine g_aload_n 52 (gd rfl) rfl rfl ?_
            refine g_aload_n 53 (gd rfl) rfl rfl ?_
            refine g_iload 55 (gd rfl) rfl rfl ?_
            refine g_iload_n 56 (gd rfl) rfl rfl ?_
            have nz56 : (z46).toInt ≠ 0 := by obtain ⟨k, hk⟩ := lsb_bit c34 e42 e43; exact bt_nz (p46 k hk)
            have n56 : 33 - (x3).toInt < ((kk + 1 : Nat) : Int) := by have a0 := oa4 j25_3 ro_60_3 i29 j25_4; omega
            refine g_callv (X := _) (As := [.ref (A 39), .int z46, .int x3]) (r := []) (b := A 60) (q := 60) 59 (gd rfl) rfl rfl rfl rfl rfl (ww_o rfl) (Nat.le_of_ble_eq_true rfl) (Nat.zero_le _) (Nat.zero_le _) (ihP (by omega) hIc25 (in_w 0 32 j25_3 rfl) nz56 n56) (fun e u h => h) (fun v u h => ?_)
            obtain ⟨s56, hI56, hF56, z56, rfl, rfl, i56⟩ := h
            show GG _ _ _ _ _ _ _ _ [.int z56] _ _ _
            refine g_if_ne 62 101 (gd rfl) rfl rfl (fun c59 => ?_) (fun c59 => ?_)
            · skip
              have i59 := z_ne 1 1 c59 i56 rfl
              refine g_iload 103 (gd rfl) rfl rfl ?_
              refine g_iload 105 (gd rfl) rfl rfl ?_
              refine g_iconst (-1) 106 (gd rfl) rfl rfl ?_
              refine g_ixor 107 (gd rfl) rfl (fun z106 e106 => ?_)
              refine g_iand 108 (gd rfl) rfl (fun z107 e107 => ?_)
              refine g_istore 110 (gd rfl) rfl (Nat.le_of_ble_eq_true rfl) ?_
              refine g_iinc 113 (gd rfl) rfl rfl (Nat.le_of_ble_eq_true rfl) (fun z110 e110 => ?_)
              have i110 := in_add 1 32 e110 i29 (in_c 1 rfl) rfl rfl
              refine g_goto 25 (gd rfl) rfl ?_
              exact gg_w (by first | exact Nat.le_add_right _ _ | exact gw2 | exact gw3 | exact gwe rfl | exact gwf rfl | exact gwg rfl | exact gwh rfl | omega) (gg_f (gf_cons rfl (gf_cons rfl (gf_cons rfl (gf_cons rfl (gf_cons rfl (gf_cons rfl (gf_cons rfl gf_nil))))))) (ih25 s56 y25_4 z107 z110 hI56 (fr_tr rfl hFc25 hF56) (in_w 0 32 j25_3 rfl) (in_w 0 32 j25_4 rfl) (in_w 0 32 i110 rfl) (m_up mm25 (t_add e110 i29 (in_c 1 rfl) rfl) (in_w 1 1 (in_c 1 rfl) rfl))))
            · skip
              have i59 := z_eq 0 0 c59 i56 rfl
              refine g_iconst 0 63 (gd rfl) rfl rfl ?_
              refine g_istore 65 (gd rfl) rfl (Nat.le_of_ble_eq_true rfl) ?_
              exact gg_w (by first | exact Nat.le_add_right _ _ | exact gw2 | exact gw3 | exact gwe rfl | exact gwf rfl | exact gwg rfl | exact gwh rfl | omega) (gg_f (gf_cons rfl (gf_cons rfl (gf_cons rfl (gf_cons rfl (gf_cons rfl (gf_cons rfl (gf_cons rfl (gf_cons rfl (gf_cons rfl gf_nil))))))))) (ct65 33 s56 y25_4 y25_5 y25_6 z46 (Int32.ofInt 0) hI56 (fr_tr rfl hFc25 hF56) (in_w 0 32 j25_3 rfl) (in_w 0 32 j25_4 rfl) (in_w 0 31 i29 rfl) (in_w 0 32 (in_c 0 rfl) rfl) c34 (m_in 33 (in_w 0 32 (in_c 0 rfl) rfl) rfl)))
    refine g_enter2 (k := 46) (N := 60302) (by first | exact dq1 hd rfl | exact dq0 hd rfl | exact dq2 hd rfl | exact dq3 hd rfl | omega) rfl (Nat.le_of_ble_eq_true rfl) ?_
    refine g_iload_n 1 (gd rfl) rfl rfl ?_
    refine g_bipush 32 3 (gd rfl) rfl rfl ?_
    refine g_cmp_le 6 8 (gd rfl) rfl rfl (fun c3 => ?_) (fun c3 => ?_)
    · skip
      have i3 := r_le1 0 32 c3 h3 (in_c 32 rfl) rfl
      refine g_aload_n 9 (gd rfl) rfl rfl ?_
      refine g_getI 12 (gd rfl) rfl rfl rfl (fun z9 e9 => ?_)
      have i9 := inv_F hI 0 32 rfl e9
      refine g_istore 14 (gd rfl) rfl (Nat.le_of_ble_eq_true rfl) ?_
      refine g_aload_n 15 (gd rfl) rfl rfl ?_
      refine g_aload_n 16 (gd rfl) rfl rfl ?_
      refine g_iload_n 17 (gd rfl) rfl rfl ?_
      refine g_callv (X := _) (As := [.ref (A 39), .int x2]) (r := []) (b := A 60) (q := 60) 20 (gd rfl) rfl rfl rfl rfl rfl (ww_o rfl) (Nat.le_of_ble_eq_true rfl) (Nat.zero_le _) (Nat.zero_le _) (k_49_60_39 (by first | exact dq1 hd rfl | exact dq0 hd rfl | exact dq2 hd rfl | exact dq3 hd rfl | omega) hI ) (fun e u h => h) (fun v u h => ?_)
      obtain ⟨s17, hI17, hF17, z17, rfl, rfl, i17⟩ := h
      show GG _ _ _ _ _ _ _ _ [.int z17] _ _ _
      refine g_istore 22 (gd rfl) rfl (Nat.le_of_ble_eq_true rfl) ?_
      refine g_iconst 0 23 (gd rfl) rfl rfl ?_
      refine g_istore 25 (gd rfl) rfl (Nat.le_of_ble_eq_true rfl) ?_
      exact gg_w (by first | exact Nat.le_of_ble_eq_true rfl | omega) (gg_f (gf_cons rfl (gf_cons rfl (gf_cons rfl (gf_cons rfl (gf_cons rfl (gf_cons rfl (gf_cons rfl gf_nil))))))) (ct25 33 s17 z9 z17 (Int32.ofInt 0) hI17 (fr_tr rfl fr_rf hF17) (in_w 0 32 i3 rfl) (in_w 0 32 i9 rfl) (in_w 0 32 (in_c 0 rfl) rfl) (m_in 33 (in_w 0 32 (in_c 0 rfl) rfl) rfl)))
    · skip
      have i3 := r_lt2 33 33 c3 (in_c 32 rfl) h3 rfl
      refine g_iconst 0 7 (gd rfl) rfl rfl ?_
      exact g_ireturn (gd rfl) rfl (nb01 (in_w 0 1 (in_c 0 rfl) rfl)) (hP _ _ ⟨s, hI, fr_rf, (Int32.ofInt 0), rfl, rfl, in_w 0 1 (in_c 0 rfl) rfl⟩)
theorem k_46_60_39 {Z : AmZ} {A : Nat → Nat} {s : GS} {ex : va_W} {d : Nat} {X : AmX} {x2 : Int32} {x3 : Int32} (hd : 380 ≤ d) (hI : Inv s) (h3 : (In x3 0 33)) : GC Z d 46 [.ref (A 60), .ref (A 39), .int x2, .int x3] (WW Z A s ++ ex) 0 0 (fun v u => ∃ t : GS, Inv t ∧ Fr fm_46_60_39 s t ∧ ∃ z : Int32, v = some (.int z) ∧ u = WW Z A t ++ ex ∧ In z 0 1) X := k_46_60_39_r 34 (by omega) hI h3 (m_in 34 h3 rfl)

def fm_54_60_2 : FM := ([61, 62, 63], [], [(60, 7)], [])
/-- GraphHouse$Colours.canLower -/
theorem k_54_60_2 {Z : AmZ} {A : Nat → Nat} {s : GS} {ex : va_W} {d : Nat} {X : AmX} {x2 : Int32} {x3 : Int32} {x4 : Int32} (hd : 381 ≤ d) (hI : Inv s) (h2 : In x2 0 31) (h3 : In x3 0 31) (h4 : In x4 0 31) : GC Z d 54 [.ref (A 60), .ref (A 2), .int x2, .int x3, .int x4] (WW Z A s ++ ex) 0 0 (fun v u => ∃ t : GS, Inv t ∧ Fr fm_54_60_2 s t ∧ ∃ z : Int32, v = some (.int z) ∧ u = WW Z A t ++ ex ∧ In z 0 1) X := by
  intro post xp hP hX
  obtain ⟨u_2_1, e_2_1⟩ : ∃ w, w = s.2.2.1 2 1 := ⟨_, rfl⟩
  have ro_2_1 := inv_F hI 0 32 rfl e_2_1
  obtain ⟨u_60_3, e_60_3⟩ : ∃ w, w = s.2.2.1 60 3 := ⟨_, rfl⟩
  have ro_60_3 := inv_F hI 0 32 rfl e_60_3
  have ct108 : ∀ (k108 : Nat) (sc108 : GS) (y108_5 : Int32) (y108_6 : Int32) (y108_7 : Int32) (y108_8 : Int32), Inv sc108 → Fr fm_54_60_2 s sc108 → (In y108_8 0 32) → 32 - (y108_8).toInt < (k108 : Int) → GG Z (d - 1) 54 post (gx xp) (1 + k108 * 900) 108 (fun j => xlook j [(0, .ref (A 60)), (1, .ref (A 2)), (2, .int x2), (3, .int x3), (4, .int x4), (5, .int y108_5), (6, .int y108_6), (7, .int y108_7), (8, .int y108_8)]) [] (WW Z A sc108 ++ ex) 0 0 := by
    intro k108
    induction k108 with
    | zero => intro sc108 y108_5 y108_6 y108_7 y108_8 hIc108 hFc108 j108_8 mm108; exact m_no mm108 j108_8 rfl
    | succ k108 ih108 =>
      intro sc108 y108_5 y108_6 y108_7 y108_8 hIc108 hFc108 j108_8 mm108
      refine gg_w (M := 1 + k108 * 900 + 900) gws ?_
      refine g_iload 110 (gd rfl) rfl rfl ?_
      refine g_aload_n 111 (gd rfl) rfl rfl ?_
      refine g_getI 114 (gd rfl) rfl rfl rfl (fun z111 e111 => ?_)
      have q111 : u_60_3 = z111 := (fr_F e_60_3 hFc108 rfl).trans e111.symm
      subst q111
      refine g_cmp_ge 117 135 (gd rfl) rfl rfl (fun c114 => ?_) (fun c114 => ?_)
      · skip
        refine g_aload_n 136 (gd rfl) rfl rfl ?_
        refine g_getA (q2 := 61) 139 (gd rfl) rfl rfl rfl rfl ?_
        refine g_iload_n 140 (gd rfl) rfl rfl ?_
        refine g_dup2 141 (gd rfl) rfl rfl rfl ?_
        refine g_iaload 142 (gd rfl) rfl (n := 32) rfl (in_ix h3 rfl) (fun z141 e141 => ?_)
        refine g_iload 144 (gd rfl) rfl rfl ?_
        refine g_ior 145 (gd rfl) rfl (fun z144 e144 => ?_)
        refine g_iastore 146 (gd rfl) rfl (n := 32) rfl (in_ix h3 rfl) ?_
        have hI145 := inv_sI (q := 61) (j := x3.toNatClampNeg) hIc108 rfl (in_w (-2147483648) 2147483647 (i_rng z144) rfl)
        refine g_aload_n 147 (gd rfl) rfl rfl ?_
        refine g_aload_n 148 (gd rfl) rfl rfl ?_
        refine g_getA (q2 := 9) 151 (gd rfl) rfl rfl rfl rfl ?_
        refine g_aload_n 152 (gd rfl) rfl rfl ?_
        refine g_callv (X := _) (As := []) (r := [.ref (A 9), .ref (A 60)]) (b := A 2) (q := 2) 155 (gd rfl) rfl rfl rfl rfl rfl (ww_o rfl) (Nat.le_of_ble_eq_true rfl) (mc := 0) (ms := 0) (Nat.zero_le _) (Nat.zero_le _) (P := fun v u => _) ?_ (fun e u h => h) (fun v u h => h)
        intro po152 xx152 hp152 hx152
        refine g_enter2 (k := 102) (N := 300) (by first | exact dq1 hd rfl | exact dq0 hd rfl | exact dq2 hd rfl | exact dq3 hd rfl | omega) rfl (Nat.le_of_ble_eq_true rfl) ?_
        refine g_aload_n 1 (gd rfl) rfl rfl ?_
        refine g_getI 4 (gd rfl) rfl rfl rfl (fun z152x1 e152x1 => ?_)
        have q152x1 : u_2_1 = z152x1 := (sI_F (fr_F e_2_1 hFc108 rfl)).trans e152x1.symm
        subst q152x1
        refine g_bipush 32 6 (gd rfl) rfl rfl ?_
        refine g_cmp_lt 9 13 (gd rfl) rfl rfl (fun c152x6 => ?_) (fun c152x6 => ?_)
        · skip
          have i152x6 := r_lt1 0 31 c152x6 ro_2_1 (in_c 32 rfl) rfl
          refine g_iconst 1 14 (gd rfl) rfl rfl ?_
          refine g_aload_n 15 (gd rfl) rfl rfl ?_
          refine g_getI 18 (gd rfl) rfl rfl rfl (fun z152x15 e152x15 => ?_)
          have q152x15 : u_2_1 = z152x15 := (sI_F (fr_F e_2_1 hFc108 rfl)).trans e152x15.symm
          subst q152x15
          refine g_ishl 19 (gd rfl) rfl (fun z152x18 e152x18 => ?_)
          refine g_iconst 1 20 (gd rfl) rfl rfl ?_
          refine g_isub 21 (gd rfl) rfl (fun z152x20 e152x20 => ?_)
          refine g_ireturn (gd rfl) rfl rfl (hp152 _ _ ?_)
          show GG _ _ _ _ _ _ _ _ [.int z152x20, .ref (A 9), .ref (A 60)] _ _ _
          refine g_iload 157 (gd rfl) rfl rfl ?_
          refine g_iconst (-1) 158 (gd rfl) rfl rfl ?_
          refine g_ixor 159 (gd rfl) rfl (fun z158 e158 => ?_)
          refine g_iand 160 (gd rfl) rfl (fun z159 e159 => ?_)
          refine g_iload 162 (gd rfl) rfl rfl ?_
          refine g_iconst (-1) 163 (gd rfl) rfl rfl ?_
          refine g_ixor 164 (gd rfl) rfl (fun z163 e163 => ?_)
          refine g_iand 165 (gd rfl) rfl (fun z164 e164 => ?_)
          refine g_iconst 0 166 (gd rfl) rfl rfl ?_
          refine g_callv (X := _) (As := [.ref (A 9), .int z164, .int (Int32.ofInt 0)]) (r := []) (b := A 60) (q := 60) 169 (gd rfl) rfl rfl rfl rfl rfl (ww_o rfl) (Nat.le_of_ble_eq_true rfl) (Nat.zero_le _) (Nat.zero_le _) (k_46_60_9 (by first | exact dq1 hd rfl | exact dq0 hd rfl | exact dq2 hd rfl | exact dq3 hd rfl | omega) hI145 (in_w 0 33 (in_c 0 rfl) rfl)) (fun e u h => h) (fun v u h => ?_)
          obtain ⟨s166, hI166, hF166, z166, rfl, rfl, i166⟩ := h
          show GG _ _ _ _ _ _ _ _ [.int z166] _ _ _
          refine g_if_eq 172 174 (gd rfl) rfl rfl (fun c169 => ?_) (fun c169 => ?_)
          · skip
            have i169 := z_eq 0 0 c169 i166 rfl
            refine g_aload_n 175 (gd rfl) rfl rfl ?_
            refine g_getA (q2 := 62) 178 (gd rfl) rfl rfl rfl rfl ?_
            refine g_iconst 0 179 (gd rfl) rfl rfl ?_
            refine g_aload_n 180 (gd rfl) rfl rfl ?_
            refine g_getA (q2 := 61) 183 (gd rfl) rfl rfl rfl rfl ?_
            refine g_iconst 0 184 (gd rfl) rfl rfl ?_
            refine g_bipush 32 186 (gd rfl) rfl rfl ?_
            refine g_cpI (q2 := 62) (q := 61) (n0 := 32) (n1 := 32) 189 (gd rfl) rfl rfl rfl rfl (Nat.le_of_ble_eq_true rfl) (cp_0 (in_c 0 rfl) rfl) (cp_0 (in_c 0 rfl) rfl) (cp_0 (in_c 32 rfl) rfl) (cp_1 (in_c 0 rfl) (in_c 32 rfl) rfl) (cp_1 (in_c 0 rfl) (in_c 32 rfl) rfl) hI166 rfl rfl rfl rfl (fun s186 hI186 hF186 cp186 => ?_)
            refine g_iconst 0 190 (gd rfl) rfl rfl ?_
            exact g_ireturn (gd rfl) rfl (nb01 (in_w 0 1 (in_c 0 rfl) rfl)) (hP _ _ ⟨s186, hI186, (fr_tr rfl (fr_tr rfl (fr_sI rfl hFc108) hF166) hF186), (Int32.ofInt 0), rfl, rfl, in_w 0 1 (in_c 0 rfl) rfl⟩)
          · skip
            have i169 := z_ne 1 1 c169 i166 rfl
            refine g_iconst 1 173 (gd rfl) rfl rfl ?_
            exact g_ireturn (gd rfl) rfl (nb01 (in_w 0 1 (in_c 1 rfl) rfl)) (hP _ _ ⟨s166, hI166, (fr_tr rfl (fr_sI rfl hFc108) hF166), (Int32.ofInt 1), rfl, rfl, in_w 0 1 (in_c 1 rfl) rfl⟩)
        · skip
          have i152x6 := r_le2 32 32 c152x6 (in_c 32 rfl) ro_2_1 rfl
          refine g_iconst (-1) 10 (gd rfl) rfl rfl ?_
          refine g_goto 21 (gd rfl) rfl ?_
          refine g_ireturn (gd rfl) rfl rfl (hp152 _ _ ?_)
          show GG _ _ _ _ _ _ _ _ [.int (Int32.ofInt (-1)), .ref (A 9), .ref (A 60)] _ _ _
          refine g_iload 157 (gd rfl) rfl rfl ?_
          refine g_iconst (-1) 158 (gd rfl) rfl rfl ?_
          refine g_ixor 159 (gd rfl) rfl (fun z158 e158 => ?_)
          refine g_iand 160 (gd rfl) rfl (fun z159 e159 => ?_)
          refine g_iload 162 (gd rfl) rfl rfl ?_
          refine g_iconst (-1) 163 (gd rfl) rfl rfl ?_
          refine g_ixor 164 (gd rfl) rfl (fun z163 e163 => ?_)
          refine g_iand 165 (gd rfl) rfl (fun z164 e164 => ?_)
          refine g_iconst 0 166 (gd rfl) rfl rfl ?_
          refine g_callv (X := _) (As := [.ref (A 9), .int z164, .int (Int32.ofInt 0)]) (r := []) (b := A 60) (q := 60) 169 (gd rfl) rfl rfl rfl rfl rfl (ww_o rfl) (Nat.le_of_ble_eq_true rfl) (Nat.zero_le _) (Nat.zero_le _) (k_46_60_9 (by first | exact dq1 hd rfl | exact dq0 hd rfl | exact dq2 hd rfl | exact dq3 hd rfl | omega) hI145 (in_w 0 33 (in_c 0 rfl) rfl)) (fun e u h => h) (fun v u h => ?_)
          obtain ⟨s166, hI166, hF166, z166, rfl, rfl, i166⟩ := h
          show GG _ _ _ _ _ _ _ _ [.int z166] _ _ _
          refine g_if_eq 172 174 (gd rfl) rfl rfl (fun c169 => ?_) (fun c169 => ?_)
          · skip
            have i169 := z_eq 0 0 c169 i166 rfl
            refine g_aload_n 175 (gd rfl) rfl rfl ?_
            refine g_getA (q2 := 62) 178 (gd rfl) rfl rfl rfl rfl ?_
            refine g_iconst 0 179 (gd rfl) rfl rfl ?_
            refine g_aload_n 180 (gd rfl) rfl rfl ?_
            refine g_getA (q2 := 61) 183 (gd rfl) rfl rfl rfl rfl ?_
            refine g_iconst 0 184 (gd rfl) rfl rfl ?_
            refine g_bipush 32 186 (gd rfl) rfl rfl ?_
            refine g_cpI (q2 := 62) (q := 61) (n0 := 32) (n1 := 32) 189 (gd rfl) rfl rfl rfl rfl (Nat.le_of_ble_eq_true rfl) (cp_0 (in_c 0 rfl) rfl) (cp_0 (in_c 0 rfl) rfl) (cp_0 (in_c 32 rfl) rfl) (cp_1 (in_c 0 rfl) (in_c 32 rfl) rfl) (cp_1 (in_c 0 rfl) (in_c 32 rfl) rfl) hI166 rfl rfl rfl rfl (fun s186 hI186 hF186 cp186 => ?_)
            refine g_iconst 0 190 (gd rfl) rfl rfl ?_
            exact g_ireturn (gd rfl) rfl (nb01 (in_w 0 1 (in_c 0 rfl) rfl)) (hP _ _ ⟨s186, hI186, (fr_tr rfl (fr_tr rfl (fr_sI rfl hFc108) hF166) hF186), (Int32.ofInt 0), rfl, rfl, in_w 0 1 (in_c 0 rfl) rfl⟩)
          · skip
            have i169 := z_ne 1 1 c169 i166 rfl
            refine g_iconst 1 173 (gd rfl) rfl rfl ?_
            exact g_ireturn (gd rfl) rfl (nb01 (in_w 0 1 (in_c 1 rfl) rfl)) (hP _ _ ⟨s166, hI166, (fr_tr rfl (fr_sI rfl hFc108) hF166), (Int32.ofInt 1), rfl, rfl, in_w 0 1 (in_c 1 rfl) rfl⟩)
      · skip
        have i114 := r_lt1 0 31 c114 j108_8 ro_60_3 rfl
        have i114a := r_lt2 1 32 c114 j108_8 ro_60_3 rfl
        refine g_aload_n 118 (gd rfl) rfl rfl ?_
        refine g_getA (q2 := 61) 121 (gd rfl) rfl rfl rfl rfl ?_
        refine g_iload 123 (gd rfl) rfl rfl ?_
        refine g_dup2 124 (gd rfl) rfl rfl rfl ?_
        refine g_iaload 125 (gd rfl) rfl (n := 32) rfl (in_ix i114 rfl) (fun z124 e124 => ?_)
        refine g_iload 127 (gd rfl) rfl rfl ?_
        refine g_iand 128 (gd rfl) rfl (fun z127 e127 => ?_)
        refine g_iastore 129 (gd rfl) rfl (n := 32) rfl (in_ix i114 rfl) ?_
        have hI128 := inv_sI (q := 61) (j := y108_8.toNatClampNeg) hIc108 rfl (in_w (-2147483648) 2147483647 (i_rng z127) rfl)
        refine g_iinc 132 (gd rfl) rfl rfl (Nat.le_of_ble_eq_true rfl) (fun z129 e129 => ?_)
        have i129 := in_add 1 32 e129 i114 (in_c 1 rfl) rfl rfl
        refine g_goto 108 (gd rfl) rfl ?_
        exact gg_w (by first | exact Nat.le_add_right _ _ | exact gw2 | exact gw3 | exact gwe rfl | exact gwf rfl | exact gwg rfl | exact gwh rfl | omega) (gg_f (gf_cons rfl (gf_cons rfl (gf_cons rfl (gf_cons rfl (gf_cons rfl (gf_cons rfl (gf_cons rfl (gf_cons rfl (gf_cons rfl gf_nil))))))))) (ih108 (sI sc108 61 y108_8.toNatClampNeg z127) y108_5 y108_6 y108_7 z129 hI128 (fr_sI rfl hFc108) (in_w 0 32 i129 rfl) (m_up mm108 (t_add e129 i114 (in_c 1 rfl) rfl) (in_w 1 1 (in_c 1 rfl) rfl))))
  refine g_enter2 (k := 54) (N := 30601) (by first | exact dq1 hd rfl | exact dq0 hd rfl | exact dq2 hd rfl | exact dq3 hd rfl | omega) rfl (Nat.le_of_ble_eq_true rfl) ?_
  refine g_iconst 1 1 (gd rfl) rfl rfl ?_
  refine g_iload_n 2 (gd rfl) rfl rfl ?_
  refine g_ishl 3 (gd rfl) rfl (fun z2 e2 => ?_)
  refine g_istore 5 (gd rfl) rfl (Nat.le_of_ble_eq_true rfl) ?_
  refine g_iload 7 (gd rfl) rfl rfl ?_
  refine g_iconst 1 8 (gd rfl) rfl rfl ?_
  refine g_isub 9 (gd rfl) rfl (fun z8 e8 => ?_)
  refine g_istore 11 (gd rfl) rfl (Nat.le_of_ble_eq_true rfl) ?_
  refine g_aload_n 12 (gd rfl) rfl rfl ?_
  refine g_getA (q2 := 61) 15 (gd rfl) rfl rfl rfl rfl ?_
  refine g_iload_n 16 (gd rfl) rfl rfl ?_
  refine g_iaload 17 (gd rfl) rfl (n := 32) rfl (in_ix h3 rfl) (fun z16 e16 => ?_)
  refine g_aload_n 18 (gd rfl) rfl rfl ?_
  refine g_getA (q2 := 9) 21 (gd rfl) rfl rfl rfl rfl ?_
  refine g_iload_n 22 (gd rfl) rfl rfl ?_
  refine g_iaload 23 (gd rfl) rfl (n := 32) rfl (in_ix h2 rfl) (fun z22 e22 => ?_)
  refine g_iand 24 (gd rfl) rfl (fun z23 e23 => ?_)
  refine g_iload 26 (gd rfl) rfl rfl ?_
  refine g_iand 27 (gd rfl) rfl (fun z26 e26 => ?_)
  refine g_if_eq 30 32 (gd rfl) rfl rfl (fun c27 => ?_) (fun c27 => ?_)
  · skip
    have i27 := z_eq 0 0 c27 (i_rng z26) rfl
    refine g_aload_n 33 (gd rfl) rfl rfl ?_
    refine g_getA (q2 := 9) 36 (gd rfl) rfl rfl rfl rfl ?_
    refine g_iload 38 (gd rfl) rfl rfl ?_
    refine g_aload_n 39 (gd rfl) rfl rfl ?_
    refine g_getA (q2 := 61) 42 (gd rfl) rfl rfl rfl rfl ?_
    refine g_iload_n 43 (gd rfl) rfl rfl ?_
    refine g_iaload 44 (gd rfl) rfl (n := 32) rfl (in_ix h3 rfl) (fun z43 e43 => ?_)
    have q43 : z16 = z43 := (e16).trans e43.symm
    subst q43
    refine g_aload_n 45 (gd rfl) rfl rfl ?_
    refine g_getA (q2 := 61) 48 (gd rfl) rfl rfl rfl rfl ?_
    refine g_iload 50 (gd rfl) rfl rfl ?_
    refine g_iaload 51 (gd rfl) rfl (n := 32) rfl (in_ix h4 rfl) (fun z50 e50 => ?_)
    refine g_ior 52 (gd rfl) rfl (fun z51 e51 => ?_)
    refine g_calls (As := [.ref (A 9), .int z2, .int z51]) (r := []) 55 (gd rfl) rfl rfl rfl rfl rfl (Nat.le_of_ble_eq_true rfl) (Nat.zero_le _) (Nat.zero_le _) (k_266_9 (by first | exact dq1 hd rfl | exact dq0 hd rfl | exact dq2 hd rfl | exact dq3 hd rfl | omega) hI ) (fun v u h => ?_)
    obtain ⟨z52, rfl, rfl, i52, p52⟩ := h
    show GG _ _ _ _ _ _ _ _ [.int z52] _ _ _
    refine g_istore 57 (gd rfl) rfl (Nat.le_of_ble_eq_true rfl) ?_
    refine g_iload 59 (gd rfl) rfl rfl ?_
    refine g_iload 61 (gd rfl) rfl rfl ?_
    refine g_iand 62 (gd rfl) rfl (fun z61 e61 => ?_)
    refine g_if_ne 65 90 (gd rfl) rfl rfl (fun c62 => ?_) (fun c62 => ?_)
    · skip
      refine g_aload_n 91 (gd rfl) rfl rfl ?_
      refine g_getA (q2 := 61) 94 (gd rfl) rfl rfl rfl rfl ?_
      refine g_iconst 0 95 (gd rfl) rfl rfl ?_
      refine g_aload_n 96 (gd rfl) rfl rfl ?_
      refine g_getA (q2 := 62) 99 (gd rfl) rfl rfl rfl rfl ?_
      refine g_iconst 0 100 (gd rfl) rfl rfl ?_
      refine g_bipush 32 102 (gd rfl) rfl rfl ?_
      refine g_cpI (q2 := 61) (q := 62) (n0 := 32) (n1 := 32) 105 (gd rfl) rfl rfl rfl rfl (Nat.le_of_ble_eq_true rfl) (cp_0 (in_c 0 rfl) rfl) (cp_0 (in_c 0 rfl) rfl) (cp_0 (in_c 32 rfl) rfl) (cp_1 (in_c 0 rfl) (in_c 32 rfl) rfl) (cp_1 (in_c 0 rfl) (in_c 32 rfl) rfl) hI rfl rfl rfl rfl (fun s102 hI102 hF102 cp102 => ?_)
      refine g_iconst 0 106 (gd rfl) rfl rfl ?_
      refine g_istore 108 (gd rfl) rfl (Nat.le_of_ble_eq_true rfl) ?_
      exact gg_w (by first | exact Nat.le_of_ble_eq_true rfl | omega) (gg_f (gf_cons rfl (gf_cons rfl (gf_cons rfl (gf_cons rfl (gf_cons rfl (gf_cons rfl (gf_cons rfl (gf_cons rfl (gf_cons rfl gf_nil))))))))) (ct108 33 s102 z2 z8 z52 (Int32.ofInt 0) hI102 (fr_tr rfl fr_rf hF102) (in_w 0 32 (in_c 0 rfl) rfl) (m_in 33 (in_w 0 32 (in_c 0 rfl) rfl) rfl)))
    · skip
      have i62 := z_eq 0 0 c62 (i_rng z61) rfl
      refine g_aload_n 66 (gd rfl) rfl rfl ?_
      refine g_getA (q2 := 61) 69 (gd rfl) rfl rfl rfl rfl ?_
      refine g_iload_n 70 (gd rfl) rfl rfl ?_
      refine g_dup2 71 (gd rfl) rfl rfl rfl ?_
      refine g_iaload 72 (gd rfl) rfl (n := 32) rfl (in_ix h3 rfl) (fun z71 e71 => ?_)
      have q71 : z16 = z71 := (e16).trans e71.symm
      subst q71
      refine g_iload 74 (gd rfl) rfl rfl ?_
      refine g_ixor 75 (gd rfl) rfl (fun z74 e74 => ?_)
      refine g_iastore 76 (gd rfl) rfl (n := 32) rfl (in_ix h3 rfl) ?_
      have hI75 := inv_sI (q := 61) (j := x3.toNatClampNeg) hI rfl (in_w (-2147483648) 2147483647 (i_rng z74) rfl)
      refine g_aload_n 77 (gd rfl) rfl rfl ?_
      refine g_getA (q2 := 61) 80 (gd rfl) rfl rfl rfl rfl ?_
      refine g_iload 82 (gd rfl) rfl rfl ?_
      refine g_dup2 83 (gd rfl) rfl rfl rfl ?_
      refine g_iaload 84 (gd rfl) rfl (n := 32) rfl (in_ix h4 rfl) (fun z83 e83 => ?_)
      refine g_iload 86 (gd rfl) rfl rfl ?_
      refine g_ixor 87 (gd rfl) rfl (fun z86 e86 => ?_)
      refine g_iastore 88 (gd rfl) rfl (n := 32) rfl (in_ix h4 rfl) ?_
      have hI87 := inv_sI (q := 61) (j := x4.toNatClampNeg) hI75 rfl (in_w (-2147483648) 2147483647 (i_rng z86) rfl)
      refine g_iconst 1 89 (gd rfl) rfl rfl ?_
      exact g_ireturn (gd rfl) rfl (nb01 (in_w 0 1 (in_c 1 rfl) rfl)) (hP _ _ ⟨(sI (sI s 61 x3.toNatClampNeg z74) 61 x4.toNatClampNeg z86), hI87, (fr_sI rfl (fr_sI rfl fr_rf)), (Int32.ofInt 1), rfl, rfl, in_w 0 1 (in_c 1 rfl) rfl⟩)
  · skip
    refine g_iconst 0 31 (gd rfl) rfl rfl ?_
    exact g_ireturn (gd rfl) rfl (nb01 (in_w 0 1 (in_c 0 rfl) rfl)) (hP _ _ ⟨s, hI, fr_rf, (Int32.ofInt 0), rfl, rfl, in_w 0 1 (in_c 0 rfl) rfl⟩)
end
