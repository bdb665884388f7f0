/-! FUNCTIONAL CONTRACTS, by fgen.py -/
theorem oc_78_65 : (Int32.ofInt (-1)).toInt = (-1) ∧ (Int32.ofInt 0).toInt = 0 ∧ (Int32.ofInt 1).toInt = 1 ∧ (Int32.ofInt 32).toInt = 32 ∧ (Int32.ofInt 160000000).toInt = 160000000 := ⟨rfl, rfl, rfl, rfl, rfl⟩
set_option maxHeartbeats 4000000 in
/-- GraphHouse$Flows.push -/
theorem f_78_65 {Z : AmZ} {A : Nat → Nat} {s : GS} {ex : va_W} {d : Nat} {X : AmX} {x1 : Int32} {x2 : Int32} {u_65_4 : Int32} (hd : 3 ≤ d) (hI : Inv s) (h1 : In x1 0 31) (h2 : In x2 0 31) (e_65_4 : u_65_4 = s.2.2.1 65 4) (q_0 : RV (s.1 68) (s.2.2.1 65 4) x1) (q_1 : bt (s.2.2.1 65 4) (x2).toNatClampNeg = true) (q_2 : LNN ((s).1 66) 160000000) (q_3 : OPQ ((s).1 66) ((s).1 67)) (q_4 : ∃ d, DLB ((s).1 67) ((s).1 68) (x1).toNatClampNeg (x2).toNatClampNeg ((s).2.2.1 65 4) d) : GC Z d 78 [.ref (A 65), .int x1, .int x2] (WW Z A s ++ ex) 0 0 (fun v u => ∃ t : GS, Inv t ∧ Fr fm_78_65 s t ∧ ∃ z : Int32, v = some (.int z) ∧ u = WW Z A t ++ ex ∧ In z (-2147483648) 160000000 ∧ (∃ n, PTH (s.1 66) (s.1 68) (x2).toNatClampNeg (z).toInt n ∧ PSI (s.1 66) (s.1 67) ((t).1 66) ((t).1 67) (s.1 68) (x1).toNatClampNeg (x2).toNatClampNeg (s.2.2.1 65 4) (z).toInt n ∧ itv (s.1 68) (x2).toNatClampNeg n = (x1).toNatClampNeg) ∧ (0 < (z).toInt)) X := by
  intro post xp hP hX
  have ct66 : ∀ (k66 : Nat) (sc66 : GS) (y66_3 : Int32) (y66_4 : Int32) (y66_5 : Int32), Inv sc66 → Fr fm_78_65 s sc66 → (In y66_3 (-2147483648) 160000000) → (In y66_4 0 31) → (In y66_5 0 32) → (bt u_65_4 (y66_4).toNatClampNeg = true) → ((y66_4).toNatClampNeg = itv (s.1 68) (x2).toNatClampNeg (y66_5).toNatClampNeg) → (PSI (s.1 66) (s.1 67) ((sc66).1 66) ((sc66).1 67) (s.1 68) (x1).toNatClampNeg (x2).toNatClampNeg (s.2.2.1 65 4) (y66_3).toInt (y66_5).toNatClampNeg) → (∃ n, PTH (s.1 66) (s.1 68) (x2).toNatClampNeg (y66_3).toInt n ∧ itv (s.1 68) (x2).toNatClampNeg n = (x1).toNatClampNeg ∧ ∀ d, DLB ((s).1 67) ((s).1 68) (x1).toNatClampNeg (x2).toNatClampNeg ((s).2.2.1 65 4) d → n ≤ d (x2).toNatClampNeg) → (0 < (y66_3).toInt) → 32 - (y66_5).toInt < (k66 : Int) → GG Z (d - 1) 78 post (gx xp) (1 + k66 * 900) 66 (fun j => xlook j [(0, .ref (A 65)), (1, .int x1), (2, .int x2), (3, .int y66_3), (4, .int y66_4), (5, .int y66_5)]) [] (WW Z A sc66 ++ ex) 0 0 := by
    intro k66
    induction k66 with
    | zero => intro sc66 y66_3 y66_4 y66_5 hIc66 hFc66 j66_3 j66_4 j66_5 g66_0 g66_1 g66_2 g66_3 g66_4 mm66; exact m_no mm66 j66_5 rfl
    | succ k66 ih66 =>
      intro sc66 y66_3 y66_4 y66_5 hIc66 hFc66 j66_3 j66_4 j66_5 g66_0 g66_1 g66_2 g66_3 g66_4 mm66
      refine gg_w (M := 1 + k66 * 900 + 900) gws ?_
      refine g_iload 68 (gd rfl) rfl rfl ?_
      refine g_bipush 32 70 (gd rfl) rfl rfl ?_
      refine g_cmp_ge 73 178 (gd rfl) rfl rfl (fun c70 => ?_) (fun c70 => ?_)
      · skip
        have i70 := r_le2 32 32 c70 (in_c 32 rfl) j66_5 rfl
        refine g_iload_n 179 (gd rfl) rfl rfl ?_
        have n179 : ∃ n, PTH (s.1 66) (s.1 68) (x2).toNatClampNeg (y66_3).toInt n ∧ PSI (s.1 66) (s.1 67) ((sc66).1 66) ((sc66).1 67) (s.1 68) (x1).toNatClampNeg (x2).toNatClampNeg (s.2.2.1 65 4) (y66_3).toInt n ∧ itv (s.1 68) (x2).toNatClampNeg n = (x1).toNatClampNeg := by exfalso; obtain ⟨d9, hd9⟩ := q_4; have h8 := (g66_2.2.2.2.1 d9 hd9).1; have h7 := hd9.2.2.1; have h6 : (y66_5).toNatClampNeg = (y66_5).toInt.toNat := rfl; (first | have a0 := in_u h2 | (have a0 := h2; unfold In at a0)); (first | have a1 := in_u h1 | (have a1 := h1; unfold In at a1)); (first | have a2 := in_u i70 | (have a2 := i70; unfold In at a2)); (first | have a3 := in_u j66_4 | (have a3 := j66_4; unfold In at a3)); (first | have a4 := in_u j66_3 | (have a4 := j66_3; unfold In at a4)); have oc := oc_78_65; omega
        have n179a : 0 < (y66_3).toInt := by exact g66_4
        exact g_ireturn (gd rfl) rfl rfl (hP _ _ ⟨sc66, hIc66, hFc66, y66_3, rfl, rfl, in_w (-2147483648) 160000000 j66_3 rfl, n179, n179a⟩)
      · skip
        have i70 := r_lt1 0 31 c70 j66_5 (in_c 32 rfl) rfl
        refine g_iload 75 (gd rfl) rfl rfl ?_
        refine g_iload_n 76 (gd rfl) rfl rfl ?_
        refine g_cmp_eq 79 178 (gd rfl) rfl rfl (fun c76 => ?_) (fun c76 => ?_)
        · skip
          refine g_iload_n 179 (gd rfl) rfl rfl ?_
          have n179 : ∃ n, PTH (s.1 66) (s.1 68) (x2).toNatClampNeg (y66_3).toInt n ∧ PSI (s.1 66) (s.1 67) ((sc66).1 66) ((sc66).1 67) (s.1 68) (x1).toNatClampNeg (x2).toNatClampNeg (s.2.2.1 65 4) (y66_3).toInt n ∧ itv (s.1 68) (x2).toNatClampNeg n = (x1).toNatClampNeg := by obtain ⟨d9, hd9⟩ := q_4; obtain ⟨n9, p9, s9, l9⟩ := g66_3; have h8 := (itv_d hd9 n9 (l9 d9 hd9)).2; have h7 := (itv_d hd9 _ (g66_2.2.2.2.1 d9 hd9).1).2; rw [s9] at h8; rw [(show (itv (s.1 68) (x2).toNatClampNeg ((y66_5).toNatClampNeg)) = (x1).toNatClampNeg from (g66_1).symm.trans (congrArg Int.toNat c76))] at h7; have h6 : n9 = (y66_5).toNatClampNeg := (by omega); exact ⟨n9, p9, by rw [h6]; exact g66_2, s9⟩
          have n179a : 0 < (y66_3).toInt := by exact g66_4
          exact g_ireturn (gd rfl) rfl rfl (hP _ _ ⟨sc66, hIc66, hFc66, y66_3, rfl, rfl, in_w (-2147483648) 160000000 j66_3 rfl, n179, n179a⟩)
        · skip
          refine g_aload_n 80 (gd rfl) rfl rfl ?_
          refine g_getA (q2 := 68) 83 (gd rfl) rfl rfl rfl rfl ?_
          refine g_iload 85 (gd rfl) rfl rfl ?_
          refine g_iaload 86 (gd rfl) rfl (n := 32) rfl (in_ix j66_4 rfl) (fun z85 e85 => ?_)
          have i85 := inv_I hIc66 (n := 32) (t := 0) (-1) 319 rfl (in_ix j66_4 rfl) rfl e85
          have hr86 : In z85 0 31 ∧ bt (s.2.2.1 65 4) (z85).toNatClampNeg = true := by have hf := (hFc66 : Fr fm_78_65 s sc66).1 68 rfl; have hr := q_0 (y66_4).toNatClampNeg (by rw [← e_65_4]; exact g66_0) (by intro w; apply c76; have hq := j66_4; unfold In at hq; have hw : (((y66_4).toInt.toNat : Nat) : Int) = (x1).toInt := w; omega); rw [← hf, ← e85] at hr; exact hr
          have i86 : In z85 0 31 := by exact hr86.1
          refine g_istore 88 (gd rfl) rfl (Nat.le_of_ble_eq_true rfl) ?_
          refine g_aload_n 89 (gd rfl) rfl rfl ?_
          refine g_getA (q2 := 66) 92 (gd rfl) rfl rfl rfl rfl ?_
          refine g_iload 94 (gd rfl) rfl rfl ?_
          refine g_bipush 32 96 (gd rfl) rfl rfl ?_
          refine g_imul 97 (gd rfl) rfl (fun z96 e96 => ?_)
          have i96 := in_mulc 32 0 992 (Or.inr e96) i86 rfl rfl
          refine g_iload 99 (gd rfl) rfl rfl ?_
          refine g_iadd 100 (gd rfl) rfl (fun z99 e99 => ?_)
          have i99 := in_add 0 1023 e99 i96 j66_4 rfl rfl
          refine g_dup2 101 (gd rfl) rfl rfl rfl ?_
          refine g_iaload 102 (gd rfl) rfl (n := 1024) rfl (in_ix i99 rfl) (fun z101 e101 => ?_)
          refine g_iload_n 103 (gd rfl) rfl rfl ?_
          refine g_isub 104 (gd rfl) rfl (fun z103 e103 => ?_)
          refine g_iastore 105 (gd rfl) rfl (n := 1024) rfl (in_ix i99 rfl) ?_
          have hI104 := inv_sI (q := 66) (j := z99.toNatClampNeg) hIc66 rfl (in_w (-2147483648) 2147483647 (i_rng z103) rfl)
          refine g_aload_n 106 (gd rfl) rfl rfl ?_
          refine g_getA (q2 := 66) 109 (gd rfl) rfl rfl rfl rfl ?_
          refine g_iload 111 (gd rfl) rfl rfl ?_
          refine g_bipush 32 113 (gd rfl) rfl rfl ?_
          refine g_imul 114 (gd rfl) rfl (fun z113 e113 => ?_)
          have i113 := in_mulc 32 0 992 (Or.inr e113) i86 rfl rfl
          refine g_iload 116 (gd rfl) rfl rfl ?_
          refine g_iadd 117 (gd rfl) rfl (fun z116 e116 => ?_)
          have i116 := in_add 0 1023 e116 i113 j66_4 rfl rfl
          refine g_iaload 118 (gd rfl) rfl (n := 1024) rfl (in_ix i116 rfl) (fun z117 e117 => ?_)
          refine g_if_ne 121 137 (gd rfl) rfl rfl (fun c118 => ?_) (fun c118 => ?_)
          · skip
            refine g_aload_n 138 (gd rfl) rfl rfl ?_
            refine g_getA (q2 := 66) 141 (gd rfl) rfl rfl rfl rfl ?_
            refine g_iload 143 (gd rfl) rfl rfl ?_
            refine g_bipush 32 145 (gd rfl) rfl rfl ?_
            refine g_imul 146 (gd rfl) rfl (fun z145 e145 => ?_)
            have i145 := in_mulc 32 0 992 (Or.inr e145) j66_4 rfl rfl
            refine g_iload 148 (gd rfl) rfl rfl ?_
            refine g_iadd 149 (gd rfl) rfl (fun z148 e148 => ?_)
            have i148 := in_add 0 1023 e148 i145 i86 rfl rfl
            refine g_dup2 150 (gd rfl) rfl rfl rfl ?_
            refine g_iaload 151 (gd rfl) rfl (n := 1024) rfl (in_ix i148 rfl) (fun z150 e150 => ?_)
            refine g_iload_n 152 (gd rfl) rfl rfl ?_
            refine g_iadd 153 (gd rfl) rfl (fun z152 e152 => ?_)
            refine g_iastore 154 (gd rfl) rfl (n := 1024) rfl (in_ix i148 rfl) ?_
            have hI153 := inv_sI (q := 66) (j := z148.toNatClampNeg) hI104 rfl (in_w (-2147483648) 2147483647 (i_rng z152) rfl)
            refine g_aload_n 155 (gd rfl) rfl rfl ?_
            refine g_getA (q2 := 67) 158 (gd rfl) rfl rfl rfl rfl ?_
            refine g_iload 160 (gd rfl) rfl rfl ?_
            refine g_dup2 161 (gd rfl) rfl rfl rfl ?_
            refine g_iaload 162 (gd rfl) rfl (n := 32) rfl (in_ix j66_4 rfl) (fun z161 e161 => ?_)
            refine g_iconst 1 163 (gd rfl) rfl rfl ?_
            refine g_iload 165 (gd rfl) rfl rfl ?_
            refine g_ishl 166 (gd rfl) rfl (fun z165 e165 => ?_)
            refine g_ior 167 (gd rfl) rfl (fun z166 e166 => ?_)
            refine g_iastore 168 (gd rfl) rfl (n := 32) rfl (in_ix j66_4 rfl) ?_
            have hI167 := inv_sI (q := 67) (j := y66_4.toNatClampNeg) hI153 rfl (in_w (-2147483648) 2147483647 (i_rng z166) rfl)
            refine g_iload 170 (gd rfl) rfl rfl ?_
            refine g_istore 172 (gd rfl) rfl (Nat.le_of_ble_eq_true rfl) ?_
            refine g_iinc 175 (gd rfl) rfl rfl (Nat.le_of_ble_eq_true rfl) (fun z172 e172 => ?_)
            have i172 := in_add 1 32 e172 i70 (in_c 1 rfl) rfl rfl
            refine g_goto 66 (gd rfl) rfl ?_
            have n66 : bt u_65_4 (z85).toNatClampNeg = true := by first | (rw [e_65_4]; exact q_1) | (rw [e_65_4]; exact hr86.2)
            have n66a : (z85).toNatClampNeg = itv (s.1 68) (x2).toNatClampNeg (z172).toNatClampNeg := by rw [(show (z172).toNatClampNeg = (y66_5).toNatClampNeg + 1 from (by show (z172).toInt.toNat = (y66_5).toInt.toNat + 1; (first | have a0 := in_u h2 | (have a0 := h2; unfold In at a0)); (first | have a1 := in_u h1 | (have a1 := h1; unfold In at a1)); (first | have a2 := in_u i70 | (have a2 := i70; unfold In at a2)); (first | have a3 := in_u j66_4 | (have a3 := j66_4; unfold In at a3)); (first | have a4 := in_u i86 | (have a4 := i86; unfold In at a4)); (first | have a5 := in_u i172 | (have a5 := i172; unfold In at a5)); have a6 := t_add e172 i70 (in_c 1 rfl) rfl; (first | have a7 := in_u ((in_c 1 rfl)) | (have a7 := (in_c 1 rfl); unfold In at a7)); (first | have a8 := in_u j66_3 | (have a8 := j66_3; unfold In at a8)); (first | have a9 := in_u i148 | (have a9 := i148; unfold In at a9)); have a10 := t_add e148 i145 i86 rfl; (first | have a11 := in_u i145 | (have a11 := i145; unfold In at a11)); have a12 := (t_mulc 32 (Or.inr e145) j66_4 rfl).1; (first | have a13 := in_u i116 | (have a13 := i116; unfold In at a13)); have a14 := t_add e116 i113 j66_4 rfl; (first | have a15 := in_u i113 | (have a15 := i113; unfold In at a15)); have a16 := (t_mulc 32 (Or.inr e113) i86 rfl).1; (first | have a17 := in_u i99 | (have a17 := i99; unfold In at a17)); have a18 := t_add e99 i96 j66_4 rfl; (first | have a19 := in_u i96 | (have a19 := i96; unfold In at a19)); have a20 := (t_mulc 32 (Or.inr e96) i86 rfl).1; have oc := oc_78_65; omega))]; show z85.toNatClampNeg = (s.1 68 (itv (s.1 68) (x2).toNatClampNeg ((y66_5).toNatClampNeg))).toNatClampNeg; rw [← g66_1, ← (show z85 = s.1 68 (y66_4).toNatClampNeg from (e85.trans (congrFun (hFc66.1 68 rfl) _)))]
            have n66b : PSI (s.1 66) (s.1 67) (((sI (sI (sI sc66 66 z99.toNatClampNeg z103) 66 z148.toNatClampNeg z152) 67 y66_4.toNatClampNeg z166)).1 66) (((sI (sI (sI sc66 66 z99.toNatClampNeg z103) 66 z148.toNatClampNeg z152) 67 y66_4.toNatClampNeg z166)).1 67) (s.1 68) (x1).toNatClampNeg (x2).toNatClampNeg (s.2.2.1 65 4) (y66_3).toInt (z172).toNatClampNeg := by obtain ⟨d9, hd9⟩ := q_4; obtain ⟨n9, p9, s9, l9⟩ := g66_3; have ne9 := (show (itv (s.1 68) (x2).toNatClampNeg ((y66_5).toNatClampNeg)) ≠ (x1).toNatClampNeg from (by rw [← g66_1]; show (y66_4).toInt.toNat ≠ (x1).toInt.toNat; (first | have a0 := in_u h2 | (have a0 := h2; unfold In at a0)); (first | have a1 := in_u h1 | (have a1 := h1; unfold In at a1)); (first | have a2 := in_u i70 | (have a2 := i70; unfold In at a2)); (first | have a3 := in_u j66_4 | (have a3 := j66_4; unfold In at a3)); (first | have a4 := in_u i86 | (have a4 := i86; unfold In at a4)); (first | have a5 := in_u i172 | (have a5 := i172; unfold In at a5)); have a6 := t_add e172 i70 (in_c 1 rfl) rfl; (first | have a7 := in_u ((in_c 1 rfl)) | (have a7 := (in_c 1 rfl); unfold In at a7)); (first | have a8 := in_u j66_3 | (have a8 := j66_3; unfold In at a8)); (first | have a9 := in_u i148 | (have a9 := i148; unfold In at a9)); have a10 := t_add e148 i145 i86 rfl; (first | have a11 := in_u i145 | (have a11 := i145; unfold In at a11)); have a12 := (t_mulc 32 (Or.inr e145) j66_4 rfl).1; (first | have a13 := in_u i116 | (have a13 := i116; unfold In at a13)); have a14 := t_add e116 i113 j66_4 rfl; (first | have a15 := in_u i113 | (have a15 := i113; unfold In at a15)); have a16 := (t_mulc 32 (Or.inr e113) i86 rfl).1; have a17 := i99; unfold In at a17; have a18 := t_add e99 i96 j66_4 rfl; (first | have a19 := in_u i96 | (have a19 := i96; unfold In at a19)); have a20 := (t_mulc 32 (Or.inr e96) i86 rfl).1; have oc := oc_78_65; omega)); have pu := psi_u g66_2 hd9 ne9; have v85 := (show z85 = s.1 68 (y66_4).toNatClampNeg from (e85.trans (congrFun (hFc66.1 68 rfl) _))); have iu : (itv (s.1 68) (x2).toNatClampNeg ((y66_5).toNatClampNeg + 1)) = z85.toNatClampNeg := (by show (s.1 68 (itv (s.1 68) (x2).toNatClampNeg ((y66_5).toNatClampNeg))).toNatClampNeg = _; rw [← g66_1, ← v85]); rw [iu, ← g66_1] at pu; obtain ⟨lt9, ⟨u32, v32, uv⟩, k1, k2⟩ := pu; have nd : n9 = d9 (x2).toNatClampNeg := (by have h8 := (itv_d hd9 n9 (l9 d9 hd9)).2; rw [s9, hd9.1.1.2.2] at h8; omega); have mn : (y66_3).toInt ≤ edL (s.1 66) (s.1 68) (x2).toNatClampNeg (y66_5).toNatClampNeg := p9.1 _ (by omega); have mn2 : (y66_3).toInt ≤ (sc66.1 66 (32 * z85.toNatClampNeg + (y66_4).toNatClampNeg)).toInt := (by have h8 : edL (s.1 66) (s.1 68) (x2).toNatClampNeg (y66_5).toNatClampNeg = (s.1 66 (32 * (itv (s.1 68) (x2).toNatClampNeg ((y66_5).toNatClampNeg + 1)) + (itv (s.1 68) (x2).toNatClampNeg ((y66_5).toNatClampNeg)))).toInt := rfl; rw [iu, ← g66_1] at h8; rw [k1, ← h8]; exact mn); have lb := g66_2.1 z85.toNatClampNeg (y66_4).toNatClampNeg u32 v32; have lb2 := g66_2.1 (y66_4).toNatClampNeg z85.toNatClampNeg v32 u32; have i99 := (show z99.toNatClampNeg = 32 * z85.toNatClampNeg + (y66_4).toNatClampNeg from (by show z99.toInt.toNat = 32 * z85.toInt.toNat + (y66_4).toInt.toNat; have h9 := hr86.1; unfold In at h9; (first | have a0 := in_u h2 | (have a0 := h2; unfold In at a0)); (first | have a1 := in_u h1 | (have a1 := h1; unfold In at a1)); (first | have a2 := in_u i70 | (have a2 := i70; unfold In at a2)); (first | have a3 := in_u j66_4 | (have a3 := j66_4; unfold In at a3)); (first | have a4 := in_u i86 | (have a4 := i86; unfold In at a4)); (first | have a5 := in_u i172 | (have a5 := i172; unfold In at a5)); have a6 := t_add e172 i70 (in_c 1 rfl) rfl; (first | have a7 := in_u ((in_c 1 rfl)) | (have a7 := (in_c 1 rfl); unfold In at a7)); (first | have a8 := in_u j66_3 | (have a8 := j66_3; unfold In at a8)); (first | have a9 := in_u i148 | (have a9 := i148; unfold In at a9)); have a10 := t_add e148 i145 i86 rfl; (first | have a11 := in_u i145 | (have a11 := i145; unfold In at a11)); have a12 := (t_mulc 32 (Or.inr e145) j66_4 rfl).1; (first | have a13 := in_u i116 | (have a13 := i116; unfold In at a13)); have a14 := t_add e116 i113 j66_4 rfl; (first | have a15 := in_u i113 | (have a15 := i113; unfold In at a15)); have a16 := (t_mulc 32 (Or.inr e113) i86 rfl).1; have a17 := i99; unfold In at a17; have a18 := t_add e99 i96 j66_4 rfl; (first | have a19 := in_u i96 | (have a19 := i96; unfold In at a19)); have a20 := (t_mulc 32 (Or.inr e96) i86 rfl).1; have oc := oc_78_65; omega)); have i16 := (show z116.toNatClampNeg = 32 * z85.toNatClampNeg + (y66_4).toNatClampNeg from (by show z116.toInt.toNat = 32 * z85.toInt.toNat + (y66_4).toInt.toNat; have h9 := hr86.1; unfold In at h9; (first | have a0 := in_u h2 | (have a0 := h2; unfold In at a0)); (first | have a1 := in_u h1 | (have a1 := h1; unfold In at a1)); (first | have a2 := in_u i70 | (have a2 := i70; unfold In at a2)); (first | have a3 := in_u j66_4 | (have a3 := j66_4; unfold In at a3)); (first | have a4 := in_u i86 | (have a4 := i86; unfold In at a4)); (first | have a5 := in_u i172 | (have a5 := i172; unfold In at a5)); have a6 := t_add e172 i70 (in_c 1 rfl) rfl; (first | have a7 := in_u ((in_c 1 rfl)) | (have a7 := (in_c 1 rfl); unfold In at a7)); (first | have a8 := in_u j66_3 | (have a8 := j66_3; unfold In at a8)); (first | have a9 := in_u i148 | (have a9 := i148; unfold In at a9)); have a10 := t_add e148 i145 i86 rfl; (first | have a11 := in_u i145 | (have a11 := i145; unfold In at a11)); have a12 := (t_mulc 32 (Or.inr e145) j66_4 rfl).1; (first | have a13 := in_u i116 | (have a13 := i116; unfold In at a13)); have a14 := t_add e116 i113 j66_4 rfl; (first | have a15 := in_u i113 | (have a15 := i113; unfold In at a15)); have a16 := (t_mulc 32 (Or.inr e113) i86 rfl).1; have a17 := i99; unfold In at a17; have a18 := t_add e99 i96 j66_4 rfl; (first | have a19 := in_u i96 | (have a19 := i96; unfold In at a19)); have a20 := (t_mulc 32 (Or.inr e96) i86 rfl).1; have oc := oc_78_65; omega)); have i48 := (show z148.toNatClampNeg = 32 * (y66_4).toNatClampNeg + z85.toNatClampNeg from (by show z148.toInt.toNat = 32 * (y66_4).toInt.toNat + z85.toInt.toNat; have h9 := hr86.1; unfold In at h9; (first | have a0 := in_u h2 | (have a0 := h2; unfold In at a0)); (first | have a1 := in_u h1 | (have a1 := h1; unfold In at a1)); (first | have a2 := in_u i70 | (have a2 := i70; unfold In at a2)); (first | have a3 := in_u j66_4 | (have a3 := j66_4; unfold In at a3)); (first | have a4 := in_u i86 | (have a4 := i86; unfold In at a4)); (first | have a5 := in_u i172 | (have a5 := i172; unfold In at a5)); have a6 := t_add e172 i70 (in_c 1 rfl) rfl; (first | have a7 := in_u ((in_c 1 rfl)) | (have a7 := (in_c 1 rfl); unfold In at a7)); (first | have a8 := in_u j66_3 | (have a8 := j66_3; unfold In at a8)); (first | have a9 := in_u i148 | (have a9 := i148; unfold In at a9)); have a10 := t_add e148 i145 i86 rfl; (first | have a11 := in_u i145 | (have a11 := i145; unfold In at a11)); have a12 := (t_mulc 32 (Or.inr e145) j66_4 rfl).1; (first | have a13 := in_u i116 | (have a13 := i116; unfold In at a13)); have a14 := t_add e116 i113 j66_4 rfl; (first | have a15 := in_u i113 | (have a15 := i113; unfold In at a15)); have a16 := (t_mulc 32 (Or.inr e113) i86 rfl).1; have a17 := i99; unfold In at a17; have a18 := t_add e99 i96 j66_4 rfl; (first | have a19 := in_u i96 | (have a19 := i96; unfold In at a19)); have a20 := (t_mulc 32 (Or.inr e96) i86 rfl).1; have oc := oc_78_65; omega)); have a3 := g66_4; have z101v : z101 = sc66.1 66 (32 * z85.toNatClampNeg + (y66_4).toNatClampNeg) := (by rw [e101, i99]); have xv : (z103).toInt = (sc66.1 66 (32 * z85.toNatClampNeg + (y66_4).toNatClampNeg)).toInt - (y66_3).toInt := (by rw [← z101v]; exact isub_v e103 (by rw [z101v]; omega) (by rw [z101v]; omega)); have z150v : z150 = sc66.1 66 (32 * (y66_4).toNatClampNeg + z85.toNatClampNeg) := (by rw [e150, sI_q, i48, i99, up_n (by omega)]); have yv : (z152).toInt = (sc66.1 66 (32 * (y66_4).toNatClampNeg + z85.toNatClampNeg)).toInt + (y66_3).toInt := (by rw [← z150v]; exact iadd_v e152 (by rw [z150v]; omega) (by rw [z150v]; omega)); have z117v : (z117).toInt = (z103).toInt := (by rw [e117, sI_q, i16, i99, up_e]); have ob : bt (sc66.1 67 z85.toNatClampNeg) (y66_4).toNatClampNeg = true := (g66_2.2.1 _ _ u32 v32).mpr (by omega); have hl9 := (show (sI (sI (sI sc66 66 z99.toNatClampNeg z103) 66 z148.toNatClampNeg z152) 67 (y66_4).toNatClampNeg z166).1 66 = upd (upd (sc66.1 66) (32 * z85.toNatClampNeg + (y66_4).toNatClampNeg) z103) (32 * (y66_4).toNatClampNeg + z85.toNatClampNeg) z152 from (by rw [sI_p rfl, sI_q, sI_q, i99, i48])); have ho9 := opq_s g66_2.2.1 u32 v32 uv hl9 (by omega) (fun p w _ hw => (opx_A (O2 := sc66.1 67) (x := (z103).toInt) hr86.1 j66_4 (by have h8 := c118; omega) e165 (show z166 = sc66.1 67 (y66_4).toNatClampNeg ||| z165 from (by rw [e166, e161, sI_p rfl, sI_p rfl])) (show (sI (sI (sI sc66 66 z99.toNatClampNeg z103) 66 z148.toNatClampNeg z152) 67 (y66_4).toNatClampNeg z166).1 67 = upd (sc66.1 67) (y66_4).toNatClampNeg z166 from (by rw [sI_q, sI_p rfl, sI_p rfl]))) p w hw) (by omega) ob; rw [(show (z172).toNatClampNeg = (y66_5).toNatClampNeg + 1 from (by show (z172).toInt.toNat = (y66_5).toInt.toNat + 1; (first | have a0 := in_u h2 | (have a0 := h2; unfold In at a0)); (first | have a1 := in_u h1 | (have a1 := h1; unfold In at a1)); (first | have a2 := in_u i70 | (have a2 := i70; unfold In at a2)); (first | have a3 := in_u j66_4 | (have a3 := j66_4; unfold In at a3)); (first | have a4 := in_u i86 | (have a4 := i86; unfold In at a4)); (first | have a5 := in_u i172 | (have a5 := i172; unfold In at a5)); have a6 := t_add e172 i70 (in_c 1 rfl) rfl; (first | have a7 := in_u ((in_c 1 rfl)) | (have a7 := (in_c 1 rfl); unfold In at a7)); (first | have a8 := in_u j66_3 | (have a8 := j66_3; unfold In at a8)); (first | have a9 := in_u i148 | (have a9 := i148; unfold In at a9)); have a10 := t_add e148 i145 i86 rfl; (first | have a11 := in_u i145 | (have a11 := i145; unfold In at a11)); have a12 := (t_mulc 32 (Or.inr e145) j66_4 rfl).1; (first | have a13 := in_u i116 | (have a13 := i116; unfold In at a13)); have a14 := t_add e116 i113 j66_4 rfl; (first | have a15 := in_u i113 | (have a15 := i113; unfold In at a15)); have a16 := (t_mulc 32 (Or.inr e113) i86 rfl).1; have a17 := i99; unfold In at a17; have a18 := t_add e99 i96 j66_4 rfl; (first | have a19 := in_u i96 | (have a19 := i96; unfold In at a19)); have a20 := (t_mulc 32 (Or.inr e96) i86 rfl).1; have oc := oc_78_65; omega))]; refine psi_s (x := z103) (y := z152) g66_2 hd9 ne9 a3 mn ?_ ?_ ?_ ho9; (rw [iu, ← g66_1]; exact xv); (rw [iu, ← g66_1]; exact yv); (rw [iu, ← g66_1]; exact hl9)
            have n66c : ∃ n, PTH (s.1 66) (s.1 68) (x2).toNatClampNeg (y66_3).toInt n ∧ itv (s.1 68) (x2).toNatClampNeg n = (x1).toNatClampNeg ∧ ∀ d, DLB ((s).1 67) ((s).1 68) (x1).toNatClampNeg (x2).toNatClampNeg ((s).2.2.1 65 4) d → n ≤ d (x2).toNatClampNeg := by exact g66_3
            have n66d : 0 < (y66_3).toInt := by exact g66_4
            exact gg_w (by first | exact Nat.le_add_right _ _ | exact gw2 | exact gw3 | exact gwe rfl | exact gwf rfl | exact gwg rfl | exact gwh rfl | omega) (gg_f (gf_cons rfl (gf_cons rfl (gf_cons rfl (gf_cons rfl (gf_cons rfl (gf_cons rfl gf_nil)))))) (ih66 (sI (sI (sI sc66 66 z99.toNatClampNeg z103) 66 z148.toNatClampNeg z152) 67 y66_4.toNatClampNeg z166) y66_3 z85 z172 hI167 (fr_sI rfl (fr_sI rfl (fr_sI rfl hFc66))) (in_w (-2147483648) 160000000 j66_3 rfl) (in_w 0 31 i86 rfl) (in_w 0 32 i172 rfl) n66 n66a n66b n66c n66d (m_up mm66 (t_add e172 i70 (in_c 1 rfl) rfl) (in_w 1 1 (in_c 1 rfl) rfl))))
          · skip
            have i118 := z_eq 0 0 c118 (i_rng z117) rfl
            refine g_aload_n 122 (gd rfl) rfl rfl ?_
            refine g_getA (q2 := 67) 125 (gd rfl) rfl rfl rfl rfl ?_
            refine g_iload 127 (gd rfl) rfl rfl ?_
            refine g_dup2 128 (gd rfl) rfl rfl rfl ?_
            refine g_iaload 129 (gd rfl) rfl (n := 32) rfl (in_ix i86 rfl) (fun z128 e128 => ?_)
            refine g_iconst 1 130 (gd rfl) rfl rfl ?_
            refine g_iload 132 (gd rfl) rfl rfl ?_
            refine g_ishl 133 (gd rfl) rfl (fun z132 e132 => ?_)
            refine g_iconst (-1) 134 (gd rfl) rfl rfl ?_
            refine g_ixor 135 (gd rfl) rfl (fun z134 e134 => ?_)
            refine g_iand 136 (gd rfl) rfl (fun z135 e135 => ?_)
            refine g_iastore 137 (gd rfl) rfl (n := 32) rfl (in_ix i86 rfl) ?_
            have hI136 := inv_sI (q := 67) (j := z85.toNatClampNeg) hI104 rfl (in_w (-2147483648) 2147483647 (i_rng z135) rfl)
            refine g_aload_n 138 (gd rfl) rfl rfl ?_
            refine g_getA (q2 := 66) 141 (gd rfl) rfl rfl rfl rfl ?_
            refine g_iload 143 (gd rfl) rfl rfl ?_
            refine g_bipush 32 145 (gd rfl) rfl rfl ?_
            refine g_imul 146 (gd rfl) rfl (fun z145 e145 => ?_)
            have i145 := in_mulc 32 0 992 (Or.inr e145) j66_4 rfl rfl
            refine g_iload 148 (gd rfl) rfl rfl ?_
            refine g_iadd 149 (gd rfl) rfl (fun z148 e148 => ?_)
            have i148 := in_add 0 1023 e148 i145 i86 rfl rfl
            refine g_dup2 150 (gd rfl) rfl rfl rfl ?_
            refine g_iaload 151 (gd rfl) rfl (n := 1024) rfl (in_ix i148 rfl) (fun z150 e150 => ?_)
            refine g_iload_n 152 (gd rfl) rfl rfl ?_
            refine g_iadd 153 (gd rfl) rfl (fun z152 e152 => ?_)
            refine g_iastore 154 (gd rfl) rfl (n := 1024) rfl (in_ix i148 rfl) ?_
            have hI153 := inv_sI (q := 66) (j := z148.toNatClampNeg) hI136 rfl (in_w (-2147483648) 2147483647 (i_rng z152) rfl)
            refine g_aload_n 155 (gd rfl) rfl rfl ?_
            refine g_getA (q2 := 67) 158 (gd rfl) rfl rfl rfl rfl ?_
            refine g_iload 160 (gd rfl) rfl rfl ?_
            refine g_dup2 161 (gd rfl) rfl rfl rfl ?_
            refine g_iaload 162 (gd rfl) rfl (n := 32) rfl (in_ix j66_4 rfl) (fun z161 e161 => ?_)
            refine g_iconst 1 163 (gd rfl) rfl rfl ?_
            refine g_iload 165 (gd rfl) rfl rfl ?_
            refine g_ishl 166 (gd rfl) rfl (fun z165 e165 => ?_)
            refine g_ior 167 (gd rfl) rfl (fun z166 e166 => ?_)
            refine g_iastore 168 (gd rfl) rfl (n := 32) rfl (in_ix j66_4 rfl) ?_
            have hI167 := inv_sI (q := 67) (j := y66_4.toNatClampNeg) hI153 rfl (in_w (-2147483648) 2147483647 (i_rng z166) rfl)
            refine g_iload 170 (gd rfl) rfl rfl ?_
            refine g_istore 172 (gd rfl) rfl (Nat.le_of_ble_eq_true rfl) ?_
            refine g_iinc 175 (gd rfl) rfl rfl (Nat.le_of_ble_eq_true rfl) (fun z172 e172 => ?_)
            have i172 := in_add 1 32 e172 i70 (in_c 1 rfl) rfl rfl
            refine g_goto 66 (gd rfl) rfl ?_
            have n66 : bt u_65_4 (z85).toNatClampNeg = true := by first | (rw [e_65_4]; exact q_1) | (rw [e_65_4]; exact hr86.2)
            have n66a : (z85).toNatClampNeg = itv (s.1 68) (x2).toNatClampNeg (z172).toNatClampNeg := by rw [(show (z172).toNatClampNeg = (y66_5).toNatClampNeg + 1 from (by show (z172).toInt.toNat = (y66_5).toInt.toNat + 1; (first | have a0 := in_u h2 | (have a0 := h2; unfold In at a0)); (first | have a1 := in_u h1 | (have a1 := h1; unfold In at a1)); (first | have a2 := in_u i70 | (have a2 := i70; unfold In at a2)); (first | have a3 := in_u j66_4 | (have a3 := j66_4; unfold In at a3)); (first | have a4 := in_u i86 | (have a4 := i86; unfold In at a4)); (first | have a5 := in_u i172 | (have a5 := i172; unfold In at a5)); have a6 := t_add e172 i70 (in_c 1 rfl) rfl; (first | have a7 := in_u ((in_c 1 rfl)) | (have a7 := (in_c 1 rfl); unfold In at a7)); (first | have a8 := in_u j66_3 | (have a8 := j66_3; unfold In at a8)); (first | have a9 := in_u i148 | (have a9 := i148; unfold In at a9)); have a10 := t_add e148 i145 i86 rfl; (first | have a11 := in_u i145 | (have a11 := i145; unfold In at a11)); have a12 := (t_mulc 32 (Or.inr e145) j66_4 rfl).1; (first | have a13 := in_u i116 | (have a13 := i116; unfold In at a13)); have a14 := t_add e116 i113 j66_4 rfl; (first | have a15 := in_u i113 | (have a15 := i113; unfold In at a15)); have a16 := (t_mulc 32 (Or.inr e113) i86 rfl).1; (first | have a17 := in_u i99 | (have a17 := i99; unfold In at a17)); have a18 := t_add e99 i96 j66_4 rfl; (first | have a19 := in_u i96 | (have a19 := i96; unfold In at a19)); have a20 := (t_mulc 32 (Or.inr e96) i86 rfl).1; have oc := oc_78_65; omega))]; show z85.toNatClampNeg = (s.1 68 (itv (s.1 68) (x2).toNatClampNeg ((y66_5).toNatClampNeg))).toNatClampNeg; rw [← g66_1, ← (show z85 = s.1 68 (y66_4).toNatClampNeg from (e85.trans (congrFun (hFc66.1 68 rfl) _)))]
            have n66b : PSI (s.1 66) (s.1 67) (((sI (sI (sI (sI sc66 66 z99.toNatClampNeg z103) 67 z85.toNatClampNeg z135) 66 z148.toNatClampNeg z152) 67 y66_4.toNatClampNeg z166)).1 66) (((sI (sI (sI (sI sc66 66 z99.toNatClampNeg z103) 67 z85.toNatClampNeg z135) 66 z148.toNatClampNeg z152) 67 y66_4.toNatClampNeg z166)).1 67) (s.1 68) (x1).toNatClampNeg (x2).toNatClampNeg (s.2.2.1 65 4) (y66_3).toInt (z172).toNatClampNeg := by obtain ⟨d9, hd9⟩ := q_4; obtain ⟨n9, p9, s9, l9⟩ := g66_3; have ne9 := (show (itv (s.1 68) (x2).toNatClampNeg ((y66_5).toNatClampNeg)) ≠ (x1).toNatClampNeg from (by rw [← g66_1]; show (y66_4).toInt.toNat ≠ (x1).toInt.toNat; (first | have a0 := in_u h2 | (have a0 := h2; unfold In at a0)); (first | have a1 := in_u h1 | (have a1 := h1; unfold In at a1)); (first | have a2 := in_u i70 | (have a2 := i70; unfold In at a2)); (first | have a3 := in_u j66_4 | (have a3 := j66_4; unfold In at a3)); (first | have a4 := in_u i86 | (have a4 := i86; unfold In at a4)); (first | have a5 := in_u i172 | (have a5 := i172; unfold In at a5)); have a6 := t_add e172 i70 (in_c 1 rfl) rfl; (first | have a7 := in_u ((in_c 1 rfl)) | (have a7 := (in_c 1 rfl); unfold In at a7)); (first | have a8 := in_u j66_3 | (have a8 := j66_3; unfold In at a8)); (first | have a9 := in_u i148 | (have a9 := i148; unfold In at a9)); have a10 := t_add e148 i145 i86 rfl; (first | have a11 := in_u i145 | (have a11 := i145; unfold In at a11)); have a12 := (t_mulc 32 (Or.inr e145) j66_4 rfl).1; (first | have a13 := in_u i116 | (have a13 := i116; unfold In at a13)); have a14 := t_add e116 i113 j66_4 rfl; (first | have a15 := in_u i113 | (have a15 := i113; unfold In at a15)); have a16 := (t_mulc 32 (Or.inr e113) i86 rfl).1; have a17 := i99; unfold In at a17; have a18 := t_add e99 i96 j66_4 rfl; (first | have a19 := in_u i96 | (have a19 := i96; unfold In at a19)); have a20 := (t_mulc 32 (Or.inr e96) i86 rfl).1; have oc := oc_78_65; omega)); have pu := psi_u g66_2 hd9 ne9; have v85 := (show z85 = s.1 68 (y66_4).toNatClampNeg from (e85.trans (congrFun (hFc66.1 68 rfl) _))); have iu : (itv (s.1 68) (x2).toNatClampNeg ((y66_5).toNatClampNeg + 1)) = z85.toNatClampNeg := (by show (s.1 68 (itv (s.1 68) (x2).toNatClampNeg ((y66_5).toNatClampNeg))).toNatClampNeg = _; rw [← g66_1, ← v85]); rw [iu, ← g66_1] at pu; obtain ⟨lt9, ⟨u32, v32, uv⟩, k1, k2⟩ := pu; have nd : n9 = d9 (x2).toNatClampNeg := (by have h8 := (itv_d hd9 n9 (l9 d9 hd9)).2; rw [s9, hd9.1.1.2.2] at h8; omega); have mn : (y66_3).toInt ≤ edL (s.1 66) (s.1 68) (x2).toNatClampNeg (y66_5).toNatClampNeg := p9.1 _ (by omega); have mn2 : (y66_3).toInt ≤ (sc66.1 66 (32 * z85.toNatClampNeg + (y66_4).toNatClampNeg)).toInt := (by have h8 : edL (s.1 66) (s.1 68) (x2).toNatClampNeg (y66_5).toNatClampNeg = (s.1 66 (32 * (itv (s.1 68) (x2).toNatClampNeg ((y66_5).toNatClampNeg + 1)) + (itv (s.1 68) (x2).toNatClampNeg ((y66_5).toNatClampNeg)))).toInt := rfl; rw [iu, ← g66_1] at h8; rw [k1, ← h8]; exact mn); have lb := g66_2.1 z85.toNatClampNeg (y66_4).toNatClampNeg u32 v32; have lb2 := g66_2.1 (y66_4).toNatClampNeg z85.toNatClampNeg v32 u32; have i99 := (show z99.toNatClampNeg = 32 * z85.toNatClampNeg + (y66_4).toNatClampNeg from (by show z99.toInt.toNat = 32 * z85.toInt.toNat + (y66_4).toInt.toNat; have h9 := hr86.1; unfold In at h9; (first | have a0 := in_u h2 | (have a0 := h2; unfold In at a0)); (first | have a1 := in_u h1 | (have a1 := h1; unfold In at a1)); (first | have a2 := in_u i70 | (have a2 := i70; unfold In at a2)); (first | have a3 := in_u j66_4 | (have a3 := j66_4; unfold In at a3)); (first | have a4 := in_u i86 | (have a4 := i86; unfold In at a4)); (first | have a5 := in_u i172 | (have a5 := i172; unfold In at a5)); have a6 := t_add e172 i70 (in_c 1 rfl) rfl; (first | have a7 := in_u ((in_c 1 rfl)) | (have a7 := (in_c 1 rfl); unfold In at a7)); (first | have a8 := in_u j66_3 | (have a8 := j66_3; unfold In at a8)); (first | have a9 := in_u i148 | (have a9 := i148; unfold In at a9)); have a10 := t_add e148 i145 i86 rfl; (first | have a11 := in_u i145 | (have a11 := i145; unfold In at a11)); have a12 := (t_mulc 32 (Or.inr e145) j66_4 rfl).1; (first | have a13 := in_u i116 | (have a13 := i116; unfold In at a13)); have a14 := t_add e116 i113 j66_4 rfl; (first | have a15 := in_u i113 | (have a15 := i113; unfold In at a15)); have a16 := (t_mulc 32 (Or.inr e113) i86 rfl).1; have a17 := i99; unfold In at a17; have a18 := t_add e99 i96 j66_4 rfl; (first | have a19 := in_u i96 | (have a19 := i96; unfold In at a19)); have a20 := (t_mulc 32 (Or.inr e96) i86 rfl).1; have oc := oc_78_65; omega)); have i16 := (show z116.toNatClampNeg = 32 * z85.toNatClampNeg + (y66_4).toNatClampNeg from (by show z116.toInt.toNat = 32 * z85.toInt.toNat + (y66_4).toInt.toNat; have h9 := hr86.1; unfold In at h9; (first | have a0 := in_u h2 | (have a0 := h2; unfold In at a0)); (first | have a1 := in_u h1 | (have a1 := h1; unfold In at a1)); (first | have a2 := in_u i70 | (have a2 := i70; unfold In at a2)); (first | have a3 := in_u j66_4 | (have a3 := j66_4; unfold In at a3)); (first | have a4 := in_u i86 | (have a4 := i86; unfold In at a4)); (first | have a5 := in_u i172 | (have a5 := i172; unfold In at a5)); have a6 := t_add e172 i70 (in_c 1 rfl) rfl; (first | have a7 := in_u ((in_c 1 rfl)) | (have a7 := (in_c 1 rfl); unfold In at a7)); (first | have a8 := in_u j66_3 | (have a8 := j66_3; unfold In at a8)); (first | have a9 := in_u i148 | (have a9 := i148; unfold In at a9)); have a10 := t_add e148 i145 i86 rfl; (first | have a11 := in_u i145 | (have a11 := i145; unfold In at a11)); have a12 := (t_mulc 32 (Or.inr e145) j66_4 rfl).1; (first | have a13 := in_u i116 | (have a13 := i116; unfold In at a13)); have a14 := t_add e116 i113 j66_4 rfl; (first | have a15 := in_u i113 | (have a15 := i113; unfold In at a15)); have a16 := (t_mulc 32 (Or.inr e113) i86 rfl).1; have a17 := i99; unfold In at a17; have a18 := t_add e99 i96 j66_4 rfl; (first | have a19 := in_u i96 | (have a19 := i96; unfold In at a19)); have a20 := (t_mulc 32 (Or.inr e96) i86 rfl).1; have oc := oc_78_65; omega)); have i48 := (show z148.toNatClampNeg = 32 * (y66_4).toNatClampNeg + z85.toNatClampNeg from (by show z148.toInt.toNat = 32 * (y66_4).toInt.toNat + z85.toInt.toNat; have h9 := hr86.1; unfold In at h9; (first | have a0 := in_u h2 | (have a0 := h2; unfold In at a0)); (first | have a1 := in_u h1 | (have a1 := h1; unfold In at a1)); (first | have a2 := in_u i70 | (have a2 := i70; unfold In at a2)); (first | have a3 := in_u j66_4 | (have a3 := j66_4; unfold In at a3)); (first | have a4 := in_u i86 | (have a4 := i86; unfold In at a4)); (first | have a5 := in_u i172 | (have a5 := i172; unfold In at a5)); have a6 := t_add e172 i70 (in_c 1 rfl) rfl; (first | have a7 := in_u ((in_c 1 rfl)) | (have a7 := (in_c 1 rfl); unfold In at a7)); (first | have a8 := in_u j66_3 | (have a8 := j66_3; unfold In at a8)); (first | have a9 := in_u i148 | (have a9 := i148; unfold In at a9)); have a10 := t_add e148 i145 i86 rfl; (first | have a11 := in_u i145 | (have a11 := i145; unfold In at a11)); have a12 := (t_mulc 32 (Or.inr e145) j66_4 rfl).1; (first | have a13 := in_u i116 | (have a13 := i116; unfold In at a13)); have a14 := t_add e116 i113 j66_4 rfl; (first | have a15 := in_u i113 | (have a15 := i113; unfold In at a15)); have a16 := (t_mulc 32 (Or.inr e113) i86 rfl).1; have a17 := i99; unfold In at a17; have a18 := t_add e99 i96 j66_4 rfl; (first | have a19 := in_u i96 | (have a19 := i96; unfold In at a19)); have a20 := (t_mulc 32 (Or.inr e96) i86 rfl).1; have oc := oc_78_65; omega)); have a3 := g66_4; have z101v : z101 = sc66.1 66 (32 * z85.toNatClampNeg + (y66_4).toNatClampNeg) := (by rw [e101, i99]); have xv : (z103).toInt = (sc66.1 66 (32 * z85.toNatClampNeg + (y66_4).toNatClampNeg)).toInt - (y66_3).toInt := (by rw [← z101v]; exact isub_v e103 (by rw [z101v]; omega) (by rw [z101v]; omega)); have z150v : z150 = sc66.1 66 (32 * (y66_4).toNatClampNeg + z85.toNatClampNeg) := (by rw [e150, sI_p rfl, sI_q, i48, i99, up_n (by omega)]); have yv : (z152).toInt = (sc66.1 66 (32 * (y66_4).toNatClampNeg + z85.toNatClampNeg)).toInt + (y66_3).toInt := (by rw [← z150v]; exact iadd_v e152 (by rw [z150v]; omega) (by rw [z150v]; omega)); have z117v : (z117).toInt = (z103).toInt := (by rw [e117, sI_q, i16, i99, up_e]); have ob : bt (sc66.1 67 z85.toNatClampNeg) (y66_4).toNatClampNeg = true := (g66_2.2.1 _ _ u32 v32).mpr (by omega); have hl9 := (show (sI (sI (sI (sI sc66 66 z99.toNatClampNeg z103) 67 z85.toNatClampNeg z135) 66 z148.toNatClampNeg z152) 67 (y66_4).toNatClampNeg z166).1 66 = upd (upd (sc66.1 66) (32 * z85.toNatClampNeg + (y66_4).toNatClampNeg) z103) (32 * (y66_4).toNatClampNeg + z85.toNatClampNeg) z152 from (by rw [sI_p rfl, sI_q, sI_p rfl, sI_q, i99, i48])); have ho9 := opq_s g66_2.2.1 u32 v32 uv hl9 (by omega) (fun p w _ hw => (opx_B (O2 := sc66.1 67) (x := (z103).toInt) hr86.1 j66_4 uv (by have h8 := c118; omega) e132 e134 (show z135 = sc66.1 67 z85.toNatClampNeg &&& z134 from (by rw [e135, e128, sI_p rfl])) e165 (show z166 = sc66.1 67 (y66_4).toNatClampNeg ||| z165 from (by rw [e166, e161, sI_p rfl, sI_q, up_n (fun z => uv z.symm), sI_p rfl])) (show (sI (sI (sI (sI sc66 66 z99.toNatClampNeg z103) 67 z85.toNatClampNeg z135) 66 z148.toNatClampNeg z152) 67 (y66_4).toNatClampNeg z166).1 67 = upd (upd (sc66.1 67) z85.toNatClampNeg z135) (y66_4).toNatClampNeg z166 from (by rw [sI_q, sI_p rfl, sI_q, sI_p rfl]))) p w hw) (by omega) ob; rw [(show (z172).toNatClampNeg = (y66_5).toNatClampNeg + 1 from (by show (z172).toInt.toNat = (y66_5).toInt.toNat + 1; (first | have a0 := in_u h2 | (have a0 := h2; unfold In at a0)); (first | have a1 := in_u h1 | (have a1 := h1; unfold In at a1)); (first | have a2 := in_u i70 | (have a2 := i70; unfold In at a2)); (first | have a3 := in_u j66_4 | (have a3 := j66_4; unfold In at a3)); (first | have a4 := in_u i86 | (have a4 := i86; unfold In at a4)); (first | have a5 := in_u i172 | (have a5 := i172; unfold In at a5)); have a6 := t_add e172 i70 (in_c 1 rfl) rfl; (first | have a7 := in_u ((in_c 1 rfl)) | (have a7 := (in_c 1 rfl); unfold In at a7)); (first | have a8 := in_u j66_3 | (have a8 := j66_3; unfold In at a8)); (first | have a9 := in_u i148 | (have a9 := i148; unfold In at a9)); have a10 := t_add e148 i145 i86 rfl; (first | have a11 := in_u i145 | (have a11 := i145; unfold In at a11)); have a12 := (t_mulc 32 (Or.inr e145) j66_4 rfl).1; (first | have a13 := in_u i116 | (have a13 := i116; unfold In at a13)); have a14 := t_add e116 i113 j66_4 rfl; (first | have a15 := in_u i113 | (have a15 := i113; unfold In at a15)); have a16 := (t_mulc 32 (Or.inr e113) i86 rfl).1; have a17 := i99; unfold In at a17; have a18 := t_add e99 i96 j66_4 rfl; (first | have a19 := in_u i96 | (have a19 := i96; unfold In at a19)); have a20 := (t_mulc 32 (Or.inr e96) i86 rfl).1; have oc := oc_78_65; omega))]; refine psi_s (x := z103) (y := z152) g66_2 hd9 ne9 a3 mn ?_ ?_ ?_ ho9; (rw [iu, ← g66_1]; exact xv); (rw [iu, ← g66_1]; exact yv); (rw [iu, ← g66_1]; exact hl9)
            have n66c : ∃ n, PTH (s.1 66) (s.1 68) (x2).toNatClampNeg (y66_3).toInt n ∧ itv (s.1 68) (x2).toNatClampNeg n = (x1).toNatClampNeg ∧ ∀ d, DLB ((s).1 67) ((s).1 68) (x1).toNatClampNeg (x2).toNatClampNeg ((s).2.2.1 65 4) d → n ≤ d (x2).toNatClampNeg := by exact g66_3
            have n66d : 0 < (y66_3).toInt := by exact g66_4
            exact gg_w (by first | exact Nat.le_add_right _ _ | exact gw2 | exact gw3 | exact gwe rfl | exact gwf rfl | exact gwg rfl | exact gwh rfl | omega) (gg_f (gf_cons rfl (gf_cons rfl (gf_cons rfl (gf_cons rfl (gf_cons rfl (gf_cons rfl gf_nil)))))) (ih66 (sI (sI (sI (sI sc66 66 z99.toNatClampNeg z103) 67 z85.toNatClampNeg z135) 66 z148.toNatClampNeg z152) 67 y66_4.toNatClampNeg z166) y66_3 z85 z172 hI167 (fr_sI rfl (fr_sI rfl (fr_sI rfl (fr_sI rfl hFc66)))) (in_w (-2147483648) 160000000 j66_3 rfl) (in_w 0 31 i86 rfl) (in_w 0 32 i172 rfl) n66 n66a n66b n66c n66d (m_up mm66 (t_add e172 i70 (in_c 1 rfl) rfl) (in_w 1 1 (in_c 1 rfl) rfl))))
  have ct9 : ∀ (k9 : Nat) (sc9 : GS) (y9_3 : Int32) (y9_4 : Int32) (y9_5 : Int32), Inv sc9 → Fr fm_78_65 s sc9 → (In y9_3 (-2147483648) 160000000) → (In y9_4 0 31) → (In y9_5 0 32) → (bt u_65_4 (y9_4).toNatClampNeg = true) → ((y9_4).toNatClampNeg = itv (s.1 68) (x2).toNatClampNeg (y9_5).toNatClampNeg) → (PTH (s.1 66) (s.1 68) (x2).toNatClampNeg (y9_3).toInt (y9_5).toNatClampNeg) → (∀ d, DLB ((s).1 67) ((s).1 68) (x1).toNatClampNeg (x2).toNatClampNeg ((s).2.2.1 65 4) d → (y9_5).toNatClampNeg ≤ d (x2).toNatClampNeg) → (0 < (y9_3).toInt) → ((sc9).1 66 = s.1 66 ∧ (sc9).1 67 = s.1 67) → 32 - (y9_5).toInt < (k9 : Int) → GG Z (d - 1) 78 post (gx xp) (29702 + k9 * 900) 9 (fun j => xlook j [(0, .ref (A 65)), (1, .int x1), (2, .int x2), (3, .int y9_3), (4, .int y9_4), (5, .int y9_5)]) [] (WW Z A sc9 ++ ex) 0 0 := by
    intro k9
    induction k9 with
    | zero => intro sc9 y9_3 y9_4 y9_5 hIc9 hFc9 j9_3 j9_4 j9_5 g9_0 g9_1 g9_2 g9_3 g9_4 g9_5 mm9; exact m_no mm9 j9_5 rfl
    | succ k9 ih9 =>
      intro sc9 y9_3 y9_4 y9_5 hIc9 hFc9 j9_3 j9_4 j9_5 g9_0 g9_1 g9_2 g9_3 g9_4 g9_5 mm9
      refine gg_w (M := 29702 + k9 * 900 + 900) gws ?_
      refine g_iload 11 (gd rfl) rfl rfl ?_
      refine g_bipush 32 13 (gd rfl) rfl rfl ?_
      refine g_cmp_ge 16 60 (gd rfl) rfl rfl (fun c13 => ?_) (fun c13 => ?_)
      · skip
        have i13 := r_le2 32 32 c13 (in_c 32 rfl) j9_5 rfl
        refine g_iload_n 61 (gd rfl) rfl rfl ?_
        refine g_istore 63 (gd rfl) rfl (Nat.le_of_ble_eq_true rfl) ?_
        refine g_iconst 0 64 (gd rfl) rfl rfl ?_
        refine g_istore 66 (gd rfl) rfl (Nat.le_of_ble_eq_true rfl) ?_
        have n66 : bt u_65_4 (x2).toNatClampNeg = true := by first | (rw [e_65_4]; exact q_1) | (rw [e_65_4]; exact hr86.2)
        have n66a : (x2).toNatClampNeg = itv (s.1 68) (x2).toNatClampNeg ((Int32.ofInt 0)).toNatClampNeg := by exact (show (x2).toNatClampNeg = itv _ _ 0 from rfl)
        have n66b : PSI (s.1 66) (s.1 67) ((sc9).1 66) ((sc9).1 67) (s.1 68) (x1).toNatClampNeg (x2).toNatClampNeg (s.2.2.1 65 4) (y9_3).toInt ((Int32.ofInt 0)).toNatClampNeg := by exact (show PSI _ _ _ _ _ _ _ _ _ 0 from (by rw [g9_5.1, g9_5.2]; exact psi_0 q_2 q_3))
        have n66c : ∃ n, PTH (s.1 66) (s.1 68) (x2).toNatClampNeg (y9_3).toInt n ∧ itv (s.1 68) (x2).toNatClampNeg n = (x1).toNatClampNeg ∧ ∀ d, DLB ((s).1 67) ((s).1 68) (x1).toNatClampNeg (x2).toNatClampNeg ((s).2.2.1 65 4) d → n ≤ d (x2).toNatClampNeg := by exfalso; obtain ⟨d9, hd9⟩ := q_4; have h8 := g9_3 d9 hd9; have h7 := hd9.2.2.1; have h6 : (y9_5).toNatClampNeg = (y9_5).toInt.toNat := rfl; (first | have a0 := in_u h2 | (have a0 := h2; unfold In at a0)); (first | have a1 := in_u h1 | (have a1 := h1; unfold In at a1)); (first | have a2 := in_u i13 | (have a2 := i13; unfold In at a2)); (first | have a3 := in_u j9_4 | (have a3 := j9_4; unfold In at a3)); (first | have a4 := in_u ((in_c 0 rfl)) | (have a4 := (in_c 0 rfl); unfold In at a4)); (first | have a5 := in_u j9_3 | (have a5 := j9_3; unfold In at a5)); have oc := oc_78_65; omega
        have n66d : 0 < (y9_3).toInt := by exact g9_4
        exact gg_w (by first | exact Nat.le_add_right _ _ | exact gw2 | exact gw3 | exact gwe rfl | exact gwf rfl | exact gwg rfl | exact gwh rfl | omega) (gg_f (gf_cons rfl (gf_cons rfl (gf_cons rfl (gf_cons rfl (gf_cons rfl (gf_cons rfl gf_nil)))))) (ct66 33 sc9 y9_3 x2 (Int32.ofInt 0) hIc9 hFc9 (in_w (-2147483648) 160000000 j9_3 rfl) (in_w 0 31 h2 rfl) (in_w 0 32 (in_c 0 rfl) rfl) n66 n66a n66b n66c n66d (m_in 33 (in_w 0 32 (in_c 0 rfl) rfl) rfl)))
      · skip
        have i13 := r_lt1 0 31 c13 j9_5 (in_c 32 rfl) rfl
        refine g_iload 18 (gd rfl) rfl rfl ?_
        refine g_iload_n 19 (gd rfl) rfl rfl ?_
        refine g_cmp_eq 22 60 (gd rfl) rfl rfl (fun c19 => ?_) (fun c19 => ?_)
        · skip
          refine g_iload_n 61 (gd rfl) rfl rfl ?_
          refine g_istore 63 (gd rfl) rfl (Nat.le_of_ble_eq_true rfl) ?_
          refine g_iconst 0 64 (gd rfl) rfl rfl ?_
          refine g_istore 66 (gd rfl) rfl (Nat.le_of_ble_eq_true rfl) ?_
          have n66 : bt u_65_4 (x2).toNatClampNeg = true := by first | (rw [e_65_4]; exact q_1) | (rw [e_65_4]; exact hr86.2)
          have n66a : (x2).toNatClampNeg = itv (s.1 68) (x2).toNatClampNeg ((Int32.ofInt 0)).toNatClampNeg := by exact (show (x2).toNatClampNeg = itv _ _ 0 from rfl)
          have n66b : PSI (s.1 66) (s.1 67) ((sc9).1 66) ((sc9).1 67) (s.1 68) (x1).toNatClampNeg (x2).toNatClampNeg (s.2.2.1 65 4) (y9_3).toInt ((Int32.ofInt 0)).toNatClampNeg := by exact (show PSI _ _ _ _ _ _ _ _ _ 0 from (by rw [g9_5.1, g9_5.2]; exact psi_0 q_2 q_3))
          have n66c : ∃ n, PTH (s.1 66) (s.1 68) (x2).toNatClampNeg (y9_3).toInt n ∧ itv (s.1 68) (x2).toNatClampNeg n = (x1).toNatClampNeg ∧ ∀ d, DLB ((s).1 67) ((s).1 68) (x1).toNatClampNeg (x2).toNatClampNeg ((s).2.2.1 65 4) d → n ≤ d (x2).toNatClampNeg := by exact ⟨_, g9_2, (show (itv (s.1 68) (x2).toNatClampNeg ((y9_5).toNatClampNeg)) = (x1).toNatClampNeg from (g9_1).symm.trans (congrArg Int.toNat c19)), g9_3⟩
          have n66d : 0 < (y9_3).toInt := by exact g9_4
          exact gg_w (by first | exact Nat.le_add_right _ _ | exact gw2 | exact gw3 | exact gwe rfl | exact gwf rfl | exact gwg rfl | exact gwh rfl | omega) (gg_f (gf_cons rfl (gf_cons rfl (gf_cons rfl (gf_cons rfl (gf_cons rfl (gf_cons rfl gf_nil)))))) (ct66 33 sc9 y9_3 x2 (Int32.ofInt 0) hIc9 hFc9 (in_w (-2147483648) 160000000 j9_3 rfl) (in_w 0 31 h2 rfl) (in_w 0 32 (in_c 0 rfl) rfl) n66 n66a n66b n66c n66d (m_in 33 (in_w 0 32 (in_c 0 rfl) rfl) rfl)))
        · skip
          refine g_iload_n 23 (gd rfl) rfl rfl ?_
          refine g_aload_n 24 (gd rfl) rfl rfl ?_
          refine g_getA (q2 := 66) 27 (gd rfl) rfl rfl rfl rfl ?_
          refine g_aload_n 28 (gd rfl) rfl rfl ?_
          refine g_getA (q2 := 68) 31 (gd rfl) rfl rfl rfl rfl ?_
          refine g_iload 33 (gd rfl) rfl rfl ?_
          refine g_iaload 34 (gd rfl) rfl (n := 32) rfl (in_ix j9_4 rfl) (fun z33 e33 => ?_)
          have i33 := inv_I hIc9 (n := 32) (t := 0) (-1) 319 rfl (in_ix j9_4 rfl) rfl e33
          have hr34 : In z33 0 31 ∧ bt (s.2.2.1 65 4) (z33).toNatClampNeg = true := by have hf := (hFc9 : Fr fm_78_65 s sc9).1 68 rfl; have hr := q_0 (y9_4).toNatClampNeg (by rw [← e_65_4]; exact g9_0) (by intro w; apply c19; have hq := j9_4; unfold In at hq; have hw : (((y9_4).toInt.toNat : Nat) : Int) = (x1).toInt := w; omega); rw [← hf, ← e33] at hr; exact hr
          have i34 : In z33 0 31 := by exact hr34.1
          refine g_bipush 32 36 (gd rfl) rfl rfl ?_
          refine g_imul 37 (gd rfl) rfl (fun z36 e36 => ?_)
          have i36 := in_mulc 32 0 992 (Or.inr e36) i34 rfl rfl
          refine g_iload 39 (gd rfl) rfl rfl ?_
          refine g_iadd 40 (gd rfl) rfl (fun z39 e39 => ?_)
          have i39 := in_add 0 1023 e39 i36 j9_4 rfl rfl
          refine g_iaload 41 (gd rfl) rfl (n := 1024) rfl (in_ix i39 rfl) (fun z40 e40 => ?_)
          refine g_calls (As := [.int y9_3, .int z40]) (r := []) 44 (gd rfl) rfl rfl rfl rfl rfl (Nat.le_of_ble_eq_true rfl) (mc := 0) (ms := 0) (Nat.zero_le _) (Nat.zero_le _) (P := fun v u => _) ?_ (fun v u h => h)
          intro po41 xx41 hp41 hx41
          refine g_enter2 (k := 424) (N := 300) (by first | exact dq1 hd rfl | exact dq0 hd rfl | exact dq2 hd rfl | exact dq3 hd rfl | omega) rfl (Nat.le_of_ble_eq_true rfl) ?_
          refine g_iload_n 1 (gd rfl) rfl rfl ?_
          refine g_iload_n 2 (gd rfl) rfl rfl ?_
          refine g_cmp_gt 5 9 (gd rfl) rfl rfl (fun c41x2 => ?_) (fun c41x2 => ?_)
          · skip
            have i41x2 := r_lt1 (-2147483648) 159999999 c41x2 (i_rng z40) j9_3 rfl
            have i41x2a := r_lt2 (-2147483647) 160000000 c41x2 (i_rng z40) j9_3 rfl
            refine g_iload_n 10 (gd rfl) rfl rfl ?_
            refine g_ireturn (gd rfl) rfl rfl (hp41 _ _ ?_)
            show GG _ _ _ _ _ _ _ _ [.int z40] _ _ _
            refine g_istore_n 45 (gd rfl) rfl (Nat.le_of_ble_eq_true rfl) ?_
            refine g_aload_n 46 (gd rfl) rfl rfl ?_
            refine g_getA (q2 := 68) 49 (gd rfl) rfl rfl rfl rfl ?_
            refine g_iload 51 (gd rfl) rfl rfl ?_
            refine g_iaload 52 (gd rfl) rfl (n := 32) rfl (in_ix j9_4 rfl) (fun z51 e51 => ?_)
            have q51 : z33 = z51 := (e33).trans e51.symm
            subst q51
            refine g_istore 54 (gd rfl) rfl (Nat.le_of_ble_eq_true rfl) ?_
            refine g_iinc 57 (gd rfl) rfl rfl (Nat.le_of_ble_eq_true rfl) (fun z54 e54 => ?_)
            have i54 := in_add 1 32 e54 i13 (in_c 1 rfl) rfl rfl
            refine g_goto 9 (gd rfl) rfl ?_
            have n9 : bt u_65_4 (z33).toNatClampNeg = true := by first | (rw [e_65_4]; exact q_1) | (rw [e_65_4]; exact hr34.2)
            have n9a : (z33).toNatClampNeg = itv (s.1 68) (x2).toNatClampNeg (z54).toNatClampNeg := by rw [(show (z54).toNatClampNeg = (y9_5).toNatClampNeg + 1 from (by show (z54).toInt.toNat = (y9_5).toInt.toNat + 1; (first | have a0 := in_u h2 | (have a0 := h2; unfold In at a0)); (first | have a1 := in_u h1 | (have a1 := h1; unfold In at a1)); (first | have a2 := in_u i13 | (have a2 := i13; unfold In at a2)); (first | have a3 := in_u j9_4 | (have a3 := j9_4; unfold In at a3)); (first | have a4 := in_u i54 | (have a4 := i54; unfold In at a4)); have a5 := t_add e54 i13 (in_c 1 rfl) rfl; (first | have a6 := in_u ((in_c 1 rfl)) | (have a6 := (in_c 1 rfl); unfold In at a6)); (first | have a7 := in_u i34 | (have a7 := i34; unfold In at a7)); (first | have a8 := in_u i41x2 | (have a8 := i41x2; unfold In at a8)); (first | have a9 := in_u i39 | (have a9 := i39; unfold In at a9)); have a10 := t_add e39 i36 j9_4 rfl; (first | have a11 := in_u i36 | (have a11 := i36; unfold In at a11)); have a12 := (t_mulc 32 (Or.inr e36) i34 rfl).1; have oc := oc_78_65; omega))]; show z33.toNatClampNeg = (s.1 68 (itv (s.1 68) (x2).toNatClampNeg ((y9_5).toNatClampNeg))).toNatClampNeg; rw [← g9_1, ← (show z33 = s.1 68 (y9_4).toNatClampNeg from (e33.trans (congrFun (hFc9.1 68 rfl) _)))]
            have n9b : PTH (s.1 66) (s.1 68) (x2).toNatClampNeg (z40).toInt (z54).toNatClampNeg := by have v33 := (show z33 = s.1 68 (y9_4).toNatClampNeg from (e33.trans (congrFun (hFc9.1 68 rfl) _))); have e40x := (show (z40).toInt = edL (s.1 66) (s.1 68) (x2).toNatClampNeg (y9_5).toNatClampNeg from (by show (z40).toInt = (s.1 66 (32 * (s.1 68 (itv (s.1 68) (x2).toNatClampNeg ((y9_5).toNatClampNeg))).toNatClampNeg + (itv (s.1 68) (x2).toNatClampNeg ((y9_5).toNatClampNeg)))).toInt; rw [← g9_1, ← (show z33 = s.1 68 (y9_4).toNatClampNeg from (e33.trans (congrFun (hFc9.1 68 rfl) _))), e40, (show z39.toNatClampNeg = 32 * z33.toNatClampNeg + (y9_4).toNatClampNeg from (by show z39.toInt.toNat = 32 * z33.toInt.toNat + (y9_4).toInt.toNat; have h9 := hr34.1; unfold In at h9; (first | have a0 := in_u h2 | (have a0 := h2; unfold In at a0)); (first | have a1 := in_u h1 | (have a1 := h1; unfold In at a1)); (first | have a2 := in_u i13 | (have a2 := i13; unfold In at a2)); (first | have a3 := in_u j9_4 | (have a3 := j9_4; unfold In at a3)); (first | have a4 := in_u i54 | (have a4 := i54; unfold In at a4)); have a5 := t_add e54 i13 (in_c 1 rfl) rfl; (first | have a6 := in_u ((in_c 1 rfl)) | (have a6 := (in_c 1 rfl); unfold In at a6)); (first | have a7 := in_u i34 | (have a7 := i34; unfold In at a7)); (first | have a8 := in_u i41x2 | (have a8 := i41x2; unfold In at a8)); (first | have a9 := in_u i39 | (have a9 := i39; unfold In at a9)); have a10 := t_add e39 i36 j9_4 rfl; (first | have a11 := in_u i36 | (have a11 := i36; unfold In at a11)); have a12 := (t_mulc 32 (Or.inr e36) i34 rfl).1; have oc := oc_78_65; omega)), g9_5.1])); have u32 : z33.toNatClampNeg < 32 := (by show z33.toInt.toNat < 32; have h9 := hr34.1; unfold In at h9; omega); have v32 : (y9_4).toNatClampNeg < 32 := (by show (y9_4).toInt.toNat < 32; (first | have a0 := in_u h2 | (have a0 := h2; unfold In at a0)); (first | have a1 := in_u h1 | (have a1 := h1; unfold In at a1)); (first | have a2 := in_u i13 | (have a2 := i13; unfold In at a2)); (first | have a3 := in_u j9_4 | (have a3 := j9_4; unfold In at a3)); (first | have a4 := in_u i54 | (have a4 := i54; unfold In at a4)); have a5 := t_add e54 i13 (in_c 1 rfl) rfl; (first | have a6 := in_u ((in_c 1 rfl)) | (have a6 := (in_c 1 rfl); unfold In at a6)); (first | have a7 := in_u i34 | (have a7 := i34; unfold In at a7)); (first | have a8 := in_u i41x2 | (have a8 := i41x2; unfold In at a8)); (first | have a9 := in_u i39 | (have a9 := i39; unfold In at a9)); have a10 := t_add e39 i36 j9_4 rfl; (first | have a11 := in_u i36 | (have a11 := i36; unfold In at a11)); have a12 := (t_mulc 32 (Or.inr e36) i34 rfl).1; have oc := oc_78_65; omega); have lb := q_2 z33.toNatClampNeg (y9_4).toNatClampNeg u32 v32; have lb2 := q_2 (y9_4).toNatClampNeg z33.toNatClampNeg v32 u32; have z40v : (s.1 66 (32 * z33.toNatClampNeg + (y9_4).toNatClampNeg)).toInt = (z40).toInt := (by rw [e40, (show z39.toNatClampNeg = 32 * z33.toNatClampNeg + (y9_4).toNatClampNeg from (by show z39.toInt.toNat = 32 * z33.toInt.toNat + (y9_4).toInt.toNat; have h9 := hr34.1; unfold In at h9; (first | have a0 := in_u h2 | (have a0 := h2; unfold In at a0)); (first | have a1 := in_u h1 | (have a1 := h1; unfold In at a1)); (first | have a2 := in_u i13 | (have a2 := i13; unfold In at a2)); (first | have a3 := in_u j9_4 | (have a3 := j9_4; unfold In at a3)); (first | have a4 := in_u i54 | (have a4 := i54; unfold In at a4)); have a5 := t_add e54 i13 (in_c 1 rfl) rfl; (first | have a6 := in_u ((in_c 1 rfl)) | (have a6 := (in_c 1 rfl); unfold In at a6)); (first | have a7 := in_u i34 | (have a7 := i34; unfold In at a7)); (first | have a8 := in_u i41x2 | (have a8 := i41x2; unfold In at a8)); (first | have a9 := in_u i39 | (have a9 := i39; unfold In at a9)); have a10 := t_add e39 i36 j9_4 rfl; (first | have a11 := in_u i36 | (have a11 := i36; unfold In at a11)); have a12 := (t_mulc 32 (Or.inr e36) i34 rfl).1; have oc := oc_78_65; omega)), g9_5.1]); rw [z40v] at lb; rw [(show (z54).toNatClampNeg = (y9_5).toNatClampNeg + 1 from (by show (z54).toInt.toNat = (y9_5).toInt.toNat + 1; (first | have a0 := in_u h2 | (have a0 := h2; unfold In at a0)); (first | have a1 := in_u h1 | (have a1 := h1; unfold In at a1)); (first | have a2 := in_u i13 | (have a2 := i13; unfold In at a2)); (first | have a3 := in_u j9_4 | (have a3 := j9_4; unfold In at a3)); (first | have a4 := in_u i54 | (have a4 := i54; unfold In at a4)); have a5 := t_add e54 i13 (in_c 1 rfl) rfl; (first | have a6 := in_u ((in_c 1 rfl)) | (have a6 := (in_c 1 rfl); unfold In at a6)); (first | have a7 := in_u i34 | (have a7 := i34; unfold In at a7)); (first | have a8 := in_u i41x2 | (have a8 := i41x2; unfold In at a8)); (first | have a9 := in_u i39 | (have a9 := i39; unfold In at a9)); have a10 := t_add e39 i36 j9_4 rfl; (first | have a11 := in_u i36 | (have a11 := i36; unfold In at a11)); have a12 := (t_mulc 32 (Or.inr e36) i34 rfl).1; have oc := oc_78_65; omega))]; first | exact pth_k g9_2 (by rw [← e40x]; (first | have a0 := in_u h2 | (have a0 := h2; unfold In at a0)); (first | have a1 := in_u h1 | (have a1 := h1; unfold In at a1)); (first | have a2 := in_u i13 | (have a2 := i13; unfold In at a2)); (first | have a3 := in_u j9_4 | (have a3 := j9_4; unfold In at a3)); (first | have a4 := in_u i54 | (have a4 := i54; unfold In at a4)); have a5 := t_add e54 i13 (in_c 1 rfl) rfl; (first | have a6 := in_u ((in_c 1 rfl)) | (have a6 := (in_c 1 rfl); unfold In at a6)); (first | have a7 := in_u i34 | (have a7 := i34; unfold In at a7)); (first | have a8 := in_u i41x2 | (have a8 := i41x2; unfold In at a8)); (first | have a9 := in_u i39 | (have a9 := i39; unfold In at a9)); have a10 := t_add e39 i36 j9_4 rfl; (first | have a11 := in_u i36 | (have a11 := i36; unfold In at a11)); have a12 := (t_mulc 32 (Or.inr e36) i34 rfl).1; have oc := oc_78_65; omega) (by rw [← e40x]; have h8 := lb.2; have h9 := lb2.1; omega) | exact pth_t g9_2 e40x (by (first | have a0 := in_u h2 | (have a0 := h2; unfold In at a0)); (first | have a1 := in_u h1 | (have a1 := h1; unfold In at a1)); (first | have a2 := in_u i13 | (have a2 := i13; unfold In at a2)); (first | have a3 := in_u j9_4 | (have a3 := j9_4; unfold In at a3)); (first | have a4 := in_u i54 | (have a4 := i54; unfold In at a4)); have a5 := t_add e54 i13 (in_c 1 rfl) rfl; (first | have a6 := in_u ((in_c 1 rfl)) | (have a6 := (in_c 1 rfl); unfold In at a6)); (first | have a7 := in_u i34 | (have a7 := i34; unfold In at a7)); (first | have a8 := in_u i41x2 | (have a8 := i41x2; unfold In at a8)); (first | have a9 := in_u i39 | (have a9 := i39; unfold In at a9)); have a10 := t_add e39 i36 j9_4 rfl; (first | have a11 := in_u i36 | (have a11 := i36; unfold In at a11)); have a12 := (t_mulc 32 (Or.inr e36) i34 rfl).1; have oc := oc_78_65; omega)
            have n9c : ∀ d, DLB ((s).1 67) ((s).1 68) (x1).toNatClampNeg (x2).toNatClampNeg ((s).2.2.1 65 4) d → (z54).toNatClampNeg ≤ d (x2).toNatClampNeg := by intro d hd; rw [(show (z54).toNatClampNeg = (y9_5).toNatClampNeg + 1 from (by show (z54).toInt.toNat = (y9_5).toInt.toNat + 1; (first | have a0 := in_u h2 | (have a0 := h2; unfold In at a0)); (first | have a1 := in_u h1 | (have a1 := h1; unfold In at a1)); (first | have a2 := in_u i13 | (have a2 := i13; unfold In at a2)); (first | have a3 := in_u j9_4 | (have a3 := j9_4; unfold In at a3)); (first | have a4 := in_u i54 | (have a4 := i54; unfold In at a4)); have a5 := t_add e54 i13 (in_c 1 rfl) rfl; (first | have a6 := in_u ((in_c 1 rfl)) | (have a6 := (in_c 1 rfl); unfold In at a6)); (first | have a7 := in_u i34 | (have a7 := i34; unfold In at a7)); (first | have a8 := in_u i41x2 | (have a8 := i41x2; unfold In at a8)); (first | have a9 := in_u i39 | (have a9 := i39; unfold In at a9)); have a10 := t_add e39 i36 j9_4 rfl; (first | have a11 := in_u i36 | (have a11 := i36; unfold In at a11)); have a12 := (t_mulc 32 (Or.inr e36) i34 rfl).1; have oc := oc_78_65; omega))]; exact itv_l hd (g9_3 d hd) (show (itv (s.1 68) (x2).toNatClampNeg ((y9_5).toNatClampNeg)) ≠ (x1).toNatClampNeg from (by rw [← g9_1]; show (y9_4).toInt.toNat ≠ (x1).toInt.toNat; (first | have a0 := in_u h2 | (have a0 := h2; unfold In at a0)); (first | have a1 := in_u h1 | (have a1 := h1; unfold In at a1)); (first | have a2 := in_u i13 | (have a2 := i13; unfold In at a2)); (first | have a3 := in_u j9_4 | (have a3 := j9_4; unfold In at a3)); (first | have a4 := in_u i54 | (have a4 := i54; unfold In at a4)); have a5 := t_add e54 i13 (in_c 1 rfl) rfl; (first | have a6 := in_u ((in_c 1 rfl)) | (have a6 := (in_c 1 rfl); unfold In at a6)); (first | have a7 := in_u i34 | (have a7 := i34; unfold In at a7)); (first | have a8 := in_u i41x2 | (have a8 := i41x2; unfold In at a8)); (first | have a9 := in_u i39 | (have a9 := i39; unfold In at a9)); have a10 := t_add e39 i36 j9_4 rfl; (first | have a11 := in_u i36 | (have a11 := i36; unfold In at a11)); have a12 := (t_mulc 32 (Or.inr e36) i34 rfl).1; have oc := oc_78_65; omega))
            have n9d : 0 < (z40).toInt := by first | exact g9_4 | (obtain ⟨d9, hd9⟩ := q_4; have ee := (itv_e hd9 (itv_l hd9 (g9_3 d9 hd9) (show (itv (s.1 68) (x2).toNatClampNeg ((y9_5).toNatClampNeg)) ≠ (x1).toNatClampNeg from (by rw [← g9_1]; show (y9_4).toInt.toNat ≠ (x1).toInt.toNat; (first | have a0 := in_u h2 | (have a0 := h2; unfold In at a0)); (first | have a1 := in_u h1 | (have a1 := h1; unfold In at a1)); (first | have a2 := in_u i13 | (have a2 := i13; unfold In at a2)); (first | have a3 := in_u j9_4 | (have a3 := j9_4; unfold In at a3)); (first | have a4 := in_u i54 | (have a4 := i54; unfold In at a4)); have a5 := t_add e54 i13 (in_c 1 rfl) rfl; (first | have a6 := in_u ((in_c 1 rfl)) | (have a6 := (in_c 1 rfl); unfold In at a6)); (first | have a7 := in_u i34 | (have a7 := i34; unfold In at a7)); (first | have a8 := in_u i41x2 | (have a8 := i41x2; unfold In at a8)); (first | have a9 := in_u i39 | (have a9 := i39; unfold In at a9)); have a10 := t_add e39 i36 j9_4 rfl; (first | have a11 := in_u i36 | (have a11 := i36; unfold In at a11)); have a12 := (t_mulc 32 (Or.inr e36) i34 rfl).1; have oc := oc_78_65; omega)))).1; have pp := (q_3 _ _ ee.1 ee.2.1).mp ee.2.2; have pp2 : 0 < edL (s.1 66) (s.1 68) (x2).toNatClampNeg (y9_5).toNatClampNeg := pp; rw [← (show (z40).toInt = edL (s.1 66) (s.1 68) (x2).toNatClampNeg (y9_5).toNatClampNeg from (by show (z40).toInt = (s.1 66 (32 * (s.1 68 (itv (s.1 68) (x2).toNatClampNeg ((y9_5).toNatClampNeg))).toNatClampNeg + (itv (s.1 68) (x2).toNatClampNeg ((y9_5).toNatClampNeg)))).toInt; rw [← g9_1, ← (show z33 = s.1 68 (y9_4).toNatClampNeg from (e33.trans (congrFun (hFc9.1 68 rfl) _))), e40, (show z39.toNatClampNeg = 32 * z33.toNatClampNeg + (y9_4).toNatClampNeg from (by show z39.toInt.toNat = 32 * z33.toInt.toNat + (y9_4).toInt.toNat; have h9 := hr34.1; unfold In at h9; (first | have a0 := in_u h2 | (have a0 := h2; unfold In at a0)); (first | have a1 := in_u h1 | (have a1 := h1; unfold In at a1)); (first | have a2 := in_u i13 | (have a2 := i13; unfold In at a2)); (first | have a3 := in_u j9_4 | (have a3 := j9_4; unfold In at a3)); (first | have a4 := in_u i54 | (have a4 := i54; unfold In at a4)); have a5 := t_add e54 i13 (in_c 1 rfl) rfl; (first | have a6 := in_u ((in_c 1 rfl)) | (have a6 := (in_c 1 rfl); unfold In at a6)); (first | have a7 := in_u i34 | (have a7 := i34; unfold In at a7)); (first | have a8 := in_u i41x2 | (have a8 := i41x2; unfold In at a8)); (first | have a9 := in_u i39 | (have a9 := i39; unfold In at a9)); have a10 := t_add e39 i36 j9_4 rfl; (first | have a11 := in_u i36 | (have a11 := i36; unfold In at a11)); have a12 := (t_mulc 32 (Or.inr e36) i34 rfl).1; have oc := oc_78_65; omega)), g9_5.1]))] at pp2; exact pp2)
            have n9e : (sc9).1 66 = s.1 66 ∧ (sc9).1 67 = s.1 67 := by exact g9_5
            exact gg_w (by first | exact Nat.le_add_right _ _ | exact gw2 | exact gw3 | exact gwe rfl | exact gwf rfl | exact gwg rfl | exact gwh rfl | omega) (gg_f (gf_cons rfl (gf_cons rfl (gf_cons rfl (gf_cons rfl (gf_cons rfl (gf_cons rfl gf_nil)))))) (ih9 sc9 z40 z33 z54 hIc9 hFc9 (in_w (-2147483648) 160000000 i41x2 rfl) (in_w 0 31 i34 rfl) (in_w 0 32 i54 rfl) n9 n9a n9b n9c n9d n9e (m_up mm9 (t_add e54 i13 (in_c 1 rfl) rfl) (in_w 1 1 (in_c 1 rfl) rfl))))
          · skip
            refine g_iload_n 6 (gd rfl) rfl rfl ?_
            refine g_goto 10 (gd rfl) rfl ?_
            refine g_ireturn (gd rfl) rfl rfl (hp41 _ _ ?_)
            show GG _ _ _ _ _ _ _ _ [.int y9_3] _ _ _
            refine g_istore_n 45 (gd rfl) rfl (Nat.le_of_ble_eq_true rfl) ?_
            refine g_aload_n 46 (gd rfl) rfl rfl ?_
            refine g_getA (q2 := 68) 49 (gd rfl) rfl rfl rfl rfl ?_
            refine g_iload 51 (gd rfl) rfl rfl ?_
            refine g_iaload 52 (gd rfl) rfl (n := 32) rfl (in_ix j9_4 rfl) (fun z51 e51 => ?_)
            have q51 : z33 = z51 := (e33).trans e51.symm
            subst q51
            refine g_istore 54 (gd rfl) rfl (Nat.le_of_ble_eq_true rfl) ?_
            refine g_iinc 57 (gd rfl) rfl rfl (Nat.le_of_ble_eq_true rfl) (fun z54 e54 => ?_)
            have i54 := in_add 1 32 e54 i13 (in_c 1 rfl) rfl rfl
            refine g_goto 9 (gd rfl) rfl ?_
            have n9 : bt u_65_4 (z33).toNatClampNeg = true := by first | (rw [e_65_4]; exact q_1) | (rw [e_65_4]; exact hr34.2)
            have n9a : (z33).toNatClampNeg = itv (s.1 68) (x2).toNatClampNeg (z54).toNatClampNeg := by rw [(show (z54).toNatClampNeg = (y9_5).toNatClampNeg + 1 from (by show (z54).toInt.toNat = (y9_5).toInt.toNat + 1; (first | have a0 := in_u h2 | (have a0 := h2; unfold In at a0)); (first | have a1 := in_u h1 | (have a1 := h1; unfold In at a1)); (first | have a2 := in_u i13 | (have a2 := i13; unfold In at a2)); (first | have a3 := in_u j9_4 | (have a3 := j9_4; unfold In at a3)); (first | have a4 := in_u i54 | (have a4 := i54; unfold In at a4)); have a5 := t_add e54 i13 (in_c 1 rfl) rfl; (first | have a6 := in_u ((in_c 1 rfl)) | (have a6 := (in_c 1 rfl); unfold In at a6)); (first | have a7 := in_u i34 | (have a7 := i34; unfold In at a7)); (first | have a8 := in_u j9_3 | (have a8 := j9_3; unfold In at a8)); (first | have a9 := in_u i39 | (have a9 := i39; unfold In at a9)); have a10 := t_add e39 i36 j9_4 rfl; (first | have a11 := in_u i36 | (have a11 := i36; unfold In at a11)); have a12 := (t_mulc 32 (Or.inr e36) i34 rfl).1; have oc := oc_78_65; omega))]; show z33.toNatClampNeg = (s.1 68 (itv (s.1 68) (x2).toNatClampNeg ((y9_5).toNatClampNeg))).toNatClampNeg; rw [← g9_1, ← (show z33 = s.1 68 (y9_4).toNatClampNeg from (e33.trans (congrFun (hFc9.1 68 rfl) _)))]
            have n9b : PTH (s.1 66) (s.1 68) (x2).toNatClampNeg (y9_3).toInt (z54).toNatClampNeg := by have v33 := (show z33 = s.1 68 (y9_4).toNatClampNeg from (e33.trans (congrFun (hFc9.1 68 rfl) _))); have e40x := (show (z40).toInt = edL (s.1 66) (s.1 68) (x2).toNatClampNeg (y9_5).toNatClampNeg from (by show (z40).toInt = (s.1 66 (32 * (s.1 68 (itv (s.1 68) (x2).toNatClampNeg ((y9_5).toNatClampNeg))).toNatClampNeg + (itv (s.1 68) (x2).toNatClampNeg ((y9_5).toNatClampNeg)))).toInt; rw [← g9_1, ← (show z33 = s.1 68 (y9_4).toNatClampNeg from (e33.trans (congrFun (hFc9.1 68 rfl) _))), e40, (show z39.toNatClampNeg = 32 * z33.toNatClampNeg + (y9_4).toNatClampNeg from (by show z39.toInt.toNat = 32 * z33.toInt.toNat + (y9_4).toInt.toNat; have h9 := hr34.1; unfold In at h9; (first | have a0 := in_u h2 | (have a0 := h2; unfold In at a0)); (first | have a1 := in_u h1 | (have a1 := h1; unfold In at a1)); (first | have a2 := in_u i13 | (have a2 := i13; unfold In at a2)); (first | have a3 := in_u j9_4 | (have a3 := j9_4; unfold In at a3)); (first | have a4 := in_u i54 | (have a4 := i54; unfold In at a4)); have a5 := t_add e54 i13 (in_c 1 rfl) rfl; (first | have a6 := in_u ((in_c 1 rfl)) | (have a6 := (in_c 1 rfl); unfold In at a6)); (first | have a7 := in_u i34 | (have a7 := i34; unfold In at a7)); (first | have a8 := in_u j9_3 | (have a8 := j9_3; unfold In at a8)); (first | have a9 := in_u i39 | (have a9 := i39; unfold In at a9)); have a10 := t_add e39 i36 j9_4 rfl; (first | have a11 := in_u i36 | (have a11 := i36; unfold In at a11)); have a12 := (t_mulc 32 (Or.inr e36) i34 rfl).1; have oc := oc_78_65; omega)), g9_5.1])); have u32 : z33.toNatClampNeg < 32 := (by show z33.toInt.toNat < 32; have h9 := hr34.1; unfold In at h9; omega); have v32 : (y9_4).toNatClampNeg < 32 := (by show (y9_4).toInt.toNat < 32; (first | have a0 := in_u h2 | (have a0 := h2; unfold In at a0)); (first | have a1 := in_u h1 | (have a1 := h1; unfold In at a1)); (first | have a2 := in_u i13 | (have a2 := i13; unfold In at a2)); (first | have a3 := in_u j9_4 | (have a3 := j9_4; unfold In at a3)); (first | have a4 := in_u i54 | (have a4 := i54; unfold In at a4)); have a5 := t_add e54 i13 (in_c 1 rfl) rfl; (first | have a6 := in_u ((in_c 1 rfl)) | (have a6 := (in_c 1 rfl); unfold In at a6)); (first | have a7 := in_u i34 | (have a7 := i34; unfold In at a7)); (first | have a8 := in_u j9_3 | (have a8 := j9_3; unfold In at a8)); (first | have a9 := in_u i39 | (have a9 := i39; unfold In at a9)); have a10 := t_add e39 i36 j9_4 rfl; (first | have a11 := in_u i36 | (have a11 := i36; unfold In at a11)); have a12 := (t_mulc 32 (Or.inr e36) i34 rfl).1; have oc := oc_78_65; omega); have lb := q_2 z33.toNatClampNeg (y9_4).toNatClampNeg u32 v32; have lb2 := q_2 (y9_4).toNatClampNeg z33.toNatClampNeg v32 u32; have z40v : (s.1 66 (32 * z33.toNatClampNeg + (y9_4).toNatClampNeg)).toInt = (z40).toInt := (by rw [e40, (show z39.toNatClampNeg = 32 * z33.toNatClampNeg + (y9_4).toNatClampNeg from (by show z39.toInt.toNat = 32 * z33.toInt.toNat + (y9_4).toInt.toNat; have h9 := hr34.1; unfold In at h9; (first | have a0 := in_u h2 | (have a0 := h2; unfold In at a0)); (first | have a1 := in_u h1 | (have a1 := h1; unfold In at a1)); (first | have a2 := in_u i13 | (have a2 := i13; unfold In at a2)); (first | have a3 := in_u j9_4 | (have a3 := j9_4; unfold In at a3)); (first | have a4 := in_u i54 | (have a4 := i54; unfold In at a4)); have a5 := t_add e54 i13 (in_c 1 rfl) rfl; (first | have a6 := in_u ((in_c 1 rfl)) | (have a6 := (in_c 1 rfl); unfold In at a6)); (first | have a7 := in_u i34 | (have a7 := i34; unfold In at a7)); (first | have a8 := in_u j9_3 | (have a8 := j9_3; unfold In at a8)); (first | have a9 := in_u i39 | (have a9 := i39; unfold In at a9)); have a10 := t_add e39 i36 j9_4 rfl; (first | have a11 := in_u i36 | (have a11 := i36; unfold In at a11)); have a12 := (t_mulc 32 (Or.inr e36) i34 rfl).1; have oc := oc_78_65; omega)), g9_5.1]); rw [z40v] at lb; rw [(show (z54).toNatClampNeg = (y9_5).toNatClampNeg + 1 from (by show (z54).toInt.toNat = (y9_5).toInt.toNat + 1; (first | have a0 := in_u h2 | (have a0 := h2; unfold In at a0)); (first | have a1 := in_u h1 | (have a1 := h1; unfold In at a1)); (first | have a2 := in_u i13 | (have a2 := i13; unfold In at a2)); (first | have a3 := in_u j9_4 | (have a3 := j9_4; unfold In at a3)); (first | have a4 := in_u i54 | (have a4 := i54; unfold In at a4)); have a5 := t_add e54 i13 (in_c 1 rfl) rfl; (first | have a6 := in_u ((in_c 1 rfl)) | (have a6 := (in_c 1 rfl); unfold In at a6)); (first | have a7 := in_u i34 | (have a7 := i34; unfold In at a7)); (first | have a8 := in_u j9_3 | (have a8 := j9_3; unfold In at a8)); (first | have a9 := in_u i39 | (have a9 := i39; unfold In at a9)); have a10 := t_add e39 i36 j9_4 rfl; (first | have a11 := in_u i36 | (have a11 := i36; unfold In at a11)); have a12 := (t_mulc 32 (Or.inr e36) i34 rfl).1; have oc := oc_78_65; omega))]; first | exact pth_k g9_2 (by rw [← e40x]; (first | have a0 := in_u h2 | (have a0 := h2; unfold In at a0)); (first | have a1 := in_u h1 | (have a1 := h1; unfold In at a1)); (first | have a2 := in_u i13 | (have a2 := i13; unfold In at a2)); (first | have a3 := in_u j9_4 | (have a3 := j9_4; unfold In at a3)); (first | have a4 := in_u i54 | (have a4 := i54; unfold In at a4)); have a5 := t_add e54 i13 (in_c 1 rfl) rfl; (first | have a6 := in_u ((in_c 1 rfl)) | (have a6 := (in_c 1 rfl); unfold In at a6)); (first | have a7 := in_u i34 | (have a7 := i34; unfold In at a7)); (first | have a8 := in_u j9_3 | (have a8 := j9_3; unfold In at a8)); (first | have a9 := in_u i39 | (have a9 := i39; unfold In at a9)); have a10 := t_add e39 i36 j9_4 rfl; (first | have a11 := in_u i36 | (have a11 := i36; unfold In at a11)); have a12 := (t_mulc 32 (Or.inr e36) i34 rfl).1; have oc := oc_78_65; omega) (by rw [← e40x]; have h8 := lb.2; have h9 := lb2.1; omega) | exact pth_t g9_2 e40x (by (first | have a0 := in_u h2 | (have a0 := h2; unfold In at a0)); (first | have a1 := in_u h1 | (have a1 := h1; unfold In at a1)); (first | have a2 := in_u i13 | (have a2 := i13; unfold In at a2)); (first | have a3 := in_u j9_4 | (have a3 := j9_4; unfold In at a3)); (first | have a4 := in_u i54 | (have a4 := i54; unfold In at a4)); have a5 := t_add e54 i13 (in_c 1 rfl) rfl; (first | have a6 := in_u ((in_c 1 rfl)) | (have a6 := (in_c 1 rfl); unfold In at a6)); (first | have a7 := in_u i34 | (have a7 := i34; unfold In at a7)); (first | have a8 := in_u j9_3 | (have a8 := j9_3; unfold In at a8)); (first | have a9 := in_u i39 | (have a9 := i39; unfold In at a9)); have a10 := t_add e39 i36 j9_4 rfl; (first | have a11 := in_u i36 | (have a11 := i36; unfold In at a11)); have a12 := (t_mulc 32 (Or.inr e36) i34 rfl).1; have oc := oc_78_65; omega)
            have n9c : ∀ d, DLB ((s).1 67) ((s).1 68) (x1).toNatClampNeg (x2).toNatClampNeg ((s).2.2.1 65 4) d → (z54).toNatClampNeg ≤ d (x2).toNatClampNeg := by intro d hd; rw [(show (z54).toNatClampNeg = (y9_5).toNatClampNeg + 1 from (by show (z54).toInt.toNat = (y9_5).toInt.toNat + 1; (first | have a0 := in_u h2 | (have a0 := h2; unfold In at a0)); (first | have a1 := in_u h1 | (have a1 := h1; unfold In at a1)); (first | have a2 := in_u i13 | (have a2 := i13; unfold In at a2)); (first | have a3 := in_u j9_4 | (have a3 := j9_4; unfold In at a3)); (first | have a4 := in_u i54 | (have a4 := i54; unfold In at a4)); have a5 := t_add e54 i13 (in_c 1 rfl) rfl; (first | have a6 := in_u ((in_c 1 rfl)) | (have a6 := (in_c 1 rfl); unfold In at a6)); (first | have a7 := in_u i34 | (have a7 := i34; unfold In at a7)); (first | have a8 := in_u j9_3 | (have a8 := j9_3; unfold In at a8)); (first | have a9 := in_u i39 | (have a9 := i39; unfold In at a9)); have a10 := t_add e39 i36 j9_4 rfl; (first | have a11 := in_u i36 | (have a11 := i36; unfold In at a11)); have a12 := (t_mulc 32 (Or.inr e36) i34 rfl).1; have oc := oc_78_65; omega))]; exact itv_l hd (g9_3 d hd) (show (itv (s.1 68) (x2).toNatClampNeg ((y9_5).toNatClampNeg)) ≠ (x1).toNatClampNeg from (by rw [← g9_1]; show (y9_4).toInt.toNat ≠ (x1).toInt.toNat; (first | have a0 := in_u h2 | (have a0 := h2; unfold In at a0)); (first | have a1 := in_u h1 | (have a1 := h1; unfold In at a1)); (first | have a2 := in_u i13 | (have a2 := i13; unfold In at a2)); (first | have a3 := in_u j9_4 | (have a3 := j9_4; unfold In at a3)); (first | have a4 := in_u i54 | (have a4 := i54; unfold In at a4)); have a5 := t_add e54 i13 (in_c 1 rfl) rfl; (first | have a6 := in_u ((in_c 1 rfl)) | (have a6 := (in_c 1 rfl); unfold In at a6)); (first | have a7 := in_u i34 | (have a7 := i34; unfold In at a7)); (first | have a8 := in_u j9_3 | (have a8 := j9_3; unfold In at a8)); (first | have a9 := in_u i39 | (have a9 := i39; unfold In at a9)); have a10 := t_add e39 i36 j9_4 rfl; (first | have a11 := in_u i36 | (have a11 := i36; unfold In at a11)); have a12 := (t_mulc 32 (Or.inr e36) i34 rfl).1; have oc := oc_78_65; omega))
            have n9d : 0 < (y9_3).toInt := by first | exact g9_4 | (first | exact g9_4 | (obtain ⟨d9, hd9⟩ := q_4; have ee := (itv_e hd9 (itv_l hd9 (g9_3 d9 hd9) (show (itv (s.1 68) (x2).toNatClampNeg ((y9_5).toNatClampNeg)) ≠ (x1).toNatClampNeg from (by rw [← g9_1]; show (y9_4).toInt.toNat ≠ (x1).toInt.toNat; (first | have a0 := in_u h2 | (have a0 := h2; unfold In at a0)); (first | have a1 := in_u h1 | (have a1 := h1; unfold In at a1)); (first | have a2 := in_u i13 | (have a2 := i13; unfold In at a2)); (first | have a3 := in_u j9_4 | (have a3 := j9_4; unfold In at a3)); (first | have a4 := in_u i54 | (have a4 := i54; unfold In at a4)); have a5 := t_add e54 i13 (in_c 1 rfl) rfl; (first | have a6 := in_u ((in_c 1 rfl)) | (have a6 := (in_c 1 rfl); unfold In at a6)); (first | have a7 := in_u i34 | (have a7 := i34; unfold In at a7)); (first | have a8 := in_u j9_3 | (have a8 := j9_3; unfold In at a8)); (first | have a9 := in_u i39 | (have a9 := i39; unfold In at a9)); have a10 := t_add e39 i36 j9_4 rfl; (first | have a11 := in_u i36 | (have a11 := i36; unfold In at a11)); have a12 := (t_mulc 32 (Or.inr e36) i34 rfl).1; have oc := oc_78_65; omega)))).1; have pp := (q_3 _ _ ee.1 ee.2.1).mp ee.2.2; have pp2 : 0 < edL (s.1 66) (s.1 68) (x2).toNatClampNeg (y9_5).toNatClampNeg := pp; rw [← (show (z40).toInt = edL (s.1 66) (s.1 68) (x2).toNatClampNeg (y9_5).toNatClampNeg from (by show (z40).toInt = (s.1 66 (32 * (s.1 68 (itv (s.1 68) (x2).toNatClampNeg ((y9_5).toNatClampNeg))).toNatClampNeg + (itv (s.1 68) (x2).toNatClampNeg ((y9_5).toNatClampNeg)))).toInt; rw [← g9_1, ← (show z33 = s.1 68 (y9_4).toNatClampNeg from (e33.trans (congrFun (hFc9.1 68 rfl) _))), e40, (show z39.toNatClampNeg = 32 * z33.toNatClampNeg + (y9_4).toNatClampNeg from (by show z39.toInt.toNat = 32 * z33.toInt.toNat + (y9_4).toInt.toNat; have h9 := hr34.1; unfold In at h9; (first | have a0 := in_u h2 | (have a0 := h2; unfold In at a0)); (first | have a1 := in_u h1 | (have a1 := h1; unfold In at a1)); (first | have a2 := in_u i13 | (have a2 := i13; unfold In at a2)); (first | have a3 := in_u j9_4 | (have a3 := j9_4; unfold In at a3)); (first | have a4 := in_u i54 | (have a4 := i54; unfold In at a4)); have a5 := t_add e54 i13 (in_c 1 rfl) rfl; (first | have a6 := in_u ((in_c 1 rfl)) | (have a6 := (in_c 1 rfl); unfold In at a6)); (first | have a7 := in_u i34 | (have a7 := i34; unfold In at a7)); (first | have a8 := in_u j9_3 | (have a8 := j9_3; unfold In at a8)); (first | have a9 := in_u i39 | (have a9 := i39; unfold In at a9)); have a10 := t_add e39 i36 j9_4 rfl; (first | have a11 := in_u i36 | (have a11 := i36; unfold In at a11)); have a12 := (t_mulc 32 (Or.inr e36) i34 rfl).1; have oc := oc_78_65; omega)), g9_5.1]))] at pp2; exact pp2))
            have n9e : (sc9).1 66 = s.1 66 ∧ (sc9).1 67 = s.1 67 := by exact g9_5
            exact gg_w (by first | exact Nat.le_add_right _ _ | exact gw2 | exact gw3 | exact gwe rfl | exact gwf rfl | exact gwg rfl | exact gwh rfl | omega) (gg_f (gf_cons rfl (gf_cons rfl (gf_cons rfl (gf_cons rfl (gf_cons rfl (gf_cons rfl gf_nil)))))) (ih9 sc9 y9_3 z33 z54 hIc9 hFc9 (in_w (-2147483648) 160000000 j9_3 rfl) (in_w 0 31 i34 rfl) (in_w 0 32 i54 rfl) n9 n9a n9b n9c n9d n9e (m_up mm9 (t_add e54 i13 (in_c 1 rfl) rfl) (in_w 1 1 (in_c 1 rfl) rfl))))
  refine g_enter2 (k := 78) (N := 60302) (by first | exact dq1 hd rfl | exact dq0 hd rfl | exact dq2 hd rfl | exact dq3 hd rfl | omega) rfl (Nat.le_of_ble_eq_true rfl) ?_
  refine g_ldc 160000000 2 (gd rfl) rfl rfl ?_
  refine g_istore_n 3 (gd rfl) rfl (Nat.le_of_ble_eq_true rfl) ?_
  refine g_iload_n 4 (gd rfl) rfl rfl ?_
  refine g_istore 6 (gd rfl) rfl (Nat.le_of_ble_eq_true rfl) ?_
  refine g_iconst 0 7 (gd rfl) rfl rfl ?_
  refine g_istore 9 (gd rfl) rfl (Nat.le_of_ble_eq_true rfl) ?_
  have n9 : bt u_65_4 (x2).toNatClampNeg = true := by first | (rw [e_65_4]; exact q_1) | (rw [e_65_4]; exact hr34.2)
  have n9a : (x2).toNatClampNeg = itv (s.1 68) (x2).toNatClampNeg ((Int32.ofInt 0)).toNatClampNeg := by exact (show (x2).toNatClampNeg = itv _ _ 0 from rfl)
  have n9b : PTH (s.1 66) (s.1 68) (x2).toNatClampNeg ((Int32.ofInt 160000000)).toInt ((Int32.ofInt 0)).toNatClampNeg := by exact (show PTH _ _ _ 160000000 0 from pth_0)
  have n9c : ∀ d, DLB ((s).1 67) ((s).1 68) (x1).toNatClampNeg (x2).toNatClampNeg ((s).2.2.1 65 4) d → ((Int32.ofInt 0)).toNatClampNeg ≤ d (x2).toNatClampNeg := by intro d hd; exact (show 0 ≤ d _ from Nat.zero_le _)
  have n9d : 0 < ((Int32.ofInt 160000000)).toInt := by decide
  have n9e : (s).1 66 = s.1 66 ∧ (s).1 67 = s.1 67 := by exact ⟨rfl, rfl⟩
  exact gg_w (by first | exact Nat.le_of_ble_eq_true rfl | omega) (gg_f (gf_cons rfl (gf_cons rfl (gf_cons rfl (gf_cons rfl (gf_cons rfl (gf_cons rfl gf_nil)))))) (ct9 33 s (Int32.ofInt 160000000) x2 (Int32.ofInt 0) hI fr_rf (in_w (-2147483648) 160000000 (in_c 160000000 rfl) rfl) (in_w 0 31 h2 rfl) (in_w 0 32 (in_c 0 rfl) rfl) n9 n9a n9b n9c n9d n9e (m_in 33 (in_w 0 32 (in_c 0 rfl) rfl) rfl)))

theorem oc_75_65_2 : (Int32.ofInt (-1)).toInt = (-1) ∧ (Int32.ofInt 0).toInt = 0 ∧ (Int32.ofInt 1).toInt = 1 ∧ (Int32.ofInt 1000000).toInt = 1000000 ∧ (Int64.ofInt 0).toInt = 0 := ⟨rfl, rfl, rfl, rfl, rfl⟩
/-- GraphHouse$Flows.greatest -/
theorem f_75_65_2 {Z : AmZ} {A : Nat → Nat} {s : GS} {ex : va_W} {d : Nat} {X : AmX} {x2 : Int32} {x3 : Int32} (hd : 5 ≤ d) (hI : Inv s) (h2 : In x2 0 31) (h3 : In x3 0 31) (q_0 : TQ s) (q_1 : FLB (gvC s) s) (q_2 : (x2).toInt ≠ (x3).toInt) : GC Z d 75 [.ref (A 65), .ref (A 2), .int x2, .int x3] (WW Z A s ++ ex) 0 0 (fun v u => ∃ t : GS, Inv t ∧ Fr fm_75_65_2 s t ∧ ∃ z : Int64, v = some (.long z) ∧ u = WW Z A t ++ ex ∧ (FLQ (gvC s) t ∧ FLA t x2 x3) ∧ ((z).toInt = ((t).2.2.2.1 65 3).toInt)) X := by
  intro post xp hP hX
  obtain ⟨u_2_0, e_2_0⟩ : ∃ w, w = s.2.2.1 2 0 := ⟨_, rfl⟩
  have ro_2_0 := inv_F hI 0 4000 rfl e_2_0
  have ct63 : ∀ (k63 : Nat) (sc63 : GS) (y63_4 : Int32), Inv sc63 → Fr fm_75_65_2 s sc63 → (In y63_4 0 2147483647) → (CFL (gvC s) (x2).toNatClampNeg (x3).toNatClampNeg ((sc63).1 66) ((sc63).1 67) ((sc63).2.2.2.1 65 3).toInt ∧ EKI ((sc63).1 67) (x2).toNatClampNeg (x3).toNatClampNeg (y63_4).toNatClampNeg ∧ 0 ≤ ((sc63).2.2.2.1 65 3).toInt) → ((sc63).2.2.1 65 0 = s.2.2.1 2 0 ∧ (sc63).2.2.1 65 1 = x2 ∧ (sc63).2.2.1 65 2 = x3) → 2147483647 - (y63_4).toInt < (k63 : Int) → GG Z (d - 1) 75 post (gx xp) (1 + k63 * 900) 63 (fun j => xlook j [(0, .ref (A 65)), (1, .ref (A 2)), (2, .int x2), (3, .int x3), (4, .int y63_4)]) [] (WW Z A sc63 ++ ex) 0 0 := by
    intro k63
    induction k63 with
    | zero => intro sc63 y63_4 hIc63 hFc63 j63_4 g63_0 g63_1 mm63; exact m_no mm63 j63_4 rfl
    | succ k63 ih63 =>
      intro sc63 y63_4 hIc63 hFc63 j63_4 g63_0 g63_1 mm63
      refine gg_w (M := 1 + k63 * 900 + 900) gws ?_
      refine g_iload 65 (gd rfl) rfl rfl ?_
      refine g_ldc 1000000 67 (gd rfl) rfl rfl ?_
      refine g_cmp_ge 70 101 (gd rfl) rfl rfl (fun c67 => ?_) (fun c67 => ?_)
      · skip
        have i67 := r_le2 1000000 2147483647 c67 (in_c 1000000 rfl) j63_4 rfl
        refine g_aload_n 102 (gd rfl) rfl rfl ?_
        refine g_getL 105 (gd rfl) rfl rfl rfl (fun z102 e102 => ?_)
        have n105 : FLQ (gvC s) sc63 ∧ FLA sc63 x2 x3 := by exfalso; have h9 := eki_b g63_0.2.1; have h8 : (y63_4).toNatClampNeg = (y63_4).toInt.toNat := rfl; (first | have a0 := in_u h3 | (have a0 := h3; unfold In at a0)); (first | have a1 := in_u h2 | (have a1 := h2; unfold In at a1)); (first | have a2 := in_u ro_2_0 | (have a2 := ro_2_0; unfold In at a2)); (first | have a3 := in_u i67 | (have a3 := i67; unfold In at a3)); have oc := oc_75_65_2; omega
        have n105a : (z102).toInt = ((sc63).2.2.2.1 65 3).toInt := by exfalso; have h9 := eki_b g63_0.2.1; have h8 : (y63_4).toNatClampNeg = (y63_4).toInt.toNat := rfl; (first | have a0 := in_u h3 | (have a0 := h3; unfold In at a0)); (first | have a1 := in_u h2 | (have a1 := h2; unfold In at a1)); (first | have a2 := in_u ro_2_0 | (have a2 := ro_2_0; unfold In at a2)); (first | have a3 := in_u i67 | (have a3 := i67; unfold In at a3)); have oc := oc_75_65_2; omega
        exact g_lreturn (gd rfl) rfl (hP _ _ ⟨sc63, hIc63, hFc63, z102, rfl, rfl, n105, n105a⟩)
      · skip
        have i67 := r_lt1 0 999999 c67 j63_4 (in_c 1000000 rfl) rfl
        refine g_aload_n 71 (gd rfl) rfl rfl ?_
        refine g_iload_n 72 (gd rfl) rfl rfl ?_
        refine g_iload_n 73 (gd rfl) rfl rfl ?_
        refine g_callv (X := _) (As := [.int x2, .int x3]) (r := []) (b := A 65) (q := 65) 76 (gd rfl) rfl rfl rfl rfl rfl (ww_o rfl) (Nat.le_of_ble_eq_true rfl) (Nat.zero_le _) (Nat.zero_le _) (f_77_65 (by first | exact dq1 hd rfl | exact dq0 hd rfl | exact dq2 hd rfl | exact dq3 hd rfl | omega) hIc63 (in_w 0 31 h2 rfl) (in_w 0 31 h3 rfl)) (fun e u h => h) (fun v u h => ?_)
        obtain ⟨s73, hI73, hF73, z73, rfl, rfl, i73, p73, p73a, p73b, p73c⟩ := h
        show GG _ _ _ _ _ _ _ _ [.int z73] _ _ _
        refine g_if_eq 79 101 (gd rfl) rfl rfl (fun c76 => ?_) (fun c76 => ?_)
        · skip
          have i76 := z_eq 0 0 c76 i73 rfl
          refine g_aload_n 102 (gd rfl) rfl rfl ?_
          refine g_getL 105 (gd rfl) rfl rfl rfl (fun z102 e102 => ?_)
          have n105 : FLQ (gvC s) s73 ∧ FLA s73 x2 x3 := by refine flq_e (show (s73.2.2.1 65 0).toInt = (gvC s).2.2.2.2.2.2.2 from (by show (s73.2.2.1 65 0).toInt = (s.2.2.1 2 0).toInt; rw [hF73.2.2.1 65 0 rfl, g63_1.1])) ((hF73.2.2.1 65 1 rfl).trans g63_1.2.1) ((hF73.2.2.1 65 2 rfl).trans g63_1.2.2) ?_; rw [hF73.2.2.2 65 3 rfl]; have w9 := p73c c76; exact cfl_fl (X := fun v => bt (s73.2.2.1 65 4) v) g63_0.1 w9.2.1 w9.1 w9.2.2.2 (fun v _ hv => w9.2.2.1 v hv)
          have n105a : (z102).toInt = ((s73).2.2.2.1 65 3).toInt := by rw [e102]
          exact g_lreturn (gd rfl) rfl (hP _ _ ⟨s73, hI73, (fr_tr rfl hFc63 hF73), z102, rfl, rfl, n105, n105a⟩)
        · skip
          have i76 := z_ne 1 1 c76 i73 rfl
          refine g_aload_n 80 (gd rfl) rfl rfl ?_
          refine g_dup 81 (gd rfl) rfl rfl ?_
          refine g_getL 84 (gd rfl) rfl rfl rfl (fun z81 e81 => ?_)
          refine g_aload_n 85 (gd rfl) rfl rfl ?_
          refine g_iload_n 86 (gd rfl) rfl rfl ?_
          refine g_iload_n 87 (gd rfl) rfl rfl ?_
          have p87 : RV (s73.1 68) (s73.2.2.1 65 4) x2 := by exact p73
          have p87a : bt (s73.2.2.1 65 4) (x3).toNatClampNeg = true := by exact p73a c76
          have p87b : LNN ((s73).1 66) 160000000 := by rw [hF73.1 66 rfl]; exact g63_0.1.1
          have p87c : OPQ ((s73).1 66) ((s73).1 67) := by rw [hF73.1 66 rfl, hF73.1 67 rfl]; exact g63_0.1.2.1
          have p87d : ∃ d, DLB ((s73).1 67) ((s73).1 68) (x2).toNatClampNeg (x3).toNatClampNeg ((s73).2.2.1 65 4) d := by rw [hF73.1 67 rfl]; exact p73b c76
          refine g_callv (X := _) (As := [.int x2, .int x3]) (r := [.long z81, .ref (A 65)]) (b := A 65) (q := 65) 90 (gd rfl) rfl rfl rfl rfl rfl (ww_o rfl) (Nat.le_of_ble_eq_true rfl) (Nat.zero_le _) (Nat.zero_le _) (f_78_65 (by first | exact dq1 hd rfl | exact dq0 hd rfl | exact dq2 hd rfl | exact dq3 hd rfl | omega) hI73 (in_w 0 31 h2 rfl) (in_w 0 31 h3 rfl) rfl p87 p87a p87b p87c p87d) (fun e u h => h) (fun v u h => ?_)
          obtain ⟨s87, hI87, hF87, z87, rfl, rfl, i87, p87e, p87f⟩ := h
          show GG _ _ _ _ _ _ _ _ [.int z87, .long z81, .ref (A 65)] _ _ _
          refine g_i2l 91 (gd rfl) rfl (fun z90 e90 => ?_)
          have i90 := l_i e90 i87
          refine g_ladd 92 (gd rfl) rfl (fun z91 e91 => ?_)
          refine g_putL 95 (gd rfl) rfl rfl rfl rfl ?_
          have hI92 := inv_sG (q := 65) (j := 3) (x := z91) hI87 rfl (l_rng z91)
          refine g_iinc 98 (gd rfl) rfl rfl (Nat.le_of_ble_eq_true rfl) (fun z95 e95 => ?_)
          have i95 := in_add 1 1000000 e95 i67 (in_c 1 rfl) rfl rfl
          refine g_goto 63 (gd rfl) rfl ?_
          have n63 : CFL (gvC s) (x2).toNatClampNeg (x3).toNatClampNeg (((sG s87 65 3 z91)).1 66) (((sG s87 65 3 z91)).1 67) (((sG s87 65 3 z91)).2.2.2.1 65 3).toInt ∧ EKI (((sG s87 65 3 z91)).1 67) (x2).toNatClampNeg (x3).toNatClampNeg (z95).toNatClampNeg ∧ 0 ≤ (((sG s87 65 3 z91)).2.2.2.1 65 3).toInt := by rw [(show (z95).toNatClampNeg = (y63_4).toNatClampNeg + 1 from (by show (z95).toInt.toNat = (y63_4).toInt.toNat + 1; (first | have a0 := in_u h3 | (have a0 := h3; unfold In at a0)); (first | have a1 := in_u h2 | (have a1 := h2; unfold In at a1)); (first | have a2 := in_u ro_2_0 | (have a2 := ro_2_0; unfold In at a2)); (first | have a3 := in_u i67 | (have a3 := i67; unfold In at a3)); (first | have a4 := in_u i95 | (have a4 := i95; unfold In at a4)); have a5 := t_add e95 i67 (in_c 1 rfl) rfl; (first | have a6 := in_u ((in_c 1 rfl)) | (have a6 := (in_c 1 rfl); unfold In at a6)); have a7 := tx_i2l e90; (first | have a8 := in_u i87 | (have a8 := i87; unfold In at a8)); have oc := oc_75_65_2; omega))]; obtain ⟨d9, hd9⟩ := p73b c76; obtain ⟨n9, p9, ps9, it9⟩ := p87e; have lf : s73.1 66 = sc63.1 66 := hF73.1 66 rfl; have of9 : s73.1 67 = sc63.1 67 := hF73.1 67 rfl; have vf : s73.2.2.2.1 65 3 = sc63.2.2.2.1 65 3 := hF73.2.2.2 65 3 rfl; have wz : (z81).toInt = (sc63.2.2.2.1 65 3).toInt := (by rw [e81, vf]); rw [lf] at p9 ps9; rw [of9] at ps9; have ne9 := (show (x2).toNatClampNeg ≠ (x3).toNatClampNeg from (by show (x2).toInt.toNat ≠ (x3).toInt.toNat; have h9 := q_2; (first | have a0 := in_u h3 | (have a0 := h3; unfold In at a0)); (first | have a1 := in_u h2 | (have a1 := h2; unfold In at a1)); (first | have a2 := in_u ro_2_0 | (have a2 := ro_2_0; unfold In at a2)); (first | have a3 := in_u i67 | (have a3 := i67; unfold In at a3)); (first | have a4 := in_u i95 | (have a4 := i95; unfold In at a4)); have a5 := t_add e95 i67 (in_c 1 rfl) rfl; (first | have a6 := in_u ((in_c 1 rfl)) | (have a6 := (in_c 1 rfl); unfold In at a6)); have a7 := tx_i2l e90; (first | have a8 := in_u i87 | (have a8 := i87; unfold In at a8)); have oc := oc_75_65_2; omega)); have pe := psi_e g63_0.1 hd9 p9 ps9 it9 ne9 g63_0.2.1; have vs := cfl_n g63_0.1 ne9 (rm_C hI) g63_0.2.2 p87f e90 wz e91; have gz : ((sG s87 65 3 z91).2.2.2.1 65 3).toInt = (sc63.2.2.2.1 65 3).toInt + (z87).toInt := vs; rw [gz]; exact ⟨pe.1, pe.2, by have h8 := p87f; have h9 := g63_0.2.2; omega⟩
          have n63a : ((sG s87 65 3 z91)).2.2.1 65 0 = s.2.2.1 2 0 ∧ ((sG s87 65 3 z91)).2.2.1 65 1 = x2 ∧ ((sG s87 65 3 z91)).2.2.1 65 2 = x3 := by exact ⟨(hF87.2.2.1 65 0 rfl).trans ((hF73.2.2.1 65 0 rfl).trans g63_1.1), (hF87.2.2.1 65 1 rfl).trans ((hF73.2.2.1 65 1 rfl).trans g63_1.2.1), (hF87.2.2.1 65 2 rfl).trans ((hF73.2.2.1 65 2 rfl).trans g63_1.2.2)⟩
          exact gg_w (by first | exact Nat.le_add_right _ _ | exact gw2 | exact gw3 | exact gwe rfl | exact gwf rfl | exact gwg rfl | exact gwh rfl | omega) (gg_f (gf_cons rfl (gf_cons rfl (gf_cons rfl (gf_cons rfl (gf_cons rfl gf_nil))))) (ih63 (sG s87 65 3 z91) z95 hI92 (fr_sG rfl (fr_tr rfl (fr_tr rfl hFc63 hF73) hF87)) (in_w 0 2147483647 i95 rfl) n63 n63a (m_up mm63 (t_add e95 i67 (in_c 1 rfl) rfl) (in_w 1 1 (in_c 1 rfl) rfl))))
  refine g_enter2 (k := 75) (N := 1932735284101) (by first | exact dq1 hd rfl | exact dq0 hd rfl | exact dq2 hd rfl | exact dq3 hd rfl | omega) rfl (Nat.le_of_ble_eq_true rfl) ?_
  refine g_aload_n 1 (gd rfl) rfl rfl ?_
  refine g_getI 4 (gd rfl) rfl rfl rfl (fun z1 e1 => ?_)
  have i1 := inv_F hI (-1) 4000 rfl e1
  refine g_aload_n 5 (gd rfl) rfl rfl ?_
  refine g_getI 8 (gd rfl) rfl rfl rfl (fun z5 e5 => ?_)
  have q5 : u_2_0 = z5 := (e_2_0).trans e5.symm
  subst q5
  refine g_cmp_ne 11 32 (gd rfl) rfl rfl (fun c8 => ?_) (fun c8 => ?_)
  · skip
    refine g_aload_n 33 (gd rfl) rfl rfl ?_
    refine g_aload_n 34 (gd rfl) rfl rfl ?_
    refine g_getI 37 (gd rfl) rfl rfl rfl (fun z34 e34 => ?_)
    have q34 : u_2_0 = z34 := (e_2_0).trans e34.symm
    subst q34
    refine g_putI 40 (gd rfl) rfl rfl rfl rfl ?_
    have hI37 := inv_sF (q := 65) (j := 0) hI rfl (in_w (-1) 4000 ro_2_0 rfl)
    refine g_aload_n 41 (gd rfl) rfl rfl ?_
    refine g_iload_n 42 (gd rfl) rfl rfl ?_
    refine g_putI 45 (gd rfl) rfl rfl rfl rfl ?_
    have hI42 := inv_sF (q := 65) (j := 1) hI37 rfl (in_w 0 31 h2 rfl)
    refine g_aload_n 46 (gd rfl) rfl rfl ?_
    refine g_iload_n 47 (gd rfl) rfl rfl ?_
    refine g_putI 50 (gd rfl) rfl rfl rfl rfl ?_
    have hI47 := inv_sF (q := 65) (j := 2) hI42 rfl (in_w 0 31 h3 rfl)
    refine g_aload_n 51 (gd rfl) rfl rfl ?_
    refine g_lconst 0 52 (gd rfl) rfl rfl ?_
    refine g_putL 55 (gd rfl) rfl rfl rfl rfl ?_
    have hI52 := inv_sG (q := 65) (j := 3) (x := (Int64.ofInt 0)) hI47 rfl (l_rng (Int64.ofInt 0))
    refine g_aload_n 56 (gd rfl) rfl rfl ?_
    refine g_aload_n 57 (gd rfl) rfl rfl ?_
    have p57 : TQ (sG (sF (sF (sF s 65 0 u_2_0) 65 1 x2) 65 2 x3) 65 3 (Int64.ofInt 0)) := by exact tq_fr (L := ([], [], [(65, 0), (65, 1), (65, 2)], [(65, 3)])) q_0 (fr_sG rfl (fr_sF rfl (fr_sF rfl (fr_sF rfl fr_rf)))) rfl
    refine g_callv (X := _) (As := [.ref (A 2)]) (r := []) (b := A 65) (q := 65) 60 (gd rfl) rfl rfl rfl rfl rfl (ww_o rfl) (Nat.le_of_ble_eq_true rfl) (Nat.zero_le _) (Nat.zero_le _) (f_76_65_2 (by first | exact dq1 hd rfl | exact dq0 hd rfl | exact dq2 hd rfl | exact dq3 hd rfl | omega) hI52 p57) (fun e u h => h) (fun v u h => ?_)
    obtain ⟨s57, hI57, hF57, rfl, rfl, p57a⟩ := h
    show GG _ _ _ _ _ _ _ _ [] _ _ _
    refine g_iconst 0 61 (gd rfl) rfl rfl ?_
    refine g_istore 63 (gd rfl) rfl (Nat.le_of_ble_eq_true rfl) ?_
    have n63 : CFL (gvC s) (x2).toNatClampNeg (x3).toNatClampNeg ((s57).1 66) ((s57).1 67) ((s57).2.2.2.1 65 3).toInt ∧ EKI ((s57).1 67) (x2).toNatClampNeg (x3).toNatClampNeg ((Int32.ofInt 0)).toNatClampNeg ∧ 0 ≤ ((s57).2.2.2.1 65 3).toInt := by have h9 := p57a (x2).toNatClampNeg (x3).toNatClampNeg; rw [(show gvC (sG (sF (sF (sF s 65 0 u_2_0) 65 1 x2) 65 2 x3) 65 3 (Int64.ofInt 0)) = gvC s from gvC_cg (L := ([], [], [(65, 0), (65, 1), (65, 2)], [(65, 3)])) (fr_sG rfl (fr_sF rfl (fr_sF rfl (fr_sF rfl fr_rf)))) rfl)] at h9; have e3 : (s57.2.2.2.1 65 3) = Int64.ofInt 0 := hF57.2.2.2 65 3 rfl; have z0 : (Int64.ofInt 0).toInt = 0 := rfl; rw [e3, z0]; exact ⟨h9, (show EKI _ _ _ 0 from eki_0 (show (x2).toNatClampNeg ≠ (x3).toNatClampNeg from (by show (x2).toInt.toNat ≠ (x3).toInt.toNat; have h9 := q_2; (first | have a0 := in_u ro_2_0 | (have a0 := ro_2_0; unfold In at a0)); (first | have a1 := in_u h3 | (have a1 := h3; unfold In at a1)); (first | have a2 := in_u h2 | (have a2 := h2; unfold In at a2)); (first | have a3 := in_u ((in_c 0 rfl)) | (have a3 := (in_c 0 rfl); unfold In at a3)); have oc := oc_75_65_2; omega))), Int.le_refl _⟩
    have n63a : (s57).2.2.1 65 0 = s.2.2.1 2 0 ∧ (s57).2.2.1 65 1 = x2 ∧ (s57).2.2.1 65 2 = x3 := by refine ⟨?_, ?_, ?_⟩; (rw [hF57.2.2.1 65 0 rfl]; exact e_2_0); (rw [hF57.2.2.1 65 1 rfl]; rfl); (rw [hF57.2.2.1 65 2 rfl]; rfl)
    exact gg_w (by first | exact Nat.le_of_ble_eq_true rfl | omega) (gg_f (gf_cons rfl (gf_cons rfl (gf_cons rfl (gf_cons rfl (gf_cons rfl gf_nil))))) (ct63 2147483648 s57 (Int32.ofInt 0) hI57 (fr_tr rfl (fr_sG rfl (fr_sF rfl (fr_sF rfl (fr_sF rfl fr_rf)))) hF57) (in_w 0 2147483647 (in_c 0 rfl) rfl) n63 n63a (m_in 2147483648 (in_w 0 2147483647 (in_c 0 rfl) rfl) rfl)))
  · skip
    have i8 := r_eq1 0 4000 c8 i1 ro_2_0 rfl
    refine g_aload_n 12 (gd rfl) rfl rfl ?_
    refine g_getI 15 (gd rfl) rfl rfl rfl (fun z12 e12 => ?_)
    have i12 := inv_F hI 0 31 rfl e12
    refine g_iload_n 16 (gd rfl) rfl rfl ?_
    refine g_cmp_ne 19 32 (gd rfl) rfl rfl (fun c16 => ?_) (fun c16 => ?_)
    · skip
      refine g_aload_n 33 (gd rfl) rfl rfl ?_
      refine g_aload_n 34 (gd rfl) rfl rfl ?_
      refine g_getI 37 (gd rfl) rfl rfl rfl (fun z34 e34 => ?_)
      have q34 : u_2_0 = z34 := (e_2_0).trans e34.symm
      subst q34
      refine g_putI 40 (gd rfl) rfl rfl rfl rfl ?_
      have hI37 := inv_sF (q := 65) (j := 0) hI rfl (in_w (-1) 4000 ro_2_0 rfl)
      refine g_aload_n 41 (gd rfl) rfl rfl ?_
      refine g_iload_n 42 (gd rfl) rfl rfl ?_
      refine g_putI 45 (gd rfl) rfl rfl rfl rfl ?_
      have hI42 := inv_sF (q := 65) (j := 1) hI37 rfl (in_w 0 31 h2 rfl)
      refine g_aload_n 46 (gd rfl) rfl rfl ?_
      refine g_iload_n 47 (gd rfl) rfl rfl ?_
      refine g_putI 50 (gd rfl) rfl rfl rfl rfl ?_
      have hI47 := inv_sF (q := 65) (j := 2) hI42 rfl (in_w 0 31 h3 rfl)
      refine g_aload_n 51 (gd rfl) rfl rfl ?_
      refine g_lconst 0 52 (gd rfl) rfl rfl ?_
      refine g_putL 55 (gd rfl) rfl rfl rfl rfl ?_
      have hI52 := inv_sG (q := 65) (j := 3) (x := (Int64.ofInt 0)) hI47 rfl (l_rng (Int64.ofInt 0))
      refine g_aload_n 56 (gd rfl) rfl rfl ?_
      refine g_aload_n 57 (gd rfl) rfl rfl ?_
      have p57 : TQ (sG (sF (sF (sF s 65 0 u_2_0) 65 1 x2) 65 2 x3) 65 3 (Int64.ofInt 0)) := by exact tq_fr (L := ([], [], [(65, 0), (65, 1), (65, 2)], [(65, 3)])) q_0 (fr_sG rfl (fr_sF rfl (fr_sF rfl (fr_sF rfl fr_rf)))) rfl
      refine g_callv (X := _) (As := [.ref (A 2)]) (r := []) (b := A 65) (q := 65) 60 (gd rfl) rfl rfl rfl rfl rfl (ww_o rfl) (Nat.le_of_ble_eq_true rfl) (Nat.zero_le _) (Nat.zero_le _) (f_76_65_2 (by first | exact dq1 hd rfl | exact dq0 hd rfl | exact dq2 hd rfl | exact dq3 hd rfl | omega) hI52 p57) (fun e u h => h) (fun v u h => ?_)
      obtain ⟨s57, hI57, hF57, rfl, rfl, p57a⟩ := h
      show GG _ _ _ _ _ _ _ _ [] _ _ _
      refine g_iconst 0 61 (gd rfl) rfl rfl ?_
      refine g_istore 63 (gd rfl) rfl (Nat.le_of_ble_eq_true rfl) ?_
      have n63 : CFL (gvC s) (x2).toNatClampNeg (x3).toNatClampNeg ((s57).1 66) ((s57).1 67) ((s57).2.2.2.1 65 3).toInt ∧ EKI ((s57).1 67) (x2).toNatClampNeg (x3).toNatClampNeg ((Int32.ofInt 0)).toNatClampNeg ∧ 0 ≤ ((s57).2.2.2.1 65 3).toInt := by have h9 := p57a (x2).toNatClampNeg (x3).toNatClampNeg; rw [(show gvC (sG (sF (sF (sF s 65 0 u_2_0) 65 1 x2) 65 2 x3) 65 3 (Int64.ofInt 0)) = gvC s from gvC_cg (L := ([], [], [(65, 0), (65, 1), (65, 2)], [(65, 3)])) (fr_sG rfl (fr_sF rfl (fr_sF rfl (fr_sF rfl fr_rf)))) rfl)] at h9; have e3 : (s57.2.2.2.1 65 3) = Int64.ofInt 0 := hF57.2.2.2 65 3 rfl; have z0 : (Int64.ofInt 0).toInt = 0 := rfl; rw [e3, z0]; exact ⟨h9, (show EKI _ _ _ 0 from eki_0 (show (x2).toNatClampNeg ≠ (x3).toNatClampNeg from (by show (x2).toInt.toNat ≠ (x3).toInt.toNat; have h9 := q_2; (first | have a0 := in_u ro_2_0 | (have a0 := ro_2_0; unfold In at a0)); (first | have a1 := in_u h3 | (have a1 := h3; unfold In at a1)); (first | have a2 := in_u h2 | (have a2 := h2; unfold In at a2)); (first | have a3 := in_u ((in_c 0 rfl)) | (have a3 := (in_c 0 rfl); unfold In at a3)); have oc := oc_75_65_2; omega))), Int.le_refl _⟩
      have n63a : (s57).2.2.1 65 0 = s.2.2.1 2 0 ∧ (s57).2.2.1 65 1 = x2 ∧ (s57).2.2.1 65 2 = x3 := by refine ⟨?_, ?_, ?_⟩; (rw [hF57.2.2.1 65 0 rfl]; exact e_2_0); (rw [hF57.2.2.1 65 1 rfl]; rfl); (rw [hF57.2.2.1 65 2 rfl]; rfl)
      exact gg_w (by first | exact Nat.le_of_ble_eq_true rfl | omega) (gg_f (gf_cons rfl (gf_cons rfl (gf_cons rfl (gf_cons rfl (gf_cons rfl gf_nil))))) (ct63 2147483648 s57 (Int32.ofInt 0) hI57 (fr_tr rfl (fr_sG rfl (fr_sF rfl (fr_sF rfl (fr_sF rfl fr_rf)))) hF57) (in_w 0 2147483647 (in_c 0 rfl) rfl) n63 n63a (m_in 2147483648 (in_w 0 2147483647 (in_c 0 rfl) rfl) rfl)))
    · skip
      refine g_aload_n 20 (gd rfl) rfl rfl ?_
      refine g_getI 23 (gd rfl) rfl rfl rfl (fun z20 e20 => ?_)
      have i20 := inv_F hI 0 31 rfl e20
      refine g_iload_n 24 (gd rfl) rfl rfl ?_
      refine g_cmp_ne 27 32 (gd rfl) rfl rfl (fun c24 => ?_) (fun c24 => ?_)
      · skip
        refine g_aload_n 33 (gd rfl) rfl rfl ?_
        refine g_aload_n 34 (gd rfl) rfl rfl ?_
        refine g_getI 37 (gd rfl) rfl rfl rfl (fun z34 e34 => ?_)
        have q34 : u_2_0 = z34 := (e_2_0).trans e34.symm
        subst q34
        refine g_putI 40 (gd rfl) rfl rfl rfl rfl ?_
        have hI37 := inv_sF (q := 65) (j := 0) hI rfl (in_w (-1) 4000 ro_2_0 rfl)
        refine g_aload_n 41 (gd rfl) rfl rfl ?_
        refine g_iload_n 42 (gd rfl) rfl rfl ?_
        refine g_putI 45 (gd rfl) rfl rfl rfl rfl ?_
        have hI42 := inv_sF (q := 65) (j := 1) hI37 rfl (in_w 0 31 h2 rfl)
        refine g_aload_n 46 (gd rfl) rfl rfl ?_
        refine g_iload_n 47 (gd rfl) rfl rfl ?_
        refine g_putI 50 (gd rfl) rfl rfl rfl rfl ?_
        have hI47 := inv_sF (q := 65) (j := 2) hI42 rfl (in_w 0 31 h3 rfl)
        refine g_aload_n 51 (gd rfl) rfl rfl ?_
        refine g_lconst 0 52 (gd rfl) rfl rfl ?_
        refine g_putL 55 (gd rfl) rfl rfl rfl rfl ?_
        have hI52 := inv_sG (q := 65) (j := 3) (x := (Int64.ofInt 0)) hI47 rfl (l_rng (Int64.ofInt 0))
        refine g_aload_n 56 (gd rfl) rfl rfl ?_
        refine g_aload_n 57 (gd rfl) rfl rfl ?_
        have p57 : TQ (sG (sF (sF (sF s 65 0 u_2_0) 65 1 x2) 65 2 x3) 65 3 (Int64.ofInt 0)) := by exact tq_fr (L := ([], [], [(65, 0), (65, 1), (65, 2)], [(65, 3)])) q_0 (fr_sG rfl (fr_sF rfl (fr_sF rfl (fr_sF rfl fr_rf)))) rfl
        refine g_callv (X := _) (As := [.ref (A 2)]) (r := []) (b := A 65) (q := 65) 60 (gd rfl) rfl rfl rfl rfl rfl (ww_o rfl) (Nat.le_of_ble_eq_true rfl) (Nat.zero_le _) (Nat.zero_le _) (f_76_65_2 (by first | exact dq1 hd rfl | exact dq0 hd rfl | exact dq2 hd rfl | exact dq3 hd rfl | omega) hI52 p57) (fun e u h => h) (fun v u h => ?_)
        obtain ⟨s57, hI57, hF57, rfl, rfl, p57a⟩ := h
        show GG _ _ _ _ _ _ _ _ [] _ _ _
        refine g_iconst 0 61 (gd rfl) rfl rfl ?_
        refine g_istore 63 (gd rfl) rfl (Nat.le_of_ble_eq_true rfl) ?_
        have n63 : CFL (gvC s) (x2).toNatClampNeg (x3).toNatClampNeg ((s57).1 66) ((s57).1 67) ((s57).2.2.2.1 65 3).toInt ∧ EKI ((s57).1 67) (x2).toNatClampNeg (x3).toNatClampNeg ((Int32.ofInt 0)).toNatClampNeg ∧ 0 ≤ ((s57).2.2.2.1 65 3).toInt := by have h9 := p57a (x2).toNatClampNeg (x3).toNatClampNeg; rw [(show gvC (sG (sF (sF (sF s 65 0 u_2_0) 65 1 x2) 65 2 x3) 65 3 (Int64.ofInt 0)) = gvC s from gvC_cg (L := ([], [], [(65, 0), (65, 1), (65, 2)], [(65, 3)])) (fr_sG rfl (fr_sF rfl (fr_sF rfl (fr_sF rfl fr_rf)))) rfl)] at h9; have e3 : (s57.2.2.2.1 65 3) = Int64.ofInt 0 := hF57.2.2.2 65 3 rfl; have z0 : (Int64.ofInt 0).toInt = 0 := rfl; rw [e3, z0]; exact ⟨h9, (show EKI _ _ _ 0 from eki_0 (show (x2).toNatClampNeg ≠ (x3).toNatClampNeg from (by show (x2).toInt.toNat ≠ (x3).toInt.toNat; have h9 := q_2; (first | have a0 := in_u ro_2_0 | (have a0 := ro_2_0; unfold In at a0)); (first | have a1 := in_u h3 | (have a1 := h3; unfold In at a1)); (first | have a2 := in_u h2 | (have a2 := h2; unfold In at a2)); (first | have a3 := in_u ((in_c 0 rfl)) | (have a3 := (in_c 0 rfl); unfold In at a3)); have oc := oc_75_65_2; omega))), Int.le_refl _⟩
        have n63a : (s57).2.2.1 65 0 = s.2.2.1 2 0 ∧ (s57).2.2.1 65 1 = x2 ∧ (s57).2.2.1 65 2 = x3 := by refine ⟨?_, ?_, ?_⟩; (rw [hF57.2.2.1 65 0 rfl]; exact e_2_0); (rw [hF57.2.2.1 65 1 rfl]; rfl); (rw [hF57.2.2.1 65 2 rfl]; rfl)
        exact gg_w (by first | exact Nat.le_of_ble_eq_true rfl | omega) (gg_f (gf_cons rfl (gf_cons rfl (gf_cons rfl (gf_cons rfl (gf_cons rfl gf_nil))))) (ct63 2147483648 s57 (Int32.ofInt 0) hI57 (fr_tr rfl (fr_sG rfl (fr_sF rfl (fr_sF rfl (fr_sF rfl fr_rf)))) hF57) (in_w 0 2147483647 (in_c 0 rfl) rfl) n63 n63a (m_in 2147483648 (in_w 0 2147483647 (in_c 0 rfl) rfl) rfl)))
      · skip
        refine g_aload_n 28 (gd rfl) rfl rfl ?_
        refine g_getL 31 (gd rfl) rfl rfl rfl (fun z28 e28 => ?_)
        have n31 : FLQ (gvC s) s ∧ FLA s x2 x3 := by have c9 : (s.2.2.1 65 0).toInt = (gvC s).2.2.2.2.2.2.2 := (by show (s.2.2.1 65 0).toInt = (s.2.2.1 2 0).toInt; rw [← e1, ← e_2_0]; first | exact c8 | exact c8.symm); have k9 := q_1 c9; have a1 : s.2.2.1 65 1 = x2 := Int32.toInt_inj.mp (by rw [← e12]; first | exact c16 | exact c16.symm); have a2 : s.2.2.1 65 2 = x3 := Int32.toInt_inj.mp (by rw [← e20]; first | exact c24 | exact c24.symm); rw [a1, a2] at k9; exact flq_e c9 a1 a2 k9
        have n31a : (z28).toInt = ((s).2.2.2.1 65 3).toInt := by rw [e28]
        exact g_lreturn (gd rfl) rfl (hP _ _ ⟨s, hI, fr_rf, z28, rfl, rfl, n31, n31a⟩)

theorem oc_75_65_32 : (Int32.ofInt (-1)).toInt = (-1) ∧ (Int32.ofInt 0).toInt = 0 ∧ (Int32.ofInt 1).toInt = 1 ∧ (Int32.ofInt 1000000).toInt = 1000000 ∧ (Int64.ofInt 0).toInt = 0 := ⟨rfl, rfl, rfl, rfl, rfl⟩
/-- GraphHouse$Flows.greatest -/
theorem f_75_65_32 {Z : AmZ} {A : Nat → Nat} {s : GS} {ex : va_W} {d : Nat} {X : AmX} {x2 : Int32} {x3 : Int32} (hd : 5 ≤ d) (hI : Inv s) (h2 : In x2 0 31) (h3 : In x3 0 31) (q_0 : TQD s) (q_1 : FLB (gvD s) s) (q_2 : (x2).toInt ≠ (x3).toInt) : GC Z d 75 [.ref (A 65), .ref (A 32), .int x2, .int x3] (WW Z A s ++ ex) 0 0 (fun v u => ∃ t : GS, Inv t ∧ Fr fm_75_65_32 s t ∧ ∃ z : Int64, v = some (.long z) ∧ u = WW Z A t ++ ex ∧ (FLQ (gvD s) t ∧ FLA t x2 x3) ∧ ((z).toInt = ((t).2.2.2.1 65 3).toInt)) X := by
  intro post xp hP hX
  obtain ⟨u_32_0, e_32_0⟩ : ∃ w, w = s.2.2.1 32 0 := ⟨_, rfl⟩
  have ro_32_0 := inv_F hI 0 4000 rfl e_32_0
  have ct63 : ∀ (k63 : Nat) (sc63 : GS) (y63_4 : Int32), Inv sc63 → Fr fm_75_65_32 s sc63 → (In y63_4 0 2147483647) → (CFL (gvD s) (x2).toNatClampNeg (x3).toNatClampNeg ((sc63).1 66) ((sc63).1 67) ((sc63).2.2.2.1 65 3).toInt ∧ EKI ((sc63).1 67) (x2).toNatClampNeg (x3).toNatClampNeg (y63_4).toNatClampNeg ∧ 0 ≤ ((sc63).2.2.2.1 65 3).toInt) → ((sc63).2.2.1 65 0 = s.2.2.1 32 0 ∧ (sc63).2.2.1 65 1 = x2 ∧ (sc63).2.2.1 65 2 = x3) → 2147483647 - (y63_4).toInt < (k63 : Int) → GG Z (d - 1) 75 post (gx xp) (1 + k63 * 900) 63 (fun j => xlook j [(0, .ref (A 65)), (1, .ref (A 32)), (2, .int x2), (3, .int x3), (4, .int y63_4)]) [] (WW Z A sc63 ++ ex) 0 0 := by
    intro k63
    induction k63 with
    | zero => intro sc63 y63_4 hIc63 hFc63 j63_4 g63_0 g63_1 mm63; exact m_no mm63 j63_4 rfl
    | succ k63 ih63 =>
      intro sc63 y63_4 hIc63 hFc63 j63_4 g63_0 g63_1 mm63
      refine gg_w (M := 1 + k63 * 900 + 900) gws ?_
      refine g_iload 65 (gd rfl) rfl rfl ?_
      refine g_ldc 1000000 67 (gd rfl) rfl rfl ?_
      refine g_cmp_ge 70 101 (gd rfl) rfl rfl (fun c67 => ?_) (fun c67 => ?_)
      · skip
        have i67 := r_le2 1000000 2147483647 c67 (in_c 1000000 rfl) j63_4 rfl
        refine g_aload_n 102 (gd rfl) rfl rfl ?_
        refine g_getL 105 (gd rfl) rfl rfl rfl (fun z102 e102 => ?_)
        have n105 : FLQ (gvD s) sc63 ∧ FLA sc63 x2 x3 := by exfalso; have h9 := eki_b g63_0.2.1; have h8 : (y63_4).toNatClampNeg = (y63_4).toInt.toNat := rfl; (first | have a0 := in_u h3 | (have a0 := h3; unfold In at a0)); (first | have a1 := in_u h2 | (have a1 := h2; unfold In at a1)); (first | have a2 := in_u ro_32_0 | (have a2 := ro_32_0; unfold In at a2)); (first | have a3 := in_u i67 | (have a3 := i67; unfold In at a3)); have oc := oc_75_65_32; omega
        have n105a : (z102).toInt = ((sc63).2.2.2.1 65 3).toInt := by exfalso; have h9 := eki_b g63_0.2.1; have h8 : (y63_4).toNatClampNeg = (y63_4).toInt.toNat := rfl; (first | have a0 := in_u h3 | (have a0 := h3; unfold In at a0)); (first | have a1 := in_u h2 | (have a1 := h2; unfold In at a1)); (first | have a2 := in_u ro_32_0 | (have a2 := ro_32_0; unfold In at a2)); (first | have a3 := in_u i67 | (have a3 := i67; unfold In at a3)); have oc := oc_75_65_32; omega
        exact g_lreturn (gd rfl) rfl (hP _ _ ⟨sc63, hIc63, hFc63, z102, rfl, rfl, n105, n105a⟩)
      · skip
        have i67 := r_lt1 0 999999 c67 j63_4 (in_c 1000000 rfl) rfl
        refine g_aload_n 71 (gd rfl) rfl rfl ?_
        refine g_iload_n 72 (gd rfl) rfl rfl ?_
        refine g_iload_n 73 (gd rfl) rfl rfl ?_
        refine g_callv (X := _) (As := [.int x2, .int x3]) (r := []) (b := A 65) (q := 65) 76 (gd rfl) rfl rfl rfl rfl rfl (ww_o rfl) (Nat.le_of_ble_eq_true rfl) (Nat.zero_le _) (Nat.zero_le _) (f_77_65 (by first | exact dq1 hd rfl | exact dq0 hd rfl | exact dq2 hd rfl | exact dq3 hd rfl | omega) hIc63 (in_w 0 31 h2 rfl) (in_w 0 31 h3 rfl)) (fun e u h => h) (fun v u h => ?_)
        obtain ⟨s73, hI73, hF73, z73, rfl, rfl, i73, p73, p73a, p73b, p73c⟩ := h
        show GG _ _ _ _ _ _ _ _ [.int z73] _ _ _
        refine g_if_eq 79 101 (gd rfl) rfl rfl (fun c76 => ?_) (fun c76 => ?_)
        · skip
          have i76 := z_eq 0 0 c76 i73 rfl
          refine g_aload_n 102 (gd rfl) rfl rfl ?_
          refine g_getL 105 (gd rfl) rfl rfl rfl (fun z102 e102 => ?_)
          have n105 : FLQ (gvD s) s73 ∧ FLA s73 x2 x3 := by refine flq_e (show (s73.2.2.1 65 0).toInt = (gvD s).2.2.2.2.2.2.2 from (by show (s73.2.2.1 65 0).toInt = (s.2.2.1 32 0).toInt; rw [hF73.2.2.1 65 0 rfl, g63_1.1])) ((hF73.2.2.1 65 1 rfl).trans g63_1.2.1) ((hF73.2.2.1 65 2 rfl).trans g63_1.2.2) ?_; rw [hF73.2.2.2 65 3 rfl]; have w9 := p73c c76; exact cfl_fl (X := fun v => bt (s73.2.2.1 65 4) v) g63_0.1 w9.2.1 w9.1 w9.2.2.2 (fun v _ hv => w9.2.2.1 v hv)
          have n105a : (z102).toInt = ((s73).2.2.2.1 65 3).toInt := by rw [e102]
          exact g_lreturn (gd rfl) rfl (hP _ _ ⟨s73, hI73, (fr_tr rfl hFc63 hF73), z102, rfl, rfl, n105, n105a⟩)
        · skip
          have i76 := z_ne 1 1 c76 i73 rfl
          refine g_aload_n 80 (gd rfl) rfl rfl ?_
          refine g_dup 81 (gd rfl) rfl rfl ?_
          refine g_getL 84 (gd rfl) rfl rfl rfl (fun z81 e81 => ?_)
          refine g_aload_n 85 (gd rfl) rfl rfl ?_
          refine g_iload_n 86 (gd rfl) rfl rfl ?_
          refine g_iload_n 87 (gd rfl) rfl rfl ?_
          have p87 : RV (s73.1 68) (s73.2.2.1 65 4) x2 := by exact p73
          have p87a : bt (s73.2.2.1 65 4) (x3).toNatClampNeg = true := by exact p73a c76
          have p87b : LNN ((s73).1 66) 160000000 := by rw [hF73.1 66 rfl]; exact g63_0.1.1
          have p87c : OPQ ((s73).1 66) ((s73).1 67) := by rw [hF73.1 66 rfl, hF73.1 67 rfl]; exact g63_0.1.2.1
          have p87d : ∃ d, DLB ((s73).1 67) ((s73).1 68) (x2).toNatClampNeg (x3).toNatClampNeg ((s73).2.2.1 65 4) d := by rw [hF73.1 67 rfl]; exact p73b c76
          refine g_callv (X := _) (As := [.int x2, .int x3]) (r := [.long z81, .ref (A 65)]) (b := A 65) (q := 65) 90 (gd rfl) rfl rfl rfl rfl rfl (ww_o rfl) (Nat.le_of_ble_eq_true rfl) (Nat.zero_le _) (Nat.zero_le _) (f_78_65 (by first | exact dq1 hd rfl | exact dq0 hd rfl | exact dq2 hd rfl | exact dq3 hd rfl | omega) hI73 (in_w 0 31 h2 rfl) (in_w 0 31 h3 rfl) rfl p87 p87a p87b p87c p87d) (fun e u h => h) (fun v u h => ?_)
          obtain ⟨s87, hI87, hF87, z87, rfl, rfl, i87, p87e, p87f⟩ := h
          show GG _ _ _ _ _ _ _ _ [.int z87, .long z81, .ref (A 65)] _ _ _
          refine g_i2l 91 (gd rfl) rfl (fun z90 e90 => ?_)
          have i90 := l_i e90 i87
          refine g_ladd 92 (gd rfl) rfl (fun z91 e91 => ?_)
          refine g_putL 95 (gd rfl) rfl rfl rfl rfl ?_
          have hI92 := inv_sG (q := 65) (j := 3) (x := z91) hI87 rfl (l_rng z91)
          refine g_iinc 98 (gd rfl) rfl rfl (Nat.le_of_ble_eq_true rfl) (fun z95 e95 => ?_)
          have i95 := in_add 1 1000000 e95 i67 (in_c 1 rfl) rfl rfl
          refine g_goto 63 (gd rfl) rfl ?_
          have n63 : CFL (gvD s) (x2).toNatClampNeg (x3).toNatClampNeg (((sG s87 65 3 z91)).1 66) (((sG s87 65 3 z91)).1 67) (((sG s87 65 3 z91)).2.2.2.1 65 3).toInt ∧ EKI (((sG s87 65 3 z91)).1 67) (x2).toNatClampNeg (x3).toNatClampNeg (z95).toNatClampNeg ∧ 0 ≤ (((sG s87 65 3 z91)).2.2.2.1 65 3).toInt := by rw [(show (z95).toNatClampNeg = (y63_4).toNatClampNeg + 1 from (by show (z95).toInt.toNat = (y63_4).toInt.toNat + 1; (first | have a0 := in_u h3 | (have a0 := h3; unfold In at a0)); (first | have a1 := in_u h2 | (have a1 := h2; unfold In at a1)); (first | have a2 := in_u ro_32_0 | (have a2 := ro_32_0; unfold In at a2)); (first | have a3 := in_u i67 | (have a3 := i67; unfold In at a3)); (first | have a4 := in_u i95 | (have a4 := i95; unfold In at a4)); have a5 := t_add e95 i67 (in_c 1 rfl) rfl; (first | have a6 := in_u ((in_c 1 rfl)) | (have a6 := (in_c 1 rfl); unfold In at a6)); have a7 := tx_i2l e90; (first | have a8 := in_u i87 | (have a8 := i87; unfold In at a8)); have oc := oc_75_65_32; omega))]; obtain ⟨d9, hd9⟩ := p73b c76; obtain ⟨n9, p9, ps9, it9⟩ := p87e; have lf : s73.1 66 = sc63.1 66 := hF73.1 66 rfl; have of9 : s73.1 67 = sc63.1 67 := hF73.1 67 rfl; have vf : s73.2.2.2.1 65 3 = sc63.2.2.2.1 65 3 := hF73.2.2.2 65 3 rfl; have wz : (z81).toInt = (sc63.2.2.2.1 65 3).toInt := (by rw [e81, vf]); rw [lf] at p9 ps9; rw [of9] at ps9; have ne9 := (show (x2).toNatClampNeg ≠ (x3).toNatClampNeg from (by show (x2).toInt.toNat ≠ (x3).toInt.toNat; have h9 := q_2; (first | have a0 := in_u h3 | (have a0 := h3; unfold In at a0)); (first | have a1 := in_u h2 | (have a1 := h2; unfold In at a1)); (first | have a2 := in_u ro_32_0 | (have a2 := ro_32_0; unfold In at a2)); (first | have a3 := in_u i67 | (have a3 := i67; unfold In at a3)); (first | have a4 := in_u i95 | (have a4 := i95; unfold In at a4)); have a5 := t_add e95 i67 (in_c 1 rfl) rfl; (first | have a6 := in_u ((in_c 1 rfl)) | (have a6 := (in_c 1 rfl); unfold In at a6)); have a7 := tx_i2l e90; (first | have a8 := in_u i87 | (have a8 := i87; unfold In at a8)); have oc := oc_75_65_32; omega)); have pe := psi_e g63_0.1 hd9 p9 ps9 it9 ne9 g63_0.2.1; have vs := cfl_n g63_0.1 ne9 (rm_D hI) g63_0.2.2 p87f e90 wz e91; have gz : ((sG s87 65 3 z91).2.2.2.1 65 3).toInt = (sc63.2.2.2.1 65 3).toInt + (z87).toInt := vs; rw [gz]; exact ⟨pe.1, pe.2, by have h8 := p87f; have h9 := g63_0.2.2; omega⟩
          have n63a : ((sG s87 65 3 z91)).2.2.1 65 0 = s.2.2.1 32 0 ∧ ((sG s87 65 3 z91)).2.2.1 65 1 = x2 ∧ ((sG s87 65 3 z91)).2.2.1 65 2 = x3 := by exact ⟨(hF87.2.2.1 65 0 rfl).trans ((hF73.2.2.1 65 0 rfl).trans g63_1.1), (hF87.2.2.1 65 1 rfl).trans ((hF73.2.2.1 65 1 rfl).trans g63_1.2.1), (hF87.2.2.1 65 2 rfl).trans ((hF73.2.2.1 65 2 rfl).trans g63_1.2.2)⟩
          exact gg_w (by first | exact Nat.le_add_right _ _ | exact gw2 | exact gw3 | exact gwe rfl | exact gwf rfl | exact gwg rfl | exact gwh rfl | omega) (gg_f (gf_cons rfl (gf_cons rfl (gf_cons rfl (gf_cons rfl (gf_cons rfl gf_nil))))) (ih63 (sG s87 65 3 z91) z95 hI92 (fr_sG rfl (fr_tr rfl (fr_tr rfl hFc63 hF73) hF87)) (in_w 0 2147483647 i95 rfl) n63 n63a (m_up mm63 (t_add e95 i67 (in_c 1 rfl) rfl) (in_w 1 1 (in_c 1 rfl) rfl))))
  refine g_enter2 (k := 75) (N := 1932735284101) (by first | exact dq1 hd rfl | exact dq0 hd rfl | exact dq2 hd rfl | exact dq3 hd rfl | omega) rfl (Nat.le_of_ble_eq_true rfl) ?_
  refine g_aload_n 1 (gd rfl) rfl rfl ?_
  refine g_getI 4 (gd rfl) rfl rfl rfl (fun z1 e1 => ?_)
  have i1 := inv_F hI (-1) 4000 rfl e1
  refine g_aload_n 5 (gd rfl) rfl rfl ?_
  refine g_getI 8 (gd rfl) rfl rfl rfl (fun z5 e5 => ?_)
  have q5 : u_32_0 = z5 := (e_32_0).trans e5.symm
  subst q5
  refine g_cmp_ne 11 32 (gd rfl) rfl rfl (fun c8 => ?_) (fun c8 => ?_)
  · skip
    refine g_aload_n 33 (gd rfl) rfl rfl ?_
    refine g_aload_n 34 (gd rfl) rfl rfl ?_
    refine g_getI 37 (gd rfl) rfl rfl rfl (fun z34 e34 => ?_)
    have q34 : u_32_0 = z34 := (e_32_0).trans e34.symm
    subst q34
    refine g_putI 40 (gd rfl) rfl rfl rfl rfl ?_
    have hI37 := inv_sF (q := 65) (j := 0) hI rfl (in_w (-1) 4000 ro_32_0 rfl)
    refine g_aload_n 41 (gd rfl) rfl rfl ?_
    refine g_iload_n 42 (gd rfl) rfl rfl ?_
    refine g_putI 45 (gd rfl) rfl rfl rfl rfl ?_
    have hI42 := inv_sF (q := 65) (j := 1) hI37 rfl (in_w 0 31 h2 rfl)
    refine g_aload_n 46 (gd rfl) rfl rfl ?_
    refine g_iload_n 47 (gd rfl) rfl rfl ?_
    refine g_putI 50 (gd rfl) rfl rfl rfl rfl ?_
    have hI47 := inv_sF (q := 65) (j := 2) hI42 rfl (in_w 0 31 h3 rfl)
    refine g_aload_n 51 (gd rfl) rfl rfl ?_
    refine g_lconst 0 52 (gd rfl) rfl rfl ?_
    refine g_putL 55 (gd rfl) rfl rfl rfl rfl ?_
    have hI52 := inv_sG (q := 65) (j := 3) (x := (Int64.ofInt 0)) hI47 rfl (l_rng (Int64.ofInt 0))
    refine g_aload_n 56 (gd rfl) rfl rfl ?_
    refine g_aload_n 57 (gd rfl) rfl rfl ?_
    have p57 : TQD (sG (sF (sF (sF s 65 0 u_32_0) 65 1 x2) 65 2 x3) 65 3 (Int64.ofInt 0)) := by exact tqd_fr (L := ([], [], [(65, 0), (65, 1), (65, 2)], [(65, 3)])) q_0 (fr_sG rfl (fr_sF rfl (fr_sF rfl (fr_sF rfl fr_rf)))) rfl
    refine g_callv (X := _) (As := [.ref (A 32)]) (r := []) (b := A 65) (q := 65) 60 (gd rfl) rfl rfl rfl rfl rfl (ww_o rfl) (Nat.le_of_ble_eq_true rfl) (Nat.zero_le _) (Nat.zero_le _) (f_76_65_32 (by first | exact dq1 hd rfl | exact dq0 hd rfl | exact dq2 hd rfl | exact dq3 hd rfl | omega) hI52 p57) (fun e u h => h) (fun v u h => ?_)
    obtain ⟨s57, hI57, hF57, rfl, rfl, p57a⟩ := h
    show GG _ _ _ _ _ _ _ _ [] _ _ _
    refine g_iconst 0 61 (gd rfl) rfl rfl ?_
    refine g_istore 63 (gd rfl) rfl (Nat.le_of_ble_eq_true rfl) ?_
    have n63 : CFL (gvD s) (x2).toNatClampNeg (x3).toNatClampNeg ((s57).1 66) ((s57).1 67) ((s57).2.2.2.1 65 3).toInt ∧ EKI ((s57).1 67) (x2).toNatClampNeg (x3).toNatClampNeg ((Int32.ofInt 0)).toNatClampNeg ∧ 0 ≤ ((s57).2.2.2.1 65 3).toInt := by have h9 := p57a (x2).toNatClampNeg (x3).toNatClampNeg; rw [(show gvD (sG (sF (sF (sF s 65 0 u_32_0) 65 1 x2) 65 2 x3) 65 3 (Int64.ofInt 0)) = gvD s from gvD_fr (L := ([], [], [(65, 0), (65, 1), (65, 2)], [(65, 3)])) (fr_sG rfl (fr_sF rfl (fr_sF rfl (fr_sF rfl fr_rf)))) rfl)] at h9; have e3 : (s57.2.2.2.1 65 3) = Int64.ofInt 0 := hF57.2.2.2 65 3 rfl; have z0 : (Int64.ofInt 0).toInt = 0 := rfl; rw [e3, z0]; exact ⟨h9, (show EKI _ _ _ 0 from eki_0 (show (x2).toNatClampNeg ≠ (x3).toNatClampNeg from (by show (x2).toInt.toNat ≠ (x3).toInt.toNat; have h9 := q_2; (first | have a0 := in_u ro_32_0 | (have a0 := ro_32_0; unfold In at a0)); (first | have a1 := in_u h3 | (have a1 := h3; unfold In at a1)); (first | have a2 := in_u h2 | (have a2 := h2; unfold In at a2)); (first | have a3 := in_u ((in_c 0 rfl)) | (have a3 := (in_c 0 rfl); unfold In at a3)); have oc := oc_75_65_32; omega))), Int.le_refl _⟩
    have n63a : (s57).2.2.1 65 0 = s.2.2.1 32 0 ∧ (s57).2.2.1 65 1 = x2 ∧ (s57).2.2.1 65 2 = x3 := by refine ⟨?_, ?_, ?_⟩; (rw [hF57.2.2.1 65 0 rfl]; exact e_32_0); (rw [hF57.2.2.1 65 1 rfl]; rfl); (rw [hF57.2.2.1 65 2 rfl]; rfl)
    exact gg_w (by first | exact Nat.le_of_ble_eq_true rfl | omega) (gg_f (gf_cons rfl (gf_cons rfl (gf_cons rfl (gf_cons rfl (gf_cons rfl gf_nil))))) (ct63 2147483648 s57 (Int32.ofInt 0) hI57 (fr_tr rfl (fr_sG rfl (fr_sF rfl (fr_sF rfl (fr_sF rfl fr_rf)))) hF57) (in_w 0 2147483647 (in_c 0 rfl) rfl) n63 n63a (m_in 2147483648 (in_w 0 2147483647 (in_c 0 rfl) rfl) rfl)))
  · skip
    have i8 := r_eq1 0 4000 c8 i1 ro_32_0 rfl
    refine g_aload_n 12 (gd rfl) rfl rfl ?_
    refine g_getI 15 (gd rfl) rfl rfl rfl (fun z12 e12 => ?_)
    have i12 := inv_F hI 0 31 rfl e12
    refine g_iload_n 16 (gd rfl) rfl rfl ?_
    refine g_cmp_ne 19 32 (gd rfl) rfl rfl (fun c16 => ?_) (fun c16 => ?_)
    · skip
      refine g_aload_n 33 (gd rfl) rfl rfl ?_
      refine g_aload_n 34 (gd rfl) rfl rfl ?_
      refine g_getI 37 (gd rfl) rfl rfl rfl (fun z34 e34 => ?_)
      have q34 : u_32_0 = z34 := (e_32_0).trans e34.symm
      subst q34
      refine g_putI 40 (gd rfl) rfl rfl rfl rfl ?_
      have hI37 := inv_sF (q := 65) (j := 0) hI rfl (in_w (-1) 4000 ro_32_0 rfl)
      refine g_aload_n 41 (gd rfl) rfl rfl ?_
      refine g_iload_n 42 (gd rfl) rfl rfl ?_
      refine g_putI 45 (gd rfl) rfl rfl rfl rfl ?_
      have hI42 := inv_sF (q := 65) (j := 1) hI37 rfl (in_w 0 31 h2 rfl)
      refine g_aload_n 46 (gd rfl) rfl rfl ?_
      refine g_iload_n 47 (gd rfl) rfl rfl ?_
      refine g_putI 50 (gd rfl) rfl rfl rfl rfl ?_
      have hI47 := inv_sF (q := 65) (j := 2) hI42 rfl (in_w 0 31 h3 rfl)
      refine g_aload_n 51 (gd rfl) rfl rfl ?_
      refine g_lconst 0 52 (gd rfl) rfl rfl ?_
      refine g_putL 55 (gd rfl) rfl rfl rfl rfl ?_
      have hI52 := inv_sG (q := 65) (j := 3) (x := (Int64.ofInt 0)) hI47 rfl (l_rng (Int64.ofInt 0))
      refine g_aload_n 56 (gd rfl) rfl rfl ?_
      refine g_aload_n 57 (gd rfl) rfl rfl ?_
      have p57 : TQD (sG (sF (sF (sF s 65 0 u_32_0) 65 1 x2) 65 2 x3) 65 3 (Int64.ofInt 0)) := by exact tqd_fr (L := ([], [], [(65, 0), (65, 1), (65, 2)], [(65, 3)])) q_0 (fr_sG rfl (fr_sF rfl (fr_sF rfl (fr_sF rfl fr_rf)))) rfl
      refine g_callv (X := _) (As := [.ref (A 32)]) (r := []) (b := A 65) (q := 65) 60 (gd rfl) rfl rfl rfl rfl rfl (ww_o rfl) (Nat.le_of_ble_eq_true rfl) (Nat.zero_le _) (Nat.zero_le _) (f_76_65_32 (by first | exact dq1 hd rfl | exact dq0 hd rfl | exact dq2 hd rfl | exact dq3 hd rfl | omega) hI52 p57) (fun e u h => h) (fun v u h => ?_)
      obtain ⟨s57, hI57, hF57, rfl, rfl, p57a⟩ := h
      show GG _ _ _ _ _ _ _ _ [] _ _ _
      refine g_iconst 0 61 (gd rfl) rfl rfl ?_
      refine g_istore 63 (gd rfl) rfl (Nat.le_of_ble_eq_true rfl) ?_
      have n63 : CFL (gvD s) (x2).toNatClampNeg (x3).toNatClampNeg ((s57).1 66) ((s57).1 67) ((s57).2.2.2.1 65 3).toInt ∧ EKI ((s57).1 67) (x2).toNatClampNeg (x3).toNatClampNeg ((Int32.ofInt 0)).toNatClampNeg ∧ 0 ≤ ((s57).2.2.2.1 65 3).toInt := by have h9 := p57a (x2).toNatClampNeg (x3).toNatClampNeg; rw [(show gvD (sG (sF (sF (sF s 65 0 u_32_0) 65 1 x2) 65 2 x3) 65 3 (Int64.ofInt 0)) = gvD s from gvD_fr (L := ([], [], [(65, 0), (65, 1), (65, 2)], [(65, 3)])) (fr_sG rfl (fr_sF rfl (fr_sF rfl (fr_sF rfl fr_rf)))) rfl)] at h9; have e3 : (s57.2.2.2.1 65 3) = Int64.ofInt 0 := hF57.2.2.2 65 3 rfl; have z0 : (Int64.ofInt 0).toInt = 0 := rfl; rw [e3, z0]; exact ⟨h9, (show EKI _ _ _ 0 from eki_0 (show (x2).toNatClampNeg ≠ (x3).toNatClampNeg from (by show (x2).toInt.toNat ≠ (x3).toInt.toNat; have h9 := q_2; (first | have a0 := in_u ro_32_0 | (have a0 := ro_32_0; unfold In at a0)); (first | have a1 := in_u h3 | (have a1 := h3; unfold In at a1)); (first | have a2 := in_u h2 | (have a2 := h2; unfold In at a2)); (first | have a3 := in_u ((in_c 0 rfl)) | (have a3 := (in_c 0 rfl); unfold In at a3)); have oc := oc_75_65_32; omega))), Int.le_refl _⟩
      have n63a : (s57).2.2.1 65 0 = s.2.2.1 32 0 ∧ (s57).2.2.1 65 1 = x2 ∧ (s57).2.2.1 65 2 = x3 := by refine ⟨?_, ?_, ?_⟩; (rw [hF57.2.2.1 65 0 rfl]; exact e_32_0); (rw [hF57.2.2.1 65 1 rfl]; rfl); (rw [hF57.2.2.1 65 2 rfl]; rfl)
      exact gg_w (by first | exact Nat.le_of_ble_eq_true rfl | omega) (gg_f (gf_cons rfl (gf_cons rfl (gf_cons rfl (gf_cons rfl (gf_cons rfl gf_nil))))) (ct63 2147483648 s57 (Int32.ofInt 0) hI57 (fr_tr rfl (fr_sG rfl (fr_sF rfl (fr_sF rfl (fr_sF rfl fr_rf)))) hF57) (in_w 0 2147483647 (in_c 0 rfl) rfl) n63 n63a (m_in 2147483648 (in_w 0 2147483647 (in_c 0 rfl) rfl) rfl)))
    · skip
      refine g_aload_n 20 (gd rfl) rfl rfl ?_
      refine g_getI 23 (gd rfl) rfl rfl rfl (fun z20 e20 => ?_)
      have i20 := inv_F hI 0 31 rfl e20
      refine g_iload_n 24 (gd rfl) rfl rfl ?_
      refine g_cmp_ne 27 32 (gd rfl) rfl rfl (fun c24 => ?_) (fun c24 => ?_)
      · skip
        refine g_aload_n 33 (gd rfl) rfl rfl ?_
        refine g_aload_n 34 (gd rfl) rfl rfl ?_
        refine g_getI 37 (gd rfl) rfl rfl rfl (fun z34 e34 => ?_)
        have q34 : u_32_0 = z34 := (e_32_0).trans e34.symm
        subst q34
        refine g_putI 40 (gd rfl) rfl rfl rfl rfl ?_
        have hI37 := inv_sF (q := 65) (j := 0) hI rfl (in_w (-1) 4000 ro_32_0 rfl)
        refine g_aload_n 41 (gd rfl) rfl rfl ?_
        refine g_iload_n 42 (gd rfl) rfl rfl ?_
        refine g_putI 45 (gd rfl) rfl rfl rfl rfl ?_
        have hI42 := inv_sF (q := 65) (j := 1) hI37 rfl (in_w 0 31 h2 rfl)
        refine g_aload_n 46 (gd rfl) rfl rfl ?_
        refine g_iload_n 47 (gd rfl) rfl rfl ?_
        refine g_putI 50 (gd rfl) rfl rfl rfl rfl ?_
        have hI47 := inv_sF (q := 65) (j := 2) hI42 rfl (in_w 0 31 h3 rfl)
        refine g_aload_n 51 (gd rfl) rfl rfl ?_
        refine g_lconst 0 52 (gd rfl) rfl rfl ?_
        refine g_putL 55 (gd rfl) rfl rfl rfl rfl ?_
        have hI52 := inv_sG (q := 65) (j := 3) (x := (Int64.ofInt 0)) hI47 rfl (l_rng (Int64.ofInt 0))
        refine g_aload_n 56 (gd rfl) rfl rfl ?_
        refine g_aload_n 57 (gd rfl) rfl rfl ?_
        have p57 : TQD (sG (sF (sF (sF s 65 0 u_32_0) 65 1 x2) 65 2 x3) 65 3 (Int64.ofInt 0)) := by exact tqd_fr (L := ([], [], [(65, 0), (65, 1), (65, 2)], [(65, 3)])) q_0 (fr_sG rfl (fr_sF rfl (fr_sF rfl (fr_sF rfl fr_rf)))) rfl
        refine g_callv (X := _) (As := [.ref (A 32)]) (r := []) (b := A 65) (q := 65) 60 (gd rfl) rfl rfl rfl rfl rfl (ww_o rfl) (Nat.le_of_ble_eq_true rfl) (Nat.zero_le _) (Nat.zero_le _) (f_76_65_32 (by first | exact dq1 hd rfl | exact dq0 hd rfl | exact dq2 hd rfl | exact dq3 hd rfl | omega) hI52 p57) (fun e u h => h) (fun v u h => ?_)
        obtain ⟨s57, hI57, hF57, rfl, rfl, p57a⟩ := h
        show GG _ _ _ _ _ _ _ _ [] _ _ _
        refine g_iconst 0 61 (gd rfl) rfl rfl ?_
        refine g_istore 63 (gd rfl) rfl (Nat.le_of_ble_eq_true rfl) ?_
        have n63 : CFL (gvD s) (x2).toNatClampNeg (x3).toNatClampNeg ((s57).1 66) ((s57).1 67) ((s57).2.2.2.1 65 3).toInt ∧ EKI ((s57).1 67) (x2).toNatClampNeg (x3).toNatClampNeg ((Int32.ofInt 0)).toNatClampNeg ∧ 0 ≤ ((s57).2.2.2.1 65 3).toInt := by have h9 := p57a (x2).toNatClampNeg (x3).toNatClampNeg; rw [(show gvD (sG (sF (sF (sF s 65 0 u_32_0) 65 1 x2) 65 2 x3) 65 3 (Int64.ofInt 0)) = gvD s from gvD_fr (L := ([], [], [(65, 0), (65, 1), (65, 2)], [(65, 3)])) (fr_sG rfl (fr_sF rfl (fr_sF rfl (fr_sF rfl fr_rf)))) rfl)] at h9; have e3 : (s57.2.2.2.1 65 3) = Int64.ofInt 0 := hF57.2.2.2 65 3 rfl; have z0 : (Int64.ofInt 0).toInt = 0 := rfl; rw [e3, z0]; exact ⟨h9, (show EKI _ _ _ 0 from eki_0 (show (x2).toNatClampNeg ≠ (x3).toNatClampNeg from (by show (x2).toInt.toNat ≠ (x3).toInt.toNat; have h9 := q_2; (first | have a0 := in_u ro_32_0 | (have a0 := ro_32_0; unfold In at a0)); (first | have a1 := in_u h3 | (have a1 := h3; unfold In at a1)); (first | have a2 := in_u h2 | (have a2 := h2; unfold In at a2)); (first | have a3 := in_u ((in_c 0 rfl)) | (have a3 := (in_c 0 rfl); unfold In at a3)); have oc := oc_75_65_32; omega))), Int.le_refl _⟩
        have n63a : (s57).2.2.1 65 0 = s.2.2.1 32 0 ∧ (s57).2.2.1 65 1 = x2 ∧ (s57).2.2.1 65 2 = x3 := by refine ⟨?_, ?_, ?_⟩; (rw [hF57.2.2.1 65 0 rfl]; exact e_32_0); (rw [hF57.2.2.1 65 1 rfl]; rfl); (rw [hF57.2.2.1 65 2 rfl]; rfl)
        exact gg_w (by first | exact Nat.le_of_ble_eq_true rfl | omega) (gg_f (gf_cons rfl (gf_cons rfl (gf_cons rfl (gf_cons rfl (gf_cons rfl gf_nil))))) (ct63 2147483648 s57 (Int32.ofInt 0) hI57 (fr_tr rfl (fr_sG rfl (fr_sF rfl (fr_sF rfl (fr_sF rfl fr_rf)))) hF57) (in_w 0 2147483647 (in_c 0 rfl) rfl) n63 n63a (m_in 2147483648 (in_w 0 2147483647 (in_c 0 rfl) rfl) rfl)))
      · skip
        refine g_aload_n 28 (gd rfl) rfl rfl ?_
        refine g_getL 31 (gd rfl) rfl rfl rfl (fun z28 e28 => ?_)
        have n31 : FLQ (gvD s) s ∧ FLA s x2 x3 := by have c9 : (s.2.2.1 65 0).toInt = (gvD s).2.2.2.2.2.2.2 := (by show (s.2.2.1 65 0).toInt = (s.2.2.1 32 0).toInt; rw [← e1, ← e_32_0]; first | exact c8 | exact c8.symm); have k9 := q_1 c9; have a1 : s.2.2.1 65 1 = x2 := Int32.toInt_inj.mp (by rw [← e12]; first | exact c16 | exact c16.symm); have a2 : s.2.2.1 65 2 = x3 := Int32.toInt_inj.mp (by rw [← e20]; first | exact c24 | exact c24.symm); rw [a1, a2] at k9; exact flq_e c9 a1 a2 k9
        have n31a : (z28).toInt = ((s).2.2.2.1 65 3).toInt := by rw [e28]
        exact g_lreturn (gd rfl) rfl (hP _ _ ⟨s, hI, fr_rf, z28, rfl, rfl, n31, n31a⟩)

theorem oc_241_0 : (Int32.ofInt (-1)).toInt = (-1) ∧ (Int32.ofInt 0).toInt = 0 ∧ (Int32.ofInt 1).toInt = 1 := ⟨rfl, rfl, rfl⟩
/-- GraphHouse.flow -/
theorem f_241_0 {Z : AmZ} {A : Nat → Nat} {s : GS} {ex : va_W} {d : Nat} {x1 : Int32} {x2 : Int32} (hd : 7 ≤ d) (hI : Inv s) (q_0 : TQ s) (q_1 : TQD s) (q_2 : FLC s) : GC Z d 241 [.ref (A 0), .int x1, .int x2] (WW Z A s ++ ex) 3 18 (fun v u => ∃ t : GS, Inv t ∧ Fr fm_241_0 s t ∧ ∃ z : Int64, v = some (.long z) ∧ u = WW Z A t ++ ex ∧ ((TWO (shC s).2.2.2.2.2.2.1 x1 x2) ∧ FLV (shC s) x1.toNatClampNeg x2.toNatClampNeg (z).toInt) ∧ (FLQ (shC s) t)) (gEx Z A ex ([], [], [], []) s (¬ (TWO (shC s).2.2.2.2.2.2.1 x1 x2)) (False)) := by
  intro post xp hP hX
  obtain ⟨u_0_2, e_0_2⟩ : ∃ w, w = s.2.2.1 0 2 := ⟨_, rfl⟩
  have ro_0_2 := inv_F hI (-1) 4000 rfl e_0_2
  obtain ⟨u_2_1, e_2_1⟩ : ∃ w, w = s.2.2.1 2 1 := ⟨_, rfl⟩
  have ro_2_1 := inv_F hI 0 32 rfl e_2_1
  obtain ⟨u_32_1, e_32_1⟩ : ∃ w, w = s.2.2.1 32 1 := ⟨_, rfl⟩
  have ro_32_1 := inv_F hI 0 32 rfl e_32_1
  refine g_enter2 (k := 241) (N := 900) (by first | exact dq1 hd rfl | exact dq0 hd rfl | exact dq2 hd rfl | exact dq3 hd rfl | omega) rfl (Nat.le_of_ble_eq_true rfl) ?_
  refine g_aload_n 1 (gd rfl) rfl rfl ?_
  refine g_callv (X := _) (As := []) (r := []) (b := A 0) (q := 0) 4 (gd rfl) rfl rfl rfl rfl rfl (ww_o rfl) (Nat.le_of_ble_eq_true rfl) (mc := 0) (ms := 0) (Nat.zero_le _) (Nat.zero_le _) (P := fun v u => _) ?_ (fun e u h => h) (fun v u h => h)
  intro po1 xx1 hp1 hx1
  refine g_enter2 (k := 259) (N := 300) (by first | exact dq1 hd rfl | exact dq0 hd rfl | exact dq2 hd rfl | exact dq3 hd rfl | omega) rfl (Nat.le_of_ble_eq_true rfl) ?_
  refine g_aload_n 1 (gd rfl) rfl rfl ?_
  refine g_getI 4 (gd rfl) rfl rfl rfl (fun z1x1 e1x1 => ?_)
  have q1x1 : u_0_2 = z1x1 := (e_0_2).trans e1x1.symm
  subst q1x1
  refine g_iconst (-1) 5 (gd rfl) rfl rfl ?_
  refine g_cmp_ne 8 18 (gd rfl) rfl rfl (fun c1x5 => ?_) (fun c1x5 => ?_)
  · skip
    have i1x5 := r_ne1 0 4000 c1x5 ro_0_2 (in_c (-1) rfl) rfl
    refine g_aload_n 19 (gd rfl) rfl rfl ?_
    refine g_getA (q2 := 32) 22 (gd rfl) rfl rfl rfl rfl ?_
    refine g_areturn (gd rfl) rfl (hp1 _ _ ?_)
    show GG _ _ _ _ _ _ _ _ [.ref (A 32)] _ _ _
    refine g_astore_n 5 (gd rfl) rfl (Nat.le_of_ble_eq_true rfl) ?_
    refine g_aload_n 6 (gd rfl) rfl rfl ?_
    refine g_iload_n 7 (gd rfl) rfl rfl ?_
    refine g_iload_n 8 (gd rfl) rfl rfl ?_
    refine g_callv (X := _) (As := [.int x1, .int x2]) (r := []) (b := A 32) (q := 32) 11 (gd rfl) rfl rfl rfl rfl rfl (ww_o rfl) (Nat.le_of_ble_eq_true rfl) (mc := 0) (ms := 0) (Nat.zero_le _) (Nat.zero_le _) (P := fun v u => _) ?_ (fun e u h => h) (fun v u h => h)
    intro po8 xx8 hp8 hx8
    refine g_enter2 (k := 95) (N := 300) (by first | exact dq1 hd rfl | exact dq0 hd rfl | exact dq2 hd rfl | exact dq3 hd rfl | omega) rfl (Nat.le_of_ble_eq_true rfl) ?_
    refine g_aload_n 1 (gd rfl) rfl rfl ?_
    refine g_iload_n 2 (gd rfl) rfl rfl ?_
    refine g_callv (X := _) (As := [.int x1]) (r := []) (b := A 32) (q := 32) 5 (gd rfl) rfl rfl rfl rfl rfl (ww_o rfl) (Nat.le_of_ble_eq_true rfl) (mc := 0) (ms := 0) (Nat.zero_le _) (Nat.zero_le _) (P := fun v u => _) ?_ (fun e u h => h) (fun v u h => h)
    intro po8x2 xx8x2 hp8x2 hx8x2
    refine g_enter2 (k := 94) (N := 300) (by first | exact dq1 hd rfl | exact dq0 hd rfl | exact dq2 hd rfl | exact dq3 hd rfl | omega) rfl (Nat.le_of_ble_eq_true rfl) ?_
    refine g_iload_n 1 (gd rfl) rfl rfl ?_
    refine g_if_lt 4 16 (gd rfl) rfl rfl (fun c8x2x1 => ?_) (fun c8x2x1 => ?_)
    · skip
      have i8x2x1 := z_lt (-2147483648) (-1) c8x2x1 (i_rng x1) rfl
      refine g_iconst 0 17 (gd rfl) rfl rfl ?_
      refine g_ireturn (gd rfl) rfl (nb01 (in_w 0 1 (in_c 0 rfl) rfl)) (hp8x2 _ _ ?_)
      show GG _ _ _ _ _ _ _ _ [.int (Int32.ofInt 0)] _ _ _
      refine g_if_eq 8 25 (gd rfl) rfl rfl (fun c8x5 => ?_) (fun c8x5 => ?_)
      · skip
        refine g_iconst 0 26 (gd rfl) rfl rfl ?_
        refine g_ireturn (gd rfl) rfl (nb01 (in_w 0 1 (in_c 0 rfl) rfl)) (hp8 _ _ ?_)
        show GG _ _ _ _ _ _ _ _ [.int (Int32.ofInt 0)] _ _ _
        refine g_thr (E := am_IA) (y := yX11_allow) 14 (gd rfl) rfl rfl (Or.inl ⟨rfl, rfl, rfl⟩) (by first | exact dq1 hd rfl | exact dq0 hd rfl | exact dq2 hd rfl | exact dq3 hd rfl | omega) (Nat.le_of_ble_eq_true rfl) (Nat.le_of_ble_eq_true rfl) (Nat.le_of_ble_eq_true rfl) (fun c11 => ?_) (fun c11 => ?_)
        · skip
          exact zn_ne c11 (in_c 0 rfl) rfl
        · skip
          have n11 : ¬ (TWO (shC s).2.2.2.2.2.2.1 x1 x2) := by first | (rw [shC_n (by rw [← e1x1]; exact c1x5)]; show ¬ TWO (s.2.2.1 2 1).toInt x1 x2; rw [← e_2_1]; (first | have a0 := in_u ro_32_1 | (have a0 := ro_32_1; unfold In at a0)); (first | have a1 := in_u ro_2_1 | (have a1 := ro_2_1; unfold In at a1)); (first | have a2 := in_u i1x5 | (have a2 := i1x5; unfold In at a2)); (first | have a3 := in_u i8x2x1 | (have a3 := i8x2x1; unfold In at a3)); have oc := oc_241_0; omega) | (rw [shC_d (by rw [← e1x1]; exact c1x5)]; show ¬ TWO (s.2.2.1 32 1).toInt x1 x2; rw [← e_32_1]; (first | have a0 := in_u ro_32_1 | (have a0 := ro_32_1; unfold In at a0)); (first | have a1 := in_u ro_2_1 | (have a1 := ro_2_1; unfold In at a1)); (first | have a2 := in_u i1x5 | (have a2 := i1x5; unfold In at a2)); (first | have a3 := in_u i8x2x1 | (have a3 := i8x2x1; unfold In at a3)); have oc := oc_241_0; omega)
          exact (hX _ _ ⟨Or.inl ⟨rfl, n11⟩, s, hI, fr_rf, rfl⟩)
      · skip
        exact zn_ne c8x5 (in_c 0 rfl) rfl
    · skip
      have i8x2x1 := z_ge 0 2147483647 c8x2x1 (i_rng x1) rfl
      refine g_iload_n 5 (gd rfl) rfl rfl ?_
      refine g_aload_n 6 (gd rfl) rfl rfl ?_
      refine g_getI 9 (gd rfl) rfl rfl rfl (fun z8x2x6 e8x2x6 => ?_)
      have q8x2x6 : u_32_1 = z8x2x6 := (e_32_1).trans e8x2x6.symm
      subst q8x2x6
      refine g_cmp_ge 12 16 (gd rfl) rfl rfl (fun c8x2x9 => ?_) (fun c8x2x9 => ?_)
      · skip
        refine g_iconst 0 17 (gd rfl) rfl rfl ?_
        refine g_ireturn (gd rfl) rfl (nb01 (in_w 0 1 (in_c 0 rfl) rfl)) (hp8x2 _ _ ?_)
        show GG _ _ _ _ _ _ _ _ [.int (Int32.ofInt 0)] _ _ _
        refine g_if_eq 8 25 (gd rfl) rfl rfl (fun c8x5 => ?_) (fun c8x5 => ?_)
        · skip
          refine g_iconst 0 26 (gd rfl) rfl rfl ?_
          refine g_ireturn (gd rfl) rfl (nb01 (in_w 0 1 (in_c 0 rfl) rfl)) (hp8 _ _ ?_)
          show GG _ _ _ _ _ _ _ _ [.int (Int32.ofInt 0)] _ _ _
          refine g_thr (E := am_IA) (y := yX11_allow) 14 (gd rfl) rfl rfl (Or.inl ⟨rfl, rfl, rfl⟩) (by first | exact dq1 hd rfl | exact dq0 hd rfl | exact dq2 hd rfl | exact dq3 hd rfl | omega) (Nat.le_of_ble_eq_true rfl) (Nat.le_of_ble_eq_true rfl) (Nat.le_of_ble_eq_true rfl) (fun c11 => ?_) (fun c11 => ?_)
          · skip
            exact zn_ne c11 (in_c 0 rfl) rfl
          · skip
            have n11 : ¬ (TWO (shC s).2.2.2.2.2.2.1 x1 x2) := by first | (rw [shC_n (by rw [← e1x1]; exact c1x5)]; show ¬ TWO (s.2.2.1 2 1).toInt x1 x2; rw [← e_2_1]; (first | have a0 := in_u ro_32_1 | (have a0 := ro_32_1; unfold In at a0)); (first | have a1 := in_u ro_2_1 | (have a1 := ro_2_1; unfold In at a1)); (first | have a2 := in_u i1x5 | (have a2 := i1x5; unfold In at a2)); (first | have a3 := in_u i8x2x1 | (have a3 := i8x2x1; unfold In at a3)); have oc := oc_241_0; omega) | (rw [shC_d (by rw [← e1x1]; exact c1x5)]; show ¬ TWO (s.2.2.1 32 1).toInt x1 x2; rw [← e_32_1]; (first | have a0 := in_u ro_32_1 | (have a0 := ro_32_1; unfold In at a0)); (first | have a1 := in_u ro_2_1 | (have a1 := ro_2_1; unfold In at a1)); (first | have a2 := in_u i1x5 | (have a2 := i1x5; unfold In at a2)); (first | have a3 := in_u i8x2x1 | (have a3 := i8x2x1; unfold In at a3)); have oc := oc_241_0; omega)
            exact (hX _ _ ⟨Or.inl ⟨rfl, n11⟩, s, hI, fr_rf, rfl⟩)
        · skip
          exact zn_ne c8x5 (in_c 0 rfl) rfl
      · skip
        have i8x2x9 := r_lt1 0 31 c8x2x9 i8x2x1 ro_32_1 rfl
        have i8x2x9a := r_lt2 1 32 c8x2x9 i8x2x1 ro_32_1 rfl
        refine g_iconst 1 13 (gd rfl) rfl rfl ?_
        refine g_goto 17 (gd rfl) rfl ?_
        refine g_ireturn (gd rfl) rfl (nb01 (in_w 0 1 (in_c 1 rfl) rfl)) (hp8x2 _ _ ?_)
        show GG _ _ _ _ _ _ _ _ [.int (Int32.ofInt 1)] _ _ _
        refine g_if_eq 8 25 (gd rfl) rfl rfl (fun c8x5 => ?_) (fun c8x5 => ?_)
        · skip
          exact zn_eq c8x5 (in_c 1 rfl) rfl
        · skip
          refine g_aload_n 9 (gd rfl) rfl rfl ?_
          refine g_iload_n 10 (gd rfl) rfl rfl ?_
          refine g_callv (X := _) (As := [.int x2]) (r := []) (b := A 32) (q := 32) 13 (gd rfl) rfl rfl rfl rfl rfl (ww_o rfl) (Nat.le_of_ble_eq_true rfl) (mc := 0) (ms := 0) (Nat.zero_le _) (Nat.zero_le _) (P := fun v u => _) ?_ (fun e u h => h) (fun v u h => h)
          intro po8x10 xx8x10 hp8x10 hx8x10
          refine g_enter2 (k := 94) (N := 300) (by first | exact dq1 hd rfl | exact dq0 hd rfl | exact dq2 hd rfl | exact dq3 hd rfl | omega) rfl (Nat.le_of_ble_eq_true rfl) ?_
          refine g_iload_n 1 (gd rfl) rfl rfl ?_
          refine g_if_lt 4 16 (gd rfl) rfl rfl (fun c8x10x1 => ?_) (fun c8x10x1 => ?_)
          · skip
            have i8x10x1 := z_lt (-2147483648) (-1) c8x10x1 (i_rng x2) rfl
            refine g_iconst 0 17 (gd rfl) rfl rfl ?_
            refine g_ireturn (gd rfl) rfl (nb01 (in_w 0 1 (in_c 0 rfl) rfl)) (hp8x10 _ _ ?_)
            show GG _ _ _ _ _ _ _ _ [.int (Int32.ofInt 0)] _ _ _
            refine g_if_eq 16 25 (gd rfl) rfl rfl (fun c8x13 => ?_) (fun c8x13 => ?_)
            · skip
              refine g_iconst 0 26 (gd rfl) rfl rfl ?_
              refine g_ireturn (gd rfl) rfl (nb01 (in_w 0 1 (in_c 0 rfl) rfl)) (hp8 _ _ ?_)
              show GG _ _ _ _ _ _ _ _ [.int (Int32.ofInt 0)] _ _ _
              refine g_thr (E := am_IA) (y := yX11_allow) 14 (gd rfl) rfl rfl (Or.inl ⟨rfl, rfl, rfl⟩) (by first | exact dq1 hd rfl | exact dq0 hd rfl | exact dq2 hd rfl | exact dq3 hd rfl | omega) (Nat.le_of_ble_eq_true rfl) (Nat.le_of_ble_eq_true rfl) (Nat.le_of_ble_eq_true rfl) (fun c11 => ?_) (fun c11 => ?_)
              · skip
                exact zn_ne c11 (in_c 0 rfl) rfl
              · skip
                have n11 : ¬ (TWO (shC s).2.2.2.2.2.2.1 x1 x2) := by first | (rw [shC_n (by rw [← e1x1]; exact c1x5)]; show ¬ TWO (s.2.2.1 2 1).toInt x1 x2; rw [← e_2_1]; (first | have a0 := in_u i8x2x9 | (have a0 := i8x2x9; unfold In at a0)); (first | have a1 := in_u i8x2x9a | (have a1 := i8x2x9a; unfold In at a1)); (first | have a2 := in_u ro_2_1 | (have a2 := ro_2_1; unfold In at a2)); (first | have a3 := in_u i1x5 | (have a3 := i1x5; unfold In at a3)); (first | have a4 := in_u i8x10x1 | (have a4 := i8x10x1; unfold In at a4)); have oc := oc_241_0; omega) | (rw [shC_d (by rw [← e1x1]; exact c1x5)]; show ¬ TWO (s.2.2.1 32 1).toInt x1 x2; rw [← e_32_1]; (first | have a0 := in_u i8x2x9 | (have a0 := i8x2x9; unfold In at a0)); (first | have a1 := in_u i8x2x9a | (have a1 := i8x2x9a; unfold In at a1)); (first | have a2 := in_u ro_2_1 | (have a2 := ro_2_1; unfold In at a2)); (first | have a3 := in_u i1x5 | (have a3 := i1x5; unfold In at a3)); (first | have a4 := in_u i8x10x1 | (have a4 := i8x10x1; unfold In at a4)); have oc := oc_241_0; omega)
                exact (hX _ _ ⟨Or.inl ⟨rfl, n11⟩, s, hI, fr_rf, rfl⟩)
            · skip
              exact zn_ne c8x13 (in_c 0 rfl) rfl
          · skip
            have i8x10x1 := z_ge 0 2147483647 c8x10x1 (i_rng x2) rfl
            refine g_iload_n 5 (gd rfl) rfl rfl ?_
            refine g_aload_n 6 (gd rfl) rfl rfl ?_
            refine g_getI 9 (gd rfl) rfl rfl rfl (fun z8x10x6 e8x10x6 => ?_)
            have q8x10x6 : u_32_1 = z8x10x6 := (e_32_1).trans e8x10x6.symm
            subst q8x10x6
            refine g_cmp_ge 12 16 (gd rfl) rfl rfl (fun c8x10x9 => ?_) (fun c8x10x9 => ?_)
            · skip
              have i8x10x9 := r_le2 1 2147483647 c8x10x9 i8x2x9a i8x10x1 rfl
              refine g_iconst 0 17 (gd rfl) rfl rfl ?_
              refine g_ireturn (gd rfl) rfl (nb01 (in_w 0 1 (in_c 0 rfl) rfl)) (hp8x10 _ _ ?_)
              show GG _ _ _ _ _ _ _ _ [.int (Int32.ofInt 0)] _ _ _
              refine g_if_eq 16 25 (gd rfl) rfl rfl (fun c8x13 => ?_) (fun c8x13 => ?_)
              · skip
                refine g_iconst 0 26 (gd rfl) rfl rfl ?_
                refine g_ireturn (gd rfl) rfl (nb01 (in_w 0 1 (in_c 0 rfl) rfl)) (hp8 _ _ ?_)
                show GG _ _ _ _ _ _ _ _ [.int (Int32.ofInt 0)] _ _ _
                refine g_thr (E := am_IA) (y := yX11_allow) 14 (gd rfl) rfl rfl (Or.inl ⟨rfl, rfl, rfl⟩) (by first | exact dq1 hd rfl | exact dq0 hd rfl | exact dq2 hd rfl | exact dq3 hd rfl | omega) (Nat.le_of_ble_eq_true rfl) (Nat.le_of_ble_eq_true rfl) (Nat.le_of_ble_eq_true rfl) (fun c11 => ?_) (fun c11 => ?_)
                · skip
                  exact zn_ne c11 (in_c 0 rfl) rfl
                · skip
                  have n11 : ¬ (TWO (shC s).2.2.2.2.2.2.1 x1 x2) := by first | (rw [shC_n (by rw [← e1x1]; exact c1x5)]; show ¬ TWO (s.2.2.1 2 1).toInt x1 x2; rw [← e_2_1]; (first | have a0 := in_u i8x2x9 | (have a0 := i8x2x9; unfold In at a0)); (first | have a1 := in_u i8x2x9a | (have a1 := i8x2x9a; unfold In at a1)); (first | have a2 := in_u ro_2_1 | (have a2 := ro_2_1; unfold In at a2)); (first | have a3 := in_u i1x5 | (have a3 := i1x5; unfold In at a3)); (first | have a4 := in_u i8x10x9 | (have a4 := i8x10x9; unfold In at a4)); have oc := oc_241_0; omega) | (rw [shC_d (by rw [← e1x1]; exact c1x5)]; show ¬ TWO (s.2.2.1 32 1).toInt x1 x2; rw [← e_32_1]; (first | have a0 := in_u i8x2x9 | (have a0 := i8x2x9; unfold In at a0)); (first | have a1 := in_u i8x2x9a | (have a1 := i8x2x9a; unfold In at a1)); (first | have a2 := in_u ro_2_1 | (have a2 := ro_2_1; unfold In at a2)); (first | have a3 := in_u i1x5 | (have a3 := i1x5; unfold In at a3)); (first | have a4 := in_u i8x10x9 | (have a4 := i8x10x9; unfold In at a4)); have oc := oc_241_0; omega)
                  exact (hX _ _ ⟨Or.inl ⟨rfl, n11⟩, s, hI, fr_rf, rfl⟩)
              · skip
                exact zn_ne c8x13 (in_c 0 rfl) rfl
            · skip
              have i8x10x9 := r_lt1 0 31 c8x10x9 i8x10x1 i8x2x9a rfl
              refine g_iconst 1 13 (gd rfl) rfl rfl ?_
              refine g_goto 17 (gd rfl) rfl ?_
              refine g_ireturn (gd rfl) rfl (nb01 (in_w 0 1 (in_c 1 rfl) rfl)) (hp8x10 _ _ ?_)
              show GG _ _ _ _ _ _ _ _ [.int (Int32.ofInt 1)] _ _ _
              refine g_if_eq 16 25 (gd rfl) rfl rfl (fun c8x13 => ?_) (fun c8x13 => ?_)
              · skip
                exact zn_eq c8x13 (in_c 1 rfl) rfl
              · skip
                refine g_iload_n 17 (gd rfl) rfl rfl ?_
                refine g_iload_n 18 (gd rfl) rfl rfl ?_
                refine g_cmp_eq 21 25 (gd rfl) rfl rfl (fun c8x18 => ?_) (fun c8x18 => ?_)
                · skip
                  refine g_iconst 0 26 (gd rfl) rfl rfl ?_
                  refine g_ireturn (gd rfl) rfl (nb01 (in_w 0 1 (in_c 0 rfl) rfl)) (hp8 _ _ ?_)
                  show GG _ _ _ _ _ _ _ _ [.int (Int32.ofInt 0)] _ _ _
                  refine g_thr (E := am_IA) (y := yX11_allow) 14 (gd rfl) rfl rfl (Or.inl ⟨rfl, rfl, rfl⟩) (by first | exact dq1 hd rfl | exact dq0 hd rfl | exact dq2 hd rfl | exact dq3 hd rfl | omega) (Nat.le_of_ble_eq_true rfl) (Nat.le_of_ble_eq_true rfl) (Nat.le_of_ble_eq_true rfl) (fun c11 => ?_) (fun c11 => ?_)
                  · skip
                    exact zn_ne c11 (in_c 0 rfl) rfl
                  · skip
                    have n11 : ¬ (TWO (shC s).2.2.2.2.2.2.1 x1 x2) := by first | (rw [shC_n (by rw [← e1x1]; exact c1x5)]; show ¬ TWO (s.2.2.1 2 1).toInt x1 x2; rw [← e_2_1]; (first | have a0 := in_u i8x10x9 | (have a0 := i8x10x9; unfold In at a0)); (first | have a1 := in_u i8x2x9 | (have a1 := i8x2x9; unfold In at a1)); (first | have a2 := in_u i8x2x9a | (have a2 := i8x2x9a; unfold In at a2)); (first | have a3 := in_u ro_2_1 | (have a3 := ro_2_1; unfold In at a3)); (first | have a4 := in_u i1x5 | (have a4 := i1x5; unfold In at a4)); have oc := oc_241_0; omega) | (rw [shC_d (by rw [← e1x1]; exact c1x5)]; show ¬ TWO (s.2.2.1 32 1).toInt x1 x2; rw [← e_32_1]; (first | have a0 := in_u i8x10x9 | (have a0 := i8x10x9; unfold In at a0)); (first | have a1 := in_u i8x2x9 | (have a1 := i8x2x9; unfold In at a1)); (first | have a2 := in_u i8x2x9a | (have a2 := i8x2x9a; unfold In at a2)); (first | have a3 := in_u ro_2_1 | (have a3 := ro_2_1; unfold In at a3)); (first | have a4 := in_u i1x5 | (have a4 := i1x5; unfold In at a4)); have oc := oc_241_0; omega)
                    exact (hX _ _ ⟨Or.inl ⟨rfl, n11⟩, s, hI, fr_rf, rfl⟩)
                · skip
                  refine g_iconst 1 22 (gd rfl) rfl rfl ?_
                  refine g_goto 26 (gd rfl) rfl ?_
                  refine g_ireturn (gd rfl) rfl (nb01 (in_w 0 1 (in_c 1 rfl) rfl)) (hp8 _ _ ?_)
                  show GG _ _ _ _ _ _ _ _ [.int (Int32.ofInt 1)] _ _ _
                  refine g_thr (E := am_IA) (y := yX11_allow) 14 (gd rfl) rfl rfl (Or.inl ⟨rfl, rfl, rfl⟩) (by first | exact dq1 hd rfl | exact dq0 hd rfl | exact dq2 hd rfl | exact dq3 hd rfl | omega) (Nat.le_of_ble_eq_true rfl) (Nat.le_of_ble_eq_true rfl) (Nat.le_of_ble_eq_true rfl) (fun c11 => ?_) (fun c11 => ?_)
                  · skip
                    refine g_aload_n 15 (gd rfl) rfl rfl ?_
                    refine g_getA (q2 := 65) 18 (gd rfl) rfl rfl rfl rfl ?_
                    refine g_aload_n 19 (gd rfl) rfl rfl ?_
                    refine g_iload_n 20 (gd rfl) rfl rfl ?_
                    refine g_iload_n 21 (gd rfl) rfl rfl ?_
                    have p21 : TQD s := by first | exact q_0 | exact q_1
                    have p21a : FLB (gvD s) s := by first | (rw [← shC_n (by rw [← e1x1]; exact c1x5)]; exact q_2) | (rw [← shC_d (by rw [← e1x1]; exact c1x5)]; exact q_2)
                    have p21b : (x1).toInt ≠ (x2).toInt := by (first | have a0 := in_u i8x10x9 | (have a0 := i8x10x9; unfold In at a0)); (first | have a1 := in_u i8x2x9 | (have a1 := i8x2x9; unfold In at a1)); (first | have a2 := in_u i8x2x9a | (have a2 := i8x2x9a; unfold In at a2)); (first | have a3 := in_u ro_2_1 | (have a3 := ro_2_1; unfold In at a3)); (first | have a4 := in_u i1x5 | (have a4 := i1x5; unfold In at a4)); have oc := oc_241_0; omega
                    refine g_callv (X := _) (As := [.ref (A 32), .int x1, .int x2]) (r := []) (b := A 65) (q := 65) 24 (gd rfl) rfl rfl rfl rfl rfl (ww_o rfl) (Nat.le_of_ble_eq_true rfl) (Nat.zero_le _) (Nat.zero_le _) (f_75_65_32 (by first | exact dq1 hd rfl | exact dq0 hd rfl | exact dq2 hd rfl | exact dq3 hd rfl | omega) hI (in_w 0 31 i8x2x9 rfl) (in_w 0 31 i8x10x9 rfl) p21 p21a p21b) (fun e u h => h) (fun v u h => ?_)
                    obtain ⟨s21, hI21, hF21, z21, rfl, rfl, p21c, p21d⟩ := h
                    show GG _ _ _ _ _ _ _ _ [.long z21] _ _ _
                    have n24 : (TWO (shC s).2.2.2.2.2.2.1 x1 x2) ∧ FLV (shC s) x1.toNatClampNeg x2.toNatClampNeg (z21).toInt := by first | (rw [shC_n (by rw [← e1x1]; exact c1x5)]; exact ⟨⟨⟨by (first | have a0 := in_u i8x10x9 | (have a0 := i8x10x9; unfold In at a0)); (first | have a1 := in_u i8x2x9 | (have a1 := i8x2x9; unfold In at a1)); (first | have a2 := in_u i8x2x9a | (have a2 := i8x2x9a; unfold In at a2)); (first | have a3 := in_u ro_2_1 | (have a3 := ro_2_1; unfold In at a3)); (first | have a4 := in_u i1x5 | (have a4 := i1x5; unfold In at a4)); have oc := oc_241_0; omega, by show x1.toInt < (s.2.2.1 2 1).toInt; rw [← e_2_1]; (first | have a0 := in_u i8x10x9 | (have a0 := i8x10x9; unfold In at a0)); (first | have a1 := in_u i8x2x9 | (have a1 := i8x2x9; unfold In at a1)); (first | have a2 := in_u i8x2x9a | (have a2 := i8x2x9a; unfold In at a2)); (first | have a3 := in_u ro_2_1 | (have a3 := ro_2_1; unfold In at a3)); (first | have a4 := in_u i1x5 | (have a4 := i1x5; unfold In at a4)); have oc := oc_241_0; omega⟩, ⟨by (first | have a0 := in_u i8x10x9 | (have a0 := i8x10x9; unfold In at a0)); (first | have a1 := in_u i8x2x9 | (have a1 := i8x2x9; unfold In at a1)); (first | have a2 := in_u i8x2x9a | (have a2 := i8x2x9a; unfold In at a2)); (first | have a3 := in_u ro_2_1 | (have a3 := ro_2_1; unfold In at a3)); (first | have a4 := in_u i1x5 | (have a4 := i1x5; unfold In at a4)); have oc := oc_241_0; omega, by show x2.toInt < (s.2.2.1 2 1).toInt; rw [← e_2_1]; (first | have a0 := in_u i8x10x9 | (have a0 := i8x10x9; unfold In at a0)); (first | have a1 := in_u i8x2x9 | (have a1 := i8x2x9; unfold In at a1)); (first | have a2 := in_u i8x2x9a | (have a2 := i8x2x9a; unfold In at a2)); (first | have a3 := in_u ro_2_1 | (have a3 := ro_2_1; unfold In at a3)); (first | have a4 := in_u i1x5 | (have a4 := i1x5; unfold In at a4)); have oc := oc_241_0; omega⟩, by (first | have a0 := in_u i8x10x9 | (have a0 := i8x10x9; unfold In at a0)); (first | have a1 := in_u i8x2x9 | (have a1 := i8x2x9; unfold In at a1)); (first | have a2 := in_u i8x2x9a | (have a2 := i8x2x9a; unfold In at a2)); (first | have a3 := in_u ro_2_1 | (have a3 := ro_2_1; unfold In at a3)); (first | have a4 := in_u i1x5 | (have a4 := i1x5; unfold In at a4)); have oc := oc_241_0; omega⟩, flv_of p21c p21d⟩) | (rw [shC_d (by rw [← e1x1]; exact c1x5)]; exact ⟨⟨⟨by (first | have a0 := in_u i8x10x9 | (have a0 := i8x10x9; unfold In at a0)); (first | have a1 := in_u i8x2x9 | (have a1 := i8x2x9; unfold In at a1)); (first | have a2 := in_u i8x2x9a | (have a2 := i8x2x9a; unfold In at a2)); (first | have a3 := in_u ro_2_1 | (have a3 := ro_2_1; unfold In at a3)); (first | have a4 := in_u i1x5 | (have a4 := i1x5; unfold In at a4)); have oc := oc_241_0; omega, by show x1.toInt < (s.2.2.1 32 1).toInt; rw [← e_32_1]; (first | have a0 := in_u i8x10x9 | (have a0 := i8x10x9; unfold In at a0)); (first | have a1 := in_u i8x2x9 | (have a1 := i8x2x9; unfold In at a1)); (first | have a2 := in_u i8x2x9a | (have a2 := i8x2x9a; unfold In at a2)); (first | have a3 := in_u ro_2_1 | (have a3 := ro_2_1; unfold In at a3)); (first | have a4 := in_u i1x5 | (have a4 := i1x5; unfold In at a4)); have oc := oc_241_0; omega⟩, ⟨by (first | have a0 := in_u i8x10x9 | (have a0 := i8x10x9; unfold In at a0)); (first | have a1 := in_u i8x2x9 | (have a1 := i8x2x9; unfold In at a1)); (first | have a2 := in_u i8x2x9a | (have a2 := i8x2x9a; unfold In at a2)); (first | have a3 := in_u ro_2_1 | (have a3 := ro_2_1; unfold In at a3)); (first | have a4 := in_u i1x5 | (have a4 := i1x5; unfold In at a4)); have oc := oc_241_0; omega, by show x2.toInt < (s.2.2.1 32 1).toInt; rw [← e_32_1]; (first | have a0 := in_u i8x10x9 | (have a0 := i8x10x9; unfold In at a0)); (first | have a1 := in_u i8x2x9 | (have a1 := i8x2x9; unfold In at a1)); (first | have a2 := in_u i8x2x9a | (have a2 := i8x2x9a; unfold In at a2)); (first | have a3 := in_u ro_2_1 | (have a3 := ro_2_1; unfold In at a3)); (first | have a4 := in_u i1x5 | (have a4 := i1x5; unfold In at a4)); have oc := oc_241_0; omega⟩, by (first | have a0 := in_u i8x10x9 | (have a0 := i8x10x9; unfold In at a0)); (first | have a1 := in_u i8x2x9 | (have a1 := i8x2x9; unfold In at a1)); (first | have a2 := in_u i8x2x9a | (have a2 := i8x2x9a; unfold In at a2)); (first | have a3 := in_u ro_2_1 | (have a3 := ro_2_1; unfold In at a3)); (first | have a4 := in_u i1x5 | (have a4 := i1x5; unfold In at a4)); have oc := oc_241_0; omega⟩, flv_of p21c p21d⟩)
                    have n24a : FLQ (shC s) s21 := by first | (rw [shC_n (by rw [← e1x1]; exact c1x5)]; exact p21c.1) | (rw [shC_d (by rw [← e1x1]; exact c1x5)]; exact p21c.1)
                    exact g_lreturn (gd rfl) rfl (hP _ _ ⟨s21, hI21, (fr_tr rfl fr_rf hF21), z21, rfl, rfl, n24, n24a⟩)
                  · skip
                    exact zn_eq c11 (in_c 1 rfl) rfl
  · skip
    have i1x5 := r_eq1 (-1) (-1) c1x5 ro_0_2 (in_c (-1) rfl) rfl
    refine g_aload_n 9 (gd rfl) rfl rfl ?_
    refine g_getA (q2 := 1) 12 (gd rfl) rfl rfl rfl rfl ?_
    refine g_getA (q2 := 2) 15 (gd rfl) rfl rfl rfl rfl ?_
    refine g_goto 22 (gd rfl) rfl ?_
    refine g_areturn (gd rfl) rfl (hp1 _ _ ?_)
    show GG _ _ _ _ _ _ _ _ [.ref (A 2)] _ _ _
    refine g_astore_n 5 (gd rfl) rfl (Nat.le_of_ble_eq_true rfl) ?_
    refine g_aload_n 6 (gd rfl) rfl rfl ?_
    refine g_iload_n 7 (gd rfl) rfl rfl ?_
    refine g_iload_n 8 (gd rfl) rfl rfl ?_
    refine g_callv (X := _) (As := [.int x1, .int x2]) (r := []) (b := A 2) (q := 2) 11 (gd rfl) rfl rfl rfl rfl rfl (ww_o rfl) (Nat.le_of_ble_eq_true rfl) (mc := 0) (ms := 0) (Nat.zero_le _) (Nat.zero_le _) (P := fun v u => _) ?_ (fun e u h => h) (fun v u h => h)
    intro po8 xx8 hp8 hx8
    refine g_enter2 (k := 95) (N := 300) (by first | exact dq1 hd rfl | exact dq0 hd rfl | exact dq2 hd rfl | exact dq3 hd rfl | omega) rfl (Nat.le_of_ble_eq_true rfl) ?_
    refine g_aload_n 1 (gd rfl) rfl rfl ?_
    refine g_iload_n 2 (gd rfl) rfl rfl ?_
    refine g_callv (X := _) (As := [.int x1]) (r := []) (b := A 2) (q := 2) 5 (gd rfl) rfl rfl rfl rfl rfl (ww_o rfl) (Nat.le_of_ble_eq_true rfl) (mc := 0) (ms := 0) (Nat.zero_le _) (Nat.zero_le _) (P := fun v u => _) ?_ (fun e u h => h) (fun v u h => h)
    intro po8x2 xx8x2 hp8x2 hx8x2
    refine g_enter2 (k := 94) (N := 300) (by first | exact dq1 hd rfl | exact dq0 hd rfl | exact dq2 hd rfl | exact dq3 hd rfl | omega) rfl (Nat.le_of_ble_eq_true rfl) ?_
    refine g_iload_n 1 (gd rfl) rfl rfl ?_
    refine g_if_lt 4 16 (gd rfl) rfl rfl (fun c8x2x1 => ?_) (fun c8x2x1 => ?_)
    · skip
      have i8x2x1 := z_lt (-2147483648) (-1) c8x2x1 (i_rng x1) rfl
      refine g_iconst 0 17 (gd rfl) rfl rfl ?_
      refine g_ireturn (gd rfl) rfl (nb01 (in_w 0 1 (in_c 0 rfl) rfl)) (hp8x2 _ _ ?_)
      show GG _ _ _ _ _ _ _ _ [.int (Int32.ofInt 0)] _ _ _
      refine g_if_eq 8 25 (gd rfl) rfl rfl (fun c8x5 => ?_) (fun c8x5 => ?_)
      · skip
        refine g_iconst 0 26 (gd rfl) rfl rfl ?_
        refine g_ireturn (gd rfl) rfl (nb01 (in_w 0 1 (in_c 0 rfl) rfl)) (hp8 _ _ ?_)
        show GG _ _ _ _ _ _ _ _ [.int (Int32.ofInt 0)] _ _ _
        refine g_thr (E := am_IA) (y := yX11_allow) 14 (gd rfl) rfl rfl (Or.inl ⟨rfl, rfl, rfl⟩) (by first | exact dq1 hd rfl | exact dq0 hd rfl | exact dq2 hd rfl | exact dq3 hd rfl | omega) (Nat.le_of_ble_eq_true rfl) (Nat.le_of_ble_eq_true rfl) (Nat.le_of_ble_eq_true rfl) (fun c11 => ?_) (fun c11 => ?_)
        · skip
          exact zn_ne c11 (in_c 0 rfl) rfl
        · skip
          have n11 : ¬ (TWO (shC s).2.2.2.2.2.2.1 x1 x2) := by first | (rw [shC_n (by rw [← e1x1]; exact c1x5)]; show ¬ TWO (s.2.2.1 2 1).toInt x1 x2; rw [← e_2_1]; (first | have a0 := in_u ro_32_1 | (have a0 := ro_32_1; unfold In at a0)); (first | have a1 := in_u ro_2_1 | (have a1 := ro_2_1; unfold In at a1)); (first | have a2 := in_u i1x5 | (have a2 := i1x5; unfold In at a2)); (first | have a3 := in_u i8x2x1 | (have a3 := i8x2x1; unfold In at a3)); have oc := oc_241_0; omega) | (rw [shC_d (by rw [← e1x1]; exact c1x5)]; show ¬ TWO (s.2.2.1 32 1).toInt x1 x2; rw [← e_32_1]; (first | have a0 := in_u ro_32_1 | (have a0 := ro_32_1; unfold In at a0)); (first | have a1 := in_u ro_2_1 | (have a1 := ro_2_1; unfold In at a1)); (first | have a2 := in_u i1x5 | (have a2 := i1x5; unfold In at a2)); (first | have a3 := in_u i8x2x1 | (have a3 := i8x2x1; unfold In at a3)); have oc := oc_241_0; omega)
          exact (hX _ _ ⟨Or.inl ⟨rfl, n11⟩, s, hI, fr_rf, rfl⟩)
      · skip
        exact zn_ne c8x5 (in_c 0 rfl) rfl
    · skip
      have i8x2x1 := z_ge 0 2147483647 c8x2x1 (i_rng x1) rfl
      refine g_iload_n 5 (gd rfl) rfl rfl ?_
      refine g_aload_n 6 (gd rfl) rfl rfl ?_
      refine g_getI 9 (gd rfl) rfl rfl rfl (fun z8x2x6 e8x2x6 => ?_)
      have q8x2x6 : u_2_1 = z8x2x6 := (e_2_1).trans e8x2x6.symm
      subst q8x2x6
      refine g_cmp_ge 12 16 (gd rfl) rfl rfl (fun c8x2x9 => ?_) (fun c8x2x9 => ?_)
      · skip
        refine g_iconst 0 17 (gd rfl) rfl rfl ?_
        refine g_ireturn (gd rfl) rfl (nb01 (in_w 0 1 (in_c 0 rfl) rfl)) (hp8x2 _ _ ?_)
        show GG _ _ _ _ _ _ _ _ [.int (Int32.ofInt 0)] _ _ _
        refine g_if_eq 8 25 (gd rfl) rfl rfl (fun c8x5 => ?_) (fun c8x5 => ?_)
        · skip
          refine g_iconst 0 26 (gd rfl) rfl rfl ?_
          refine g_ireturn (gd rfl) rfl (nb01 (in_w 0 1 (in_c 0 rfl) rfl)) (hp8 _ _ ?_)
          show GG _ _ _ _ _ _ _ _ [.int (Int32.ofInt 0)] _ _ _
          refine g_thr (E := am_IA) (y := yX11_allow) 14 (gd rfl) rfl rfl (Or.inl ⟨rfl, rfl, rfl⟩) (by first | exact dq1 hd rfl | exact dq0 hd rfl | exact dq2 hd rfl | exact dq3 hd rfl | omega) (Nat.le_of_ble_eq_true rfl) (Nat.le_of_ble_eq_true rfl) (Nat.le_of_ble_eq_true rfl) (fun c11 => ?_) (fun c11 => ?_)
          · skip
            exact zn_ne c11 (in_c 0 rfl) rfl
          · skip
            have n11 : ¬ (TWO (shC s).2.2.2.2.2.2.1 x1 x2) := by first | (rw [shC_n (by rw [← e1x1]; exact c1x5)]; show ¬ TWO (s.2.2.1 2 1).toInt x1 x2; rw [← e_2_1]; (first | have a0 := in_u ro_32_1 | (have a0 := ro_32_1; unfold In at a0)); (first | have a1 := in_u ro_2_1 | (have a1 := ro_2_1; unfold In at a1)); (first | have a2 := in_u i1x5 | (have a2 := i1x5; unfold In at a2)); (first | have a3 := in_u i8x2x1 | (have a3 := i8x2x1; unfold In at a3)); have oc := oc_241_0; omega) | (rw [shC_d (by rw [← e1x1]; exact c1x5)]; show ¬ TWO (s.2.2.1 32 1).toInt x1 x2; rw [← e_32_1]; (first | have a0 := in_u ro_32_1 | (have a0 := ro_32_1; unfold In at a0)); (first | have a1 := in_u ro_2_1 | (have a1 := ro_2_1; unfold In at a1)); (first | have a2 := in_u i1x5 | (have a2 := i1x5; unfold In at a2)); (first | have a3 := in_u i8x2x1 | (have a3 := i8x2x1; unfold In at a3)); have oc := oc_241_0; omega)
            exact (hX _ _ ⟨Or.inl ⟨rfl, n11⟩, s, hI, fr_rf, rfl⟩)
        · skip
          exact zn_ne c8x5 (in_c 0 rfl) rfl
      · skip
        have i8x2x9 := r_lt1 0 31 c8x2x9 i8x2x1 ro_2_1 rfl
        have i8x2x9a := r_lt2 1 32 c8x2x9 i8x2x1 ro_2_1 rfl
        refine g_iconst 1 13 (gd rfl) rfl rfl ?_
        refine g_goto 17 (gd rfl) rfl ?_
        refine g_ireturn (gd rfl) rfl (nb01 (in_w 0 1 (in_c 1 rfl) rfl)) (hp8x2 _ _ ?_)
        show GG _ _ _ _ _ _ _ _ [.int (Int32.ofInt 1)] _ _ _
        refine g_if_eq 8 25 (gd rfl) rfl rfl (fun c8x5 => ?_) (fun c8x5 => ?_)
        · skip
          exact zn_eq c8x5 (in_c 1 rfl) rfl
        · skip
          refine g_aload_n 9 (gd rfl) rfl rfl ?_
          refine g_iload_n 10 (gd rfl) rfl rfl ?_
          refine g_callv (X := _) (As := [.int x2]) (r := []) (b := A 2) (q := 2) 13 (gd rfl) rfl rfl rfl rfl rfl (ww_o rfl) (Nat.le_of_ble_eq_true rfl) (mc := 0) (ms := 0) (Nat.zero_le _) (Nat.zero_le _) (P := fun v u => _) ?_ (fun e u h => h) (fun v u h => h)
          intro po8x10 xx8x10 hp8x10 hx8x10
          refine g_enter2 (k := 94) (N := 300) (by first | exact dq1 hd rfl | exact dq0 hd rfl | exact dq2 hd rfl | exact dq3 hd rfl | omega) rfl (Nat.le_of_ble_eq_true rfl) ?_
          refine g_iload_n 1 (gd rfl) rfl rfl ?_
          refine g_if_lt 4 16 (gd rfl) rfl rfl (fun c8x10x1 => ?_) (fun c8x10x1 => ?_)
          · skip
            have i8x10x1 := z_lt (-2147483648) (-1) c8x10x1 (i_rng x2) rfl
            refine g_iconst 0 17 (gd rfl) rfl rfl ?_
            refine g_ireturn (gd rfl) rfl (nb01 (in_w 0 1 (in_c 0 rfl) rfl)) (hp8x10 _ _ ?_)
            show GG _ _ _ _ _ _ _ _ [.int (Int32.ofInt 0)] _ _ _
            refine g_if_eq 16 25 (gd rfl) rfl rfl (fun c8x13 => ?_) (fun c8x13 => ?_)
            · skip
              refine g_iconst 0 26 (gd rfl) rfl rfl ?_
              refine g_ireturn (gd rfl) rfl (nb01 (in_w 0 1 (in_c 0 rfl) rfl)) (hp8 _ _ ?_)
              show GG _ _ _ _ _ _ _ _ [.int (Int32.ofInt 0)] _ _ _
              refine g_thr (E := am_IA) (y := yX11_allow) 14 (gd rfl) rfl rfl (Or.inl ⟨rfl, rfl, rfl⟩) (by first | exact dq1 hd rfl | exact dq0 hd rfl | exact dq2 hd rfl | exact dq3 hd rfl | omega) (Nat.le_of_ble_eq_true rfl) (Nat.le_of_ble_eq_true rfl) (Nat.le_of_ble_eq_true rfl) (fun c11 => ?_) (fun c11 => ?_)
              · skip
                exact zn_ne c11 (in_c 0 rfl) rfl
              · skip
                have n11 : ¬ (TWO (shC s).2.2.2.2.2.2.1 x1 x2) := by first | (rw [shC_n (by rw [← e1x1]; exact c1x5)]; show ¬ TWO (s.2.2.1 2 1).toInt x1 x2; rw [← e_2_1]; (first | have a0 := in_u i8x2x9 | (have a0 := i8x2x9; unfold In at a0)); (first | have a1 := in_u ro_32_1 | (have a1 := ro_32_1; unfold In at a1)); (first | have a2 := in_u i8x2x9a | (have a2 := i8x2x9a; unfold In at a2)); (first | have a3 := in_u i1x5 | (have a3 := i1x5; unfold In at a3)); (first | have a4 := in_u i8x10x1 | (have a4 := i8x10x1; unfold In at a4)); have oc := oc_241_0; omega) | (rw [shC_d (by rw [← e1x1]; exact c1x5)]; show ¬ TWO (s.2.2.1 32 1).toInt x1 x2; rw [← e_32_1]; (first | have a0 := in_u i8x2x9 | (have a0 := i8x2x9; unfold In at a0)); (first | have a1 := in_u ro_32_1 | (have a1 := ro_32_1; unfold In at a1)); (first | have a2 := in_u i8x2x9a | (have a2 := i8x2x9a; unfold In at a2)); (first | have a3 := in_u i1x5 | (have a3 := i1x5; unfold In at a3)); (first | have a4 := in_u i8x10x1 | (have a4 := i8x10x1; unfold In at a4)); have oc := oc_241_0; omega)
                exact (hX _ _ ⟨Or.inl ⟨rfl, n11⟩, s, hI, fr_rf, rfl⟩)
            · skip
              exact zn_ne c8x13 (in_c 0 rfl) rfl
          · skip
            have i8x10x1 := z_ge 0 2147483647 c8x10x1 (i_rng x2) rfl
            refine g_iload_n 5 (gd rfl) rfl rfl ?_
            refine g_aload_n 6 (gd rfl) rfl rfl ?_
            refine g_getI 9 (gd rfl) rfl rfl rfl (fun z8x10x6 e8x10x6 => ?_)
            have q8x10x6 : u_2_1 = z8x10x6 := (e_2_1).trans e8x10x6.symm
            subst q8x10x6
            refine g_cmp_ge 12 16 (gd rfl) rfl rfl (fun c8x10x9 => ?_) (fun c8x10x9 => ?_)
            · skip
              have i8x10x9 := r_le2 1 2147483647 c8x10x9 i8x2x9a i8x10x1 rfl
              refine g_iconst 0 17 (gd rfl) rfl rfl ?_
              refine g_ireturn (gd rfl) rfl (nb01 (in_w 0 1 (in_c 0 rfl) rfl)) (hp8x10 _ _ ?_)
              show GG _ _ _ _ _ _ _ _ [.int (Int32.ofInt 0)] _ _ _
              refine g_if_eq 16 25 (gd rfl) rfl rfl (fun c8x13 => ?_) (fun c8x13 => ?_)
              · skip
                refine g_iconst 0 26 (gd rfl) rfl rfl ?_
                refine g_ireturn (gd rfl) rfl (nb01 (in_w 0 1 (in_c 0 rfl) rfl)) (hp8 _ _ ?_)
                show GG _ _ _ _ _ _ _ _ [.int (Int32.ofInt 0)] _ _ _
                refine g_thr (E := am_IA) (y := yX11_allow) 14 (gd rfl) rfl rfl (Or.inl ⟨rfl, rfl, rfl⟩) (by first | exact dq1 hd rfl | exact dq0 hd rfl | exact dq2 hd rfl | exact dq3 hd rfl | omega) (Nat.le_of_ble_eq_true rfl) (Nat.le_of_ble_eq_true rfl) (Nat.le_of_ble_eq_true rfl) (fun c11 => ?_) (fun c11 => ?_)
                · skip
                  exact zn_ne c11 (in_c 0 rfl) rfl
                · skip
                  have n11 : ¬ (TWO (shC s).2.2.2.2.2.2.1 x1 x2) := by first | (rw [shC_n (by rw [← e1x1]; exact c1x5)]; show ¬ TWO (s.2.2.1 2 1).toInt x1 x2; rw [← e_2_1]; (first | have a0 := in_u i8x2x9 | (have a0 := i8x2x9; unfold In at a0)); (first | have a1 := in_u ro_32_1 | (have a1 := ro_32_1; unfold In at a1)); (first | have a2 := in_u i8x2x9a | (have a2 := i8x2x9a; unfold In at a2)); (first | have a3 := in_u i1x5 | (have a3 := i1x5; unfold In at a3)); (first | have a4 := in_u i8x10x9 | (have a4 := i8x10x9; unfold In at a4)); have oc := oc_241_0; omega) | (rw [shC_d (by rw [← e1x1]; exact c1x5)]; show ¬ TWO (s.2.2.1 32 1).toInt x1 x2; rw [← e_32_1]; (first | have a0 := in_u i8x2x9 | (have a0 := i8x2x9; unfold In at a0)); (first | have a1 := in_u ro_32_1 | (have a1 := ro_32_1; unfold In at a1)); (first | have a2 := in_u i8x2x9a | (have a2 := i8x2x9a; unfold In at a2)); (first | have a3 := in_u i1x5 | (have a3 := i1x5; unfold In at a3)); (first | have a4 := in_u i8x10x9 | (have a4 := i8x10x9; unfold In at a4)); have oc := oc_241_0; omega)
                  exact (hX _ _ ⟨Or.inl ⟨rfl, n11⟩, s, hI, fr_rf, rfl⟩)
              · skip
                exact zn_ne c8x13 (in_c 0 rfl) rfl
            · skip
              have i8x10x9 := r_lt1 0 31 c8x10x9 i8x10x1 i8x2x9a rfl
              refine g_iconst 1 13 (gd rfl) rfl rfl ?_
              refine g_goto 17 (gd rfl) rfl ?_
              refine g_ireturn (gd rfl) rfl (nb01 (in_w 0 1 (in_c 1 rfl) rfl)) (hp8x10 _ _ ?_)
              show GG _ _ _ _ _ _ _ _ [.int (Int32.ofInt 1)] _ _ _
              refine g_if_eq 16 25 (gd rfl) rfl rfl (fun c8x13 => ?_) (fun c8x13 => ?_)
              · skip
                exact zn_eq c8x13 (in_c 1 rfl) rfl
              · skip
                refine g_iload_n 17 (gd rfl) rfl rfl ?_
                refine g_iload_n 18 (gd rfl) rfl rfl ?_
                refine g_cmp_eq 21 25 (gd rfl) rfl rfl (fun c8x18 => ?_) (fun c8x18 => ?_)
                · skip
                  refine g_iconst 0 26 (gd rfl) rfl rfl ?_
                  refine g_ireturn (gd rfl) rfl (nb01 (in_w 0 1 (in_c 0 rfl) rfl)) (hp8 _ _ ?_)
                  show GG _ _ _ _ _ _ _ _ [.int (Int32.ofInt 0)] _ _ _
                  refine g_thr (E := am_IA) (y := yX11_allow) 14 (gd rfl) rfl rfl (Or.inl ⟨rfl, rfl, rfl⟩) (by first | exact dq1 hd rfl | exact dq0 hd rfl | exact dq2 hd rfl | exact dq3 hd rfl | omega) (Nat.le_of_ble_eq_true rfl) (Nat.le_of_ble_eq_true rfl) (Nat.le_of_ble_eq_true rfl) (fun c11 => ?_) (fun c11 => ?_)
                  · skip
                    exact zn_ne c11 (in_c 0 rfl) rfl
                  · skip
                    have n11 : ¬ (TWO (shC s).2.2.2.2.2.2.1 x1 x2) := by first | (rw [shC_n (by rw [← e1x1]; exact c1x5)]; show ¬ TWO (s.2.2.1 2 1).toInt x1 x2; rw [← e_2_1]; (first | have a0 := in_u i8x10x9 | (have a0 := i8x10x9; unfold In at a0)); (first | have a1 := in_u i8x2x9 | (have a1 := i8x2x9; unfold In at a1)); (first | have a2 := in_u ro_32_1 | (have a2 := ro_32_1; unfold In at a2)); (first | have a3 := in_u i8x2x9a | (have a3 := i8x2x9a; unfold In at a3)); (first | have a4 := in_u i1x5 | (have a4 := i1x5; unfold In at a4)); have oc := oc_241_0; omega) | (rw [shC_d (by rw [← e1x1]; exact c1x5)]; show ¬ TWO (s.2.2.1 32 1).toInt x1 x2; rw [← e_32_1]; (first | have a0 := in_u i8x10x9 | (have a0 := i8x10x9; unfold In at a0)); (first | have a1 := in_u i8x2x9 | (have a1 := i8x2x9; unfold In at a1)); (first | have a2 := in_u ro_32_1 | (have a2 := ro_32_1; unfold In at a2)); (first | have a3 := in_u i8x2x9a | (have a3 := i8x2x9a; unfold In at a3)); (first | have a4 := in_u i1x5 | (have a4 := i1x5; unfold In at a4)); have oc := oc_241_0; omega)
                    exact (hX _ _ ⟨Or.inl ⟨rfl, n11⟩, s, hI, fr_rf, rfl⟩)
                · skip
                  refine g_iconst 1 22 (gd rfl) rfl rfl ?_
                  refine g_goto 26 (gd rfl) rfl ?_
                  refine g_ireturn (gd rfl) rfl (nb01 (in_w 0 1 (in_c 1 rfl) rfl)) (hp8 _ _ ?_)
                  show GG _ _ _ _ _ _ _ _ [.int (Int32.ofInt 1)] _ _ _
                  refine g_thr (E := am_IA) (y := yX11_allow) 14 (gd rfl) rfl rfl (Or.inl ⟨rfl, rfl, rfl⟩) (by first | exact dq1 hd rfl | exact dq0 hd rfl | exact dq2 hd rfl | exact dq3 hd rfl | omega) (Nat.le_of_ble_eq_true rfl) (Nat.le_of_ble_eq_true rfl) (Nat.le_of_ble_eq_true rfl) (fun c11 => ?_) (fun c11 => ?_)
                  · skip
                    refine g_aload_n 15 (gd rfl) rfl rfl ?_
                    refine g_getA (q2 := 65) 18 (gd rfl) rfl rfl rfl rfl ?_
                    refine g_aload_n 19 (gd rfl) rfl rfl ?_
                    refine g_iload_n 20 (gd rfl) rfl rfl ?_
                    refine g_iload_n 21 (gd rfl) rfl rfl ?_
                    have p21 : TQ s := by first | exact q_0 | exact q_1
                    have p21a : FLB (gvC s) s := by first | (rw [← shC_n (by rw [← e1x1]; exact c1x5)]; exact q_2) | (rw [← shC_d (by rw [← e1x1]; exact c1x5)]; exact q_2)
                    have p21b : (x1).toInt ≠ (x2).toInt := by (first | have a0 := in_u i8x10x9 | (have a0 := i8x10x9; unfold In at a0)); (first | have a1 := in_u i8x2x9 | (have a1 := i8x2x9; unfold In at a1)); (first | have a2 := in_u ro_32_1 | (have a2 := ro_32_1; unfold In at a2)); (first | have a3 := in_u i8x2x9a | (have a3 := i8x2x9a; unfold In at a3)); (first | have a4 := in_u i1x5 | (have a4 := i1x5; unfold In at a4)); have oc := oc_241_0; omega
                    refine g_callv (X := _) (As := [.ref (A 2), .int x1, .int x2]) (r := []) (b := A 65) (q := 65) 24 (gd rfl) rfl rfl rfl rfl rfl (ww_o rfl) (Nat.le_of_ble_eq_true rfl) (Nat.zero_le _) (Nat.zero_le _) (f_75_65_2 (by first | exact dq1 hd rfl | exact dq0 hd rfl | exact dq2 hd rfl | exact dq3 hd rfl | omega) hI (in_w 0 31 i8x2x9 rfl) (in_w 0 31 i8x10x9 rfl) p21 p21a p21b) (fun e u h => h) (fun v u h => ?_)
                    obtain ⟨s21, hI21, hF21, z21, rfl, rfl, p21c, p21d⟩ := h
                    show GG _ _ _ _ _ _ _ _ [.long z21] _ _ _
                    have n24 : (TWO (shC s).2.2.2.2.2.2.1 x1 x2) ∧ FLV (shC s) x1.toNatClampNeg x2.toNatClampNeg (z21).toInt := by first | (rw [shC_n (by rw [← e1x1]; exact c1x5)]; exact ⟨⟨⟨by (first | have a0 := in_u i8x10x9 | (have a0 := i8x10x9; unfold In at a0)); (first | have a1 := in_u i8x2x9 | (have a1 := i8x2x9; unfold In at a1)); (first | have a2 := in_u ro_32_1 | (have a2 := ro_32_1; unfold In at a2)); (first | have a3 := in_u i8x2x9a | (have a3 := i8x2x9a; unfold In at a3)); (first | have a4 := in_u i1x5 | (have a4 := i1x5; unfold In at a4)); have oc := oc_241_0; omega, by show x1.toInt < (s.2.2.1 2 1).toInt; rw [← e_2_1]; (first | have a0 := in_u i8x10x9 | (have a0 := i8x10x9; unfold In at a0)); (first | have a1 := in_u i8x2x9 | (have a1 := i8x2x9; unfold In at a1)); (first | have a2 := in_u ro_32_1 | (have a2 := ro_32_1; unfold In at a2)); (first | have a3 := in_u i8x2x9a | (have a3 := i8x2x9a; unfold In at a3)); (first | have a4 := in_u i1x5 | (have a4 := i1x5; unfold In at a4)); have oc := oc_241_0; omega⟩, ⟨by (first | have a0 := in_u i8x10x9 | (have a0 := i8x10x9; unfold In at a0)); (first | have a1 := in_u i8x2x9 | (have a1 := i8x2x9; unfold In at a1)); (first | have a2 := in_u ro_32_1 | (have a2 := ro_32_1; unfold In at a2)); (first | have a3 := in_u i8x2x9a | (have a3 := i8x2x9a; unfold In at a3)); (first | have a4 := in_u i1x5 | (have a4 := i1x5; unfold In at a4)); have oc := oc_241_0; omega, by show x2.toInt < (s.2.2.1 2 1).toInt; rw [← e_2_1]; (first | have a0 := in_u i8x10x9 | (have a0 := i8x10x9; unfold In at a0)); (first | have a1 := in_u i8x2x9 | (have a1 := i8x2x9; unfold In at a1)); (first | have a2 := in_u ro_32_1 | (have a2 := ro_32_1; unfold In at a2)); (first | have a3 := in_u i8x2x9a | (have a3 := i8x2x9a; unfold In at a3)); (first | have a4 := in_u i1x5 | (have a4 := i1x5; unfold In at a4)); have oc := oc_241_0; omega⟩, by (first | have a0 := in_u i8x10x9 | (have a0 := i8x10x9; unfold In at a0)); (first | have a1 := in_u i8x2x9 | (have a1 := i8x2x9; unfold In at a1)); (first | have a2 := in_u ro_32_1 | (have a2 := ro_32_1; unfold In at a2)); (first | have a3 := in_u i8x2x9a | (have a3 := i8x2x9a; unfold In at a3)); (first | have a4 := in_u i1x5 | (have a4 := i1x5; unfold In at a4)); have oc := oc_241_0; omega⟩, flv_of p21c p21d⟩) | (rw [shC_d (by rw [← e1x1]; exact c1x5)]; exact ⟨⟨⟨by (first | have a0 := in_u i8x10x9 | (have a0 := i8x10x9; unfold In at a0)); (first | have a1 := in_u i8x2x9 | (have a1 := i8x2x9; unfold In at a1)); (first | have a2 := in_u ro_32_1 | (have a2 := ro_32_1; unfold In at a2)); (first | have a3 := in_u i8x2x9a | (have a3 := i8x2x9a; unfold In at a3)); (first | have a4 := in_u i1x5 | (have a4 := i1x5; unfold In at a4)); have oc := oc_241_0; omega, by show x1.toInt < (s.2.2.1 32 1).toInt; rw [← e_32_1]; (first | have a0 := in_u i8x10x9 | (have a0 := i8x10x9; unfold In at a0)); (first | have a1 := in_u i8x2x9 | (have a1 := i8x2x9; unfold In at a1)); (first | have a2 := in_u ro_32_1 | (have a2 := ro_32_1; unfold In at a2)); (first | have a3 := in_u i8x2x9a | (have a3 := i8x2x9a; unfold In at a3)); (first | have a4 := in_u i1x5 | (have a4 := i1x5; unfold In at a4)); have oc := oc_241_0; omega⟩, ⟨by (first | have a0 := in_u i8x10x9 | (have a0 := i8x10x9; unfold In at a0)); (first | have a1 := in_u i8x2x9 | (have a1 := i8x2x9; unfold In at a1)); (first | have a2 := in_u ro_32_1 | (have a2 := ro_32_1; unfold In at a2)); (first | have a3 := in_u i8x2x9a | (have a3 := i8x2x9a; unfold In at a3)); (first | have a4 := in_u i1x5 | (have a4 := i1x5; unfold In at a4)); have oc := oc_241_0; omega, by show x2.toInt < (s.2.2.1 32 1).toInt; rw [← e_32_1]; (first | have a0 := in_u i8x10x9 | (have a0 := i8x10x9; unfold In at a0)); (first | have a1 := in_u i8x2x9 | (have a1 := i8x2x9; unfold In at a1)); (first | have a2 := in_u ro_32_1 | (have a2 := ro_32_1; unfold In at a2)); (first | have a3 := in_u i8x2x9a | (have a3 := i8x2x9a; unfold In at a3)); (first | have a4 := in_u i1x5 | (have a4 := i1x5; unfold In at a4)); have oc := oc_241_0; omega⟩, by (first | have a0 := in_u i8x10x9 | (have a0 := i8x10x9; unfold In at a0)); (first | have a1 := in_u i8x2x9 | (have a1 := i8x2x9; unfold In at a1)); (first | have a2 := in_u ro_32_1 | (have a2 := ro_32_1; unfold In at a2)); (first | have a3 := in_u i8x2x9a | (have a3 := i8x2x9a; unfold In at a3)); (first | have a4 := in_u i1x5 | (have a4 := i1x5; unfold In at a4)); have oc := oc_241_0; omega⟩, flv_of p21c p21d⟩)
                    have n24a : FLQ (shC s) s21 := by first | (rw [shC_n (by rw [← e1x1]; exact c1x5)]; exact p21c.1) | (rw [shC_d (by rw [← e1x1]; exact c1x5)]; exact p21c.1)
                    exact g_lreturn (gd rfl) rfl (hP _ _ ⟨s21, hI21, (fr_tr rfl fr_rf hF21), z21, rfl, rfl, n24, n24a⟩)
                  · skip
                    exact zn_eq c11 (in_c 1 rfl) rfl

theorem oc_242_0 : (Int32.ofInt (-1)).toInt = (-1) ∧ (Int32.ofInt 0).toInt = 0 ∧ (Int32.ofInt 1).toInt = 1 := ⟨rfl, rfl, rfl⟩
/-- GraphHouse.side -/
theorem f_242_0 {Z : AmZ} {A : Nat → Nat} {s : GS} {ex : va_W} {d : Nat} {x1 : Int32} {x2 : Int32} {x3 : Int32} (hd : 7 ≤ d) (hI : Inv s) (q_0 : TQ s) (q_1 : TQD s) (q_2 : FLC s) : GC Z d 242 [.ref (A 0), .int x1, .int x2, .int x3] (WW Z A s ++ ex) 3 18 (fun v u => ∃ t : GS, Inv t ∧ Fr fm_242_0 s t ∧ ∃ z : Int32, v = some (.int z) ∧ u = WW Z A t ++ ex ∧ In z 0 1 ∧ (((TWO (shC s).2.2.2.2.2.2.1 x1 x2) ∧ 0 ≤ x3.toInt ∧ x3.toInt < (shC s).2.2.2.2.2.2.1) ∧ SDV (shC s) x1.toNatClampNeg x2.toNatClampNeg x3.toNatClampNeg (z).toInt) ∧ (FLQ (shC s) t)) (gEx Z A ex ([], [], [], []) s (¬ ((TWO (shC s).2.2.2.2.2.2.1 x1 x2) ∧ 0 ≤ x3.toInt ∧ x3.toInt < (shC s).2.2.2.2.2.2.1)) (False)) := by
  intro post xp hP hX
  obtain ⟨u_0_2, e_0_2⟩ : ∃ w, w = s.2.2.1 0 2 := ⟨_, rfl⟩
  have ro_0_2 := inv_F hI (-1) 4000 rfl e_0_2
  obtain ⟨u_2_1, e_2_1⟩ : ∃ w, w = s.2.2.1 2 1 := ⟨_, rfl⟩
  have ro_2_1 := inv_F hI 0 32 rfl e_2_1
  obtain ⟨u_32_1, e_32_1⟩ : ∃ w, w = s.2.2.1 32 1 := ⟨_, rfl⟩
  have ro_32_1 := inv_F hI 0 32 rfl e_32_1
  refine g_enter2 (k := 242) (N := 900) (by first | exact dq1 hd rfl | exact dq0 hd rfl | exact dq2 hd rfl | exact dq3 hd rfl | omega) rfl (Nat.le_of_ble_eq_true rfl) ?_
  refine g_aload_n 1 (gd rfl) rfl rfl ?_
  refine g_callv (X := _) (As := []) (r := []) (b := A 0) (q := 0) 4 (gd rfl) rfl rfl rfl rfl rfl (ww_o rfl) (Nat.le_of_ble_eq_true rfl) (mc := 0) (ms := 0) (Nat.zero_le _) (Nat.zero_le _) (P := fun v u => _) ?_ (fun e u h => h) (fun v u h => h)
  intro po1 xx1 hp1 hx1
  refine g_enter2 (k := 259) (N := 300) (by first | exact dq1 hd rfl | exact dq0 hd rfl | exact dq2 hd rfl | exact dq3 hd rfl | omega) rfl (Nat.le_of_ble_eq_true rfl) ?_
  refine g_aload_n 1 (gd rfl) rfl rfl ?_
  refine g_getI 4 (gd rfl) rfl rfl rfl (fun z1x1 e1x1 => ?_)
  have q1x1 : u_0_2 = z1x1 := (e_0_2).trans e1x1.symm
  subst q1x1
  refine g_iconst (-1) 5 (gd rfl) rfl rfl ?_
  refine g_cmp_ne 8 18 (gd rfl) rfl rfl (fun c1x5 => ?_) (fun c1x5 => ?_)
  · skip
    have i1x5 := r_ne1 0 4000 c1x5 ro_0_2 (in_c (-1) rfl) rfl
    refine g_aload_n 19 (gd rfl) rfl rfl ?_
    refine g_getA (q2 := 32) 22 (gd rfl) rfl rfl rfl rfl ?_
    refine g_areturn (gd rfl) rfl (hp1 _ _ ?_)
    show GG _ _ _ _ _ _ _ _ [.ref (A 32)] _ _ _
    refine g_astore 6 (gd rfl) rfl (Nat.le_of_ble_eq_true rfl) ?_
    refine g_aload 8 (gd rfl) rfl rfl ?_
    refine g_iload_n 9 (gd rfl) rfl rfl ?_
    refine g_iload_n 10 (gd rfl) rfl rfl ?_
    refine g_callv (X := _) (As := [.int x1, .int x2]) (r := []) (b := A 32) (q := 32) 13 (gd rfl) rfl rfl rfl rfl rfl (ww_o rfl) (Nat.le_of_ble_eq_true rfl) (mc := 0) (ms := 0) (Nat.zero_le _) (Nat.zero_le _) (P := fun v u => _) ?_ (fun e u h => h) (fun v u h => h)
    intro po10 xx10 hp10 hx10
    refine g_enter2 (k := 95) (N := 300) (by first | exact dq1 hd rfl | exact dq0 hd rfl | exact dq2 hd rfl | exact dq3 hd rfl | omega) rfl (Nat.le_of_ble_eq_true rfl) ?_
    refine g_aload_n 1 (gd rfl) rfl rfl ?_
    refine g_iload_n 2 (gd rfl) rfl rfl ?_
    refine g_callv (X := _) (As := [.int x1]) (r := []) (b := A 32) (q := 32) 5 (gd rfl) rfl rfl rfl rfl rfl (ww_o rfl) (Nat.le_of_ble_eq_true rfl) (mc := 0) (ms := 0) (Nat.zero_le _) (Nat.zero_le _) (P := fun v u => _) ?_ (fun e u h => h) (fun v u h => h)
    intro po10x2 xx10x2 hp10x2 hx10x2
    refine g_enter2 (k := 94) (N := 300) (by first | exact dq1 hd rfl | exact dq0 hd rfl | exact dq2 hd rfl | exact dq3 hd rfl | omega) rfl (Nat.le_of_ble_eq_true rfl) ?_
    refine g_iload_n 1 (gd rfl) rfl rfl ?_
    refine g_if_lt 4 16 (gd rfl) rfl rfl (fun c10x2x1 => ?_) (fun c10x2x1 => ?_)
    · skip
      have i10x2x1 := z_lt (-2147483648) (-1) c10x2x1 (i_rng x1) rfl
      refine g_iconst 0 17 (gd rfl) rfl rfl ?_
      refine g_ireturn (gd rfl) rfl (nb01 (in_w 0 1 (in_c 0 rfl) rfl)) (hp10x2 _ _ ?_)
      show GG _ _ _ _ _ _ _ _ [.int (Int32.ofInt 0)] _ _ _
      refine g_if_eq 8 25 (gd rfl) rfl rfl (fun c10x5 => ?_) (fun c10x5 => ?_)
      · skip
        refine g_iconst 0 26 (gd rfl) rfl rfl ?_
        refine g_ireturn (gd rfl) rfl (nb01 (in_w 0 1 (in_c 0 rfl) rfl)) (hp10 _ _ ?_)
        show GG _ _ _ _ _ _ _ _ [.int (Int32.ofInt 0)] _ _ _
        refine g_if_eq 16 29 (gd rfl) rfl rfl (fun c13 => ?_) (fun c13 => ?_)
        · skip
          refine g_iconst 0 30 (gd rfl) rfl rfl ?_
          refine g_thr (E := am_IA) (y := yX11_allow) 33 (gd rfl) rfl rfl (Or.inl ⟨rfl, rfl, rfl⟩) (by first | exact dq1 hd rfl | exact dq0 hd rfl | exact dq2 hd rfl | exact dq3 hd rfl | omega) (Nat.le_of_ble_eq_true rfl) (Nat.le_of_ble_eq_true rfl) (Nat.le_of_ble_eq_true rfl) (fun c30 => ?_) (fun c30 => ?_)
          · skip
            exact zn_ne c30 (in_c 0 rfl) rfl
          · skip
            have n30 : ¬ ((TWO (shC s).2.2.2.2.2.2.1 x1 x2) ∧ 0 ≤ x3.toInt ∧ x3.toInt < (shC s).2.2.2.2.2.2.1) := by first | (rw [shC_n (by rw [← e1x1]; exact c1x5)]; show ¬ (TWO (s.2.2.1 2 1).toInt x1 x2 ∧ 0 ≤ x3.toInt ∧ x3.toInt < (s.2.2.1 2 1).toInt); rw [← e_2_1]; (first | have a0 := in_u ro_32_1 | (have a0 := ro_32_1; unfold In at a0)); (first | have a1 := in_u ro_2_1 | (have a1 := ro_2_1; unfold In at a1)); (first | have a2 := in_u i1x5 | (have a2 := i1x5; unfold In at a2)); (first | have a3 := in_u i10x2x1 | (have a3 := i10x2x1; unfold In at a3)); have oc := oc_242_0; omega) | (rw [shC_d (by rw [← e1x1]; exact c1x5)]; show ¬ (TWO (s.2.2.1 32 1).toInt x1 x2 ∧ 0 ≤ x3.toInt ∧ x3.toInt < (s.2.2.1 32 1).toInt); rw [← e_32_1]; (first | have a0 := in_u ro_32_1 | (have a0 := ro_32_1; unfold In at a0)); (first | have a1 := in_u ro_2_1 | (have a1 := ro_2_1; unfold In at a1)); (first | have a2 := in_u i1x5 | (have a2 := i1x5; unfold In at a2)); (first | have a3 := in_u i10x2x1 | (have a3 := i10x2x1; unfold In at a3)); have oc := oc_242_0; omega)
            exact (hX _ _ ⟨Or.inl ⟨rfl, n30⟩, s, hI, fr_rf, rfl⟩)
        · skip
          exact zn_ne c13 (in_c 0 rfl) rfl
      · skip
        exact zn_ne c10x5 (in_c 0 rfl) rfl
    · skip
      have i10x2x1 := z_ge 0 2147483647 c10x2x1 (i_rng x1) rfl
      refine g_iload_n 5 (gd rfl) rfl rfl ?_
      refine g_aload_n 6 (gd rfl) rfl rfl ?_
      refine g_getI 9 (gd rfl) rfl rfl rfl (fun z10x2x6 e10x2x6 => ?_)
      have q10x2x6 : u_32_1 = z10x2x6 := (e_32_1).trans e10x2x6.symm
      subst q10x2x6
      refine g_cmp_ge 12 16 (gd rfl) rfl rfl (fun c10x2x9 => ?_) (fun c10x2x9 => ?_)
      · skip
        refine g_iconst 0 17 (gd rfl) rfl rfl ?_
        refine g_ireturn (gd rfl) rfl (nb01 (in_w 0 1 (in_c 0 rfl) rfl)) (hp10x2 _ _ ?_)
        show GG _ _ _ _ _ _ _ _ [.int (Int32.ofInt 0)] _ _ _
        refine g_if_eq 8 25 (gd rfl) rfl rfl (fun c10x5 => ?_) (fun c10x5 => ?_)
        · skip
          refine g_iconst 0 26 (gd rfl) rfl rfl ?_
          refine g_ireturn (gd rfl) rfl (nb01 (in_w 0 1 (in_c 0 rfl) rfl)) (hp10 _ _ ?_)
          show GG _ _ _ _ _ _ _ _ [.int (Int32.ofInt 0)] _ _ _
          refine g_if_eq 16 29 (gd rfl) rfl rfl (fun c13 => ?_) (fun c13 => ?_)
          · skip
            refine g_iconst 0 30 (gd rfl) rfl rfl ?_
            refine g_thr (E := am_IA) (y := yX11_allow) 33 (gd rfl) rfl rfl (Or.inl ⟨rfl, rfl, rfl⟩) (by first | exact dq1 hd rfl | exact dq0 hd rfl | exact dq2 hd rfl | exact dq3 hd rfl | omega) (Nat.le_of_ble_eq_true rfl) (Nat.le_of_ble_eq_true rfl) (Nat.le_of_ble_eq_true rfl) (fun c30 => ?_) (fun c30 => ?_)
            · skip
              exact zn_ne c30 (in_c 0 rfl) rfl
            · skip
              have n30 : ¬ ((TWO (shC s).2.2.2.2.2.2.1 x1 x2) ∧ 0 ≤ x3.toInt ∧ x3.toInt < (shC s).2.2.2.2.2.2.1) := by first | (rw [shC_n (by rw [← e1x1]; exact c1x5)]; show ¬ (TWO (s.2.2.1 2 1).toInt x1 x2 ∧ 0 ≤ x3.toInt ∧ x3.toInt < (s.2.2.1 2 1).toInt); rw [← e_2_1]; (first | have a0 := in_u ro_32_1 | (have a0 := ro_32_1; unfold In at a0)); (first | have a1 := in_u ro_2_1 | (have a1 := ro_2_1; unfold In at a1)); (first | have a2 := in_u i1x5 | (have a2 := i1x5; unfold In at a2)); (first | have a3 := in_u i10x2x1 | (have a3 := i10x2x1; unfold In at a3)); have oc := oc_242_0; omega) | (rw [shC_d (by rw [← e1x1]; exact c1x5)]; show ¬ (TWO (s.2.2.1 32 1).toInt x1 x2 ∧ 0 ≤ x3.toInt ∧ x3.toInt < (s.2.2.1 32 1).toInt); rw [← e_32_1]; (first | have a0 := in_u ro_32_1 | (have a0 := ro_32_1; unfold In at a0)); (first | have a1 := in_u ro_2_1 | (have a1 := ro_2_1; unfold In at a1)); (first | have a2 := in_u i1x5 | (have a2 := i1x5; unfold In at a2)); (first | have a3 := in_u i10x2x1 | (have a3 := i10x2x1; unfold In at a3)); have oc := oc_242_0; omega)
              exact (hX _ _ ⟨Or.inl ⟨rfl, n30⟩, s, hI, fr_rf, rfl⟩)
          · skip
            exact zn_ne c13 (in_c 0 rfl) rfl
        · skip
          exact zn_ne c10x5 (in_c 0 rfl) rfl
      · skip
        have i10x2x9 := r_lt1 0 31 c10x2x9 i10x2x1 ro_32_1 rfl
        have i10x2x9a := r_lt2 1 32 c10x2x9 i10x2x1 ro_32_1 rfl
        refine g_iconst 1 13 (gd rfl) rfl rfl ?_
        refine g_goto 17 (gd rfl) rfl ?_
        refine g_ireturn (gd rfl) rfl (nb01 (in_w 0 1 (in_c 1 rfl) rfl)) (hp10x2 _ _ ?_)
        show GG _ _ _ _ _ _ _ _ [.int (Int32.ofInt 1)] _ _ _
        refine g_if_eq 8 25 (gd rfl) rfl rfl (fun c10x5 => ?_) (fun c10x5 => ?_)
        · skip
          exact zn_eq c10x5 (in_c 1 rfl) rfl
        · skip
          refine g_aload_n 9 (gd rfl) rfl rfl ?_
          refine g_iload_n 10 (gd rfl) rfl rfl ?_
          refine g_callv (X := _) (As := [.int x2]) (r := []) (b := A 32) (q := 32) 13 (gd rfl) rfl rfl rfl rfl rfl (ww_o rfl) (Nat.le_of_ble_eq_true rfl) (mc := 0) (ms := 0) (Nat.zero_le _) (Nat.zero_le _) (P := fun v u => _) ?_ (fun e u h => h) (fun v u h => h)
          intro po10x10 xx10x10 hp10x10 hx10x10
          refine g_enter2 (k := 94) (N := 300) (by first | exact dq1 hd rfl | exact dq0 hd rfl | exact dq2 hd rfl | exact dq3 hd rfl | omega) rfl (Nat.le_of_ble_eq_true rfl) ?_
          refine g_iload_n 1 (gd rfl) rfl rfl ?_
          refine g_if_lt 4 16 (gd rfl) rfl rfl (fun c10x10x1 => ?_) (fun c10x10x1 => ?_)
          · skip
            have i10x10x1 := z_lt (-2147483648) (-1) c10x10x1 (i_rng x2) rfl
            refine g_iconst 0 17 (gd rfl) rfl rfl ?_
            refine g_ireturn (gd rfl) rfl (nb01 (in_w 0 1 (in_c 0 rfl) rfl)) (hp10x10 _ _ ?_)
            show GG _ _ _ _ _ _ _ _ [.int (Int32.ofInt 0)] _ _ _
            refine g_if_eq 16 25 (gd rfl) rfl rfl (fun c10x13 => ?_) (fun c10x13 => ?_)
            · skip
              refine g_iconst 0 26 (gd rfl) rfl rfl ?_
              refine g_ireturn (gd rfl) rfl (nb01 (in_w 0 1 (in_c 0 rfl) rfl)) (hp10 _ _ ?_)
              show GG _ _ _ _ _ _ _ _ [.int (Int32.ofInt 0)] _ _ _
              refine g_if_eq 16 29 (gd rfl) rfl rfl (fun c13 => ?_) (fun c13 => ?_)
              · skip
                refine g_iconst 0 30 (gd rfl) rfl rfl ?_
                refine g_thr (E := am_IA) (y := yX11_allow) 33 (gd rfl) rfl rfl (Or.inl ⟨rfl, rfl, rfl⟩) (by first | exact dq1 hd rfl | exact dq0 hd rfl | exact dq2 hd rfl | exact dq3 hd rfl | omega) (Nat.le_of_ble_eq_true rfl) (Nat.le_of_ble_eq_true rfl) (Nat.le_of_ble_eq_true rfl) (fun c30 => ?_) (fun c30 => ?_)
                · skip
                  exact zn_ne c30 (in_c 0 rfl) rfl
                · skip
                  have n30 : ¬ ((TWO (shC s).2.2.2.2.2.2.1 x1 x2) ∧ 0 ≤ x3.toInt ∧ x3.toInt < (shC s).2.2.2.2.2.2.1) := by first | (rw [shC_n (by rw [← e1x1]; exact c1x5)]; show ¬ (TWO (s.2.2.1 2 1).toInt x1 x2 ∧ 0 ≤ x3.toInt ∧ x3.toInt < (s.2.2.1 2 1).toInt); rw [← e_2_1]; (first | have a0 := in_u i10x2x9 | (have a0 := i10x2x9; unfold In at a0)); (first | have a1 := in_u i10x2x9a | (have a1 := i10x2x9a; unfold In at a1)); (first | have a2 := in_u ro_2_1 | (have a2 := ro_2_1; unfold In at a2)); (first | have a3 := in_u i1x5 | (have a3 := i1x5; unfold In at a3)); (first | have a4 := in_u i10x10x1 | (have a4 := i10x10x1; unfold In at a4)); have oc := oc_242_0; omega) | (rw [shC_d (by rw [← e1x1]; exact c1x5)]; show ¬ (TWO (s.2.2.1 32 1).toInt x1 x2 ∧ 0 ≤ x3.toInt ∧ x3.toInt < (s.2.2.1 32 1).toInt); rw [← e_32_1]; (first | have a0 := in_u i10x2x9 | (have a0 := i10x2x9; unfold In at a0)); (first | have a1 := in_u i10x2x9a | (have a1 := i10x2x9a; unfold In at a1)); (first | have a2 := in_u ro_2_1 | (have a2 := ro_2_1; unfold In at a2)); (first | have a3 := in_u i1x5 | (have a3 := i1x5; unfold In at a3)); (first | have a4 := in_u i10x10x1 | (have a4 := i10x10x1; unfold In at a4)); have oc := oc_242_0; omega)
                  exact (hX _ _ ⟨Or.inl ⟨rfl, n30⟩, s, hI, fr_rf, rfl⟩)
              · skip
                exact zn_ne c13 (in_c 0 rfl) rfl
            · skip
              exact zn_ne c10x13 (in_c 0 rfl) rfl
          · skip
            have i10x10x1 := z_ge 0 2147483647 c10x10x1 (i_rng x2) rfl
            refine g_iload_n 5 (gd rfl) rfl rfl ?_
            refine g_aload_n 6 (gd rfl) rfl rfl ?_
            refine g_getI 9 (gd rfl) rfl rfl rfl (fun z10x10x6 e10x10x6 => ?_)
            have q10x10x6 : u_32_1 = z10x10x6 := (e_32_1).trans e10x10x6.symm
            subst q10x10x6
            refine g_cmp_ge 12 16 (gd rfl) rfl rfl (fun c10x10x9 => ?_) (fun c10x10x9 => ?_)
            · skip
              have i10x10x9 := r_le2 1 2147483647 c10x10x9 i10x2x9a i10x10x1 rfl
              refine g_iconst 0 17 (gd rfl) rfl rfl ?_
              refine g_ireturn (gd rfl) rfl (nb01 (in_w 0 1 (in_c 0 rfl) rfl)) (hp10x10 _ _ ?_)
              show GG _ _ _ _ _ _ _ _ [.int (Int32.ofInt 0)] _ _ _
              refine g_if_eq 16 25 (gd rfl) rfl rfl (fun c10x13 => ?_) (fun c10x13 => ?_)
              · skip
                refine g_iconst 0 26 (gd rfl) rfl rfl ?_
                refine g_ireturn (gd rfl) rfl (nb01 (in_w 0 1 (in_c 0 rfl) rfl)) (hp10 _ _ ?_)
                show GG _ _ _ _ _ _ _ _ [.int (Int32.ofInt 0)] _ _ _
                refine g_if_eq 16 29 (gd rfl) rfl rfl (fun c13 => ?_) (fun c13 => ?_)
                · skip
                  refine g_iconst 0 30 (gd rfl) rfl rfl ?_
                  refine g_thr (E := am_IA) (y := yX11_allow) 33 (gd rfl) rfl rfl (Or.inl ⟨rfl, rfl, rfl⟩) (by first | exact dq1 hd rfl | exact dq0 hd rfl | exact dq2 hd rfl | exact dq3 hd rfl | omega) (Nat.le_of_ble_eq_true rfl) (Nat.le_of_ble_eq_true rfl) (Nat.le_of_ble_eq_true rfl) (fun c30 => ?_) (fun c30 => ?_)
                  · skip
                    exact zn_ne c30 (in_c 0 rfl) rfl
                  · skip
                    have n30 : ¬ ((TWO (shC s).2.2.2.2.2.2.1 x1 x2) ∧ 0 ≤ x3.toInt ∧ x3.toInt < (shC s).2.2.2.2.2.2.1) := by first | (rw [shC_n (by rw [← e1x1]; exact c1x5)]; show ¬ (TWO (s.2.2.1 2 1).toInt x1 x2 ∧ 0 ≤ x3.toInt ∧ x3.toInt < (s.2.2.1 2 1).toInt); rw [← e_2_1]; (first | have a0 := in_u i10x2x9 | (have a0 := i10x2x9; unfold In at a0)); (first | have a1 := in_u i10x2x9a | (have a1 := i10x2x9a; unfold In at a1)); (first | have a2 := in_u ro_2_1 | (have a2 := ro_2_1; unfold In at a2)); (first | have a3 := in_u i1x5 | (have a3 := i1x5; unfold In at a3)); (first | have a4 := in_u i10x10x9 | (have a4 := i10x10x9; unfold In at a4)); have oc := oc_242_0; omega) | (rw [shC_d (by rw [← e1x1]; exact c1x5)]; show ¬ (TWO (s.2.2.1 32 1).toInt x1 x2 ∧ 0 ≤ x3.toInt ∧ x3.toInt < (s.2.2.1 32 1).toInt); rw [← e_32_1]; (first | have a0 := in_u i10x2x9 | (have a0 := i10x2x9; unfold In at a0)); (first | have a1 := in_u i10x2x9a | (have a1 := i10x2x9a; unfold In at a1)); (first | have a2 := in_u ro_2_1 | (have a2 := ro_2_1; unfold In at a2)); (first | have a3 := in_u i1x5 | (have a3 := i1x5; unfold In at a3)); (first | have a4 := in_u i10x10x9 | (have a4 := i10x10x9; unfold In at a4)); have oc := oc_242_0; omega)
                    exact (hX _ _ ⟨Or.inl ⟨rfl, n30⟩, s, hI, fr_rf, rfl⟩)
                · skip
                  exact zn_ne c13 (in_c 0 rfl) rfl
              · skip
                exact zn_ne c10x13 (in_c 0 rfl) rfl
            · skip
              have i10x10x9 := r_lt1 0 31 c10x10x9 i10x10x1 i10x2x9a rfl
              refine g_iconst 1 13 (gd rfl) rfl rfl ?_
              refine g_goto 17 (gd rfl) rfl ?_
              refine g_ireturn (gd rfl) rfl (nb01 (in_w 0 1 (in_c 1 rfl) rfl)) (hp10x10 _ _ ?_)
              show GG _ _ _ _ _ _ _ _ [.int (Int32.ofInt 1)] _ _ _
              refine g_if_eq 16 25 (gd rfl) rfl rfl (fun c10x13 => ?_) (fun c10x13 => ?_)
              · skip
                exact zn_eq c10x13 (in_c 1 rfl) rfl
              · skip
                refine g_iload_n 17 (gd rfl) rfl rfl ?_
                refine g_iload_n 18 (gd rfl) rfl rfl ?_
                refine g_cmp_eq 21 25 (gd rfl) rfl rfl (fun c10x18 => ?_) (fun c10x18 => ?_)
                · skip
                  refine g_iconst 0 26 (gd rfl) rfl rfl ?_
                  refine g_ireturn (gd rfl) rfl (nb01 (in_w 0 1 (in_c 0 rfl) rfl)) (hp10 _ _ ?_)
                  show GG _ _ _ _ _ _ _ _ [.int (Int32.ofInt 0)] _ _ _
                  refine g_if_eq 16 29 (gd rfl) rfl rfl (fun c13 => ?_) (fun c13 => ?_)
                  · skip
                    refine g_iconst 0 30 (gd rfl) rfl rfl ?_
                    refine g_thr (E := am_IA) (y := yX11_allow) 33 (gd rfl) rfl rfl (Or.inl ⟨rfl, rfl, rfl⟩) (by first | exact dq1 hd rfl | exact dq0 hd rfl | exact dq2 hd rfl | exact dq3 hd rfl | omega) (Nat.le_of_ble_eq_true rfl) (Nat.le_of_ble_eq_true rfl) (Nat.le_of_ble_eq_true rfl) (fun c30 => ?_) (fun c30 => ?_)
                    · skip
                      exact zn_ne c30 (in_c 0 rfl) rfl
                    · skip
                      have n30 : ¬ ((TWO (shC s).2.2.2.2.2.2.1 x1 x2) ∧ 0 ≤ x3.toInt ∧ x3.toInt < (shC s).2.2.2.2.2.2.1) := by first | (rw [shC_n (by rw [← e1x1]; exact c1x5)]; show ¬ (TWO (s.2.2.1 2 1).toInt x1 x2 ∧ 0 ≤ x3.toInt ∧ x3.toInt < (s.2.2.1 2 1).toInt); rw [← e_2_1]; (first | have a0 := in_u i10x10x9 | (have a0 := i10x10x9; unfold In at a0)); (first | have a1 := in_u i10x2x9 | (have a1 := i10x2x9; unfold In at a1)); (first | have a2 := in_u i10x2x9a | (have a2 := i10x2x9a; unfold In at a2)); (first | have a3 := in_u ro_2_1 | (have a3 := ro_2_1; unfold In at a3)); (first | have a4 := in_u i1x5 | (have a4 := i1x5; unfold In at a4)); have oc := oc_242_0; omega) | (rw [shC_d (by rw [← e1x1]; exact c1x5)]; show ¬ (TWO (s.2.2.1 32 1).toInt x1 x2 ∧ 0 ≤ x3.toInt ∧ x3.toInt < (s.2.2.1 32 1).toInt); rw [← e_32_1]; (first | have a0 := in_u i10x10x9 | (have a0 := i10x10x9; unfold In at a0)); (first | have a1 := in_u i10x2x9 | (have a1 := i10x2x9; unfold In at a1)); (first | have a2 := in_u i10x2x9a | (have a2 := i10x2x9a; unfold In at a2)); (first | have a3 := in_u ro_2_1 | (have a3 := ro_2_1; unfold In at a3)); (first | have a4 := in_u i1x5 | (have a4 := i1x5; unfold In at a4)); have oc := oc_242_0; omega)
                      exact (hX _ _ ⟨Or.inl ⟨rfl, n30⟩, s, hI, fr_rf, rfl⟩)
                  · skip
                    exact zn_ne c13 (in_c 0 rfl) rfl
                · skip
                  refine g_iconst 1 22 (gd rfl) rfl rfl ?_
                  refine g_goto 26 (gd rfl) rfl ?_
                  refine g_ireturn (gd rfl) rfl (nb01 (in_w 0 1 (in_c 1 rfl) rfl)) (hp10 _ _ ?_)
                  show GG _ _ _ _ _ _ _ _ [.int (Int32.ofInt 1)] _ _ _
                  refine g_if_eq 16 29 (gd rfl) rfl rfl (fun c13 => ?_) (fun c13 => ?_)
                  · skip
                    exact zn_eq c13 (in_c 1 rfl) rfl
                  · skip
                    refine g_aload 18 (gd rfl) rfl rfl ?_
                    refine g_iload_n 19 (gd rfl) rfl rfl ?_
                    refine g_callv (X := _) (As := [.int x3]) (r := []) (b := A 32) (q := 32) 22 (gd rfl) rfl rfl rfl rfl rfl (ww_o rfl) (Nat.le_of_ble_eq_true rfl) (mc := 0) (ms := 0) (Nat.zero_le _) (Nat.zero_le _) (P := fun v u => _) ?_ (fun e u h => h) (fun v u h => h)
                    intro po19 xx19 hp19 hx19
                    refine g_enter2 (k := 94) (N := 300) (by first | exact dq1 hd rfl | exact dq0 hd rfl | exact dq2 hd rfl | exact dq3 hd rfl | omega) rfl (Nat.le_of_ble_eq_true rfl) ?_
                    refine g_iload_n 1 (gd rfl) rfl rfl ?_
                    refine g_if_lt 4 16 (gd rfl) rfl rfl (fun c19x1 => ?_) (fun c19x1 => ?_)
                    · skip
                      have i19x1 := z_lt (-2147483648) (-1) c19x1 (i_rng x3) rfl
                      refine g_iconst 0 17 (gd rfl) rfl rfl ?_
                      refine g_ireturn (gd rfl) rfl (nb01 (in_w 0 1 (in_c 0 rfl) rfl)) (hp19 _ _ ?_)
                      show GG _ _ _ _ _ _ _ _ [.int (Int32.ofInt 0)] _ _ _
                      refine g_if_eq 25 29 (gd rfl) rfl rfl (fun c22 => ?_) (fun c22 => ?_)
                      · skip
                        refine g_iconst 0 30 (gd rfl) rfl rfl ?_
                        refine g_thr (E := am_IA) (y := yX11_allow) 33 (gd rfl) rfl rfl (Or.inl ⟨rfl, rfl, rfl⟩) (by first | exact dq1 hd rfl | exact dq0 hd rfl | exact dq2 hd rfl | exact dq3 hd rfl | omega) (Nat.le_of_ble_eq_true rfl) (Nat.le_of_ble_eq_true rfl) (Nat.le_of_ble_eq_true rfl) (fun c30 => ?_) (fun c30 => ?_)
                        · skip
                          exact zn_ne c30 (in_c 0 rfl) rfl
                        · skip
                          have n30 : ¬ ((TWO (shC s).2.2.2.2.2.2.1 x1 x2) ∧ 0 ≤ x3.toInt ∧ x3.toInt < (shC s).2.2.2.2.2.2.1) := by first | (rw [shC_n (by rw [← e1x1]; exact c1x5)]; show ¬ (TWO (s.2.2.1 2 1).toInt x1 x2 ∧ 0 ≤ x3.toInt ∧ x3.toInt < (s.2.2.1 2 1).toInt); rw [← e_2_1]; (first | have a0 := in_u i10x10x9 | (have a0 := i10x10x9; unfold In at a0)); (first | have a1 := in_u i10x2x9 | (have a1 := i10x2x9; unfold In at a1)); (first | have a2 := in_u i10x2x9a | (have a2 := i10x2x9a; unfold In at a2)); (first | have a3 := in_u ro_2_1 | (have a3 := ro_2_1; unfold In at a3)); (first | have a4 := in_u i1x5 | (have a4 := i1x5; unfold In at a4)); (first | have a5 := in_u i19x1 | (have a5 := i19x1; unfold In at a5)); have oc := oc_242_0; omega) | (rw [shC_d (by rw [← e1x1]; exact c1x5)]; show ¬ (TWO (s.2.2.1 32 1).toInt x1 x2 ∧ 0 ≤ x3.toInt ∧ x3.toInt < (s.2.2.1 32 1).toInt); rw [← e_32_1]; (first | have a0 := in_u i10x10x9 | (have a0 := i10x10x9; unfold In at a0)); (first | have a1 := in_u i10x2x9 | (have a1 := i10x2x9; unfold In at a1)); (first | have a2 := in_u i10x2x9a | (have a2 := i10x2x9a; unfold In at a2)); (first | have a3 := in_u ro_2_1 | (have a3 := ro_2_1; unfold In at a3)); (first | have a4 := in_u i1x5 | (have a4 := i1x5; unfold In at a4)); (first | have a5 := in_u i19x1 | (have a5 := i19x1; unfold In at a5)); have oc := oc_242_0; omega)
                          exact (hX _ _ ⟨Or.inl ⟨rfl, n30⟩, s, hI, fr_rf, rfl⟩)
                      · skip
                        exact zn_ne c22 (in_c 0 rfl) rfl
                    · skip
                      have i19x1 := z_ge 0 2147483647 c19x1 (i_rng x3) rfl
                      refine g_iload_n 5 (gd rfl) rfl rfl ?_
                      refine g_aload_n 6 (gd rfl) rfl rfl ?_
                      refine g_getI 9 (gd rfl) rfl rfl rfl (fun z19x6 e19x6 => ?_)
                      have q19x6 : u_32_1 = z19x6 := (e_32_1).trans e19x6.symm
                      subst q19x6
                      refine g_cmp_ge 12 16 (gd rfl) rfl rfl (fun c19x9 => ?_) (fun c19x9 => ?_)
                      · skip
                        have i19x9 := r_le2 1 2147483647 c19x9 i10x2x9a i19x1 rfl
                        refine g_iconst 0 17 (gd rfl) rfl rfl ?_
                        refine g_ireturn (gd rfl) rfl (nb01 (in_w 0 1 (in_c 0 rfl) rfl)) (hp19 _ _ ?_)
                        show GG _ _ _ _ _ _ _ _ [.int (Int32.ofInt 0)] _ _ _
                        refine g_if_eq 25 29 (gd rfl) rfl rfl (fun c22 => ?_) (fun c22 => ?_)
                        · skip
                          refine g_iconst 0 30 (gd rfl) rfl rfl ?_
                          refine g_thr (E := am_IA) (y := yX11_allow) 33 (gd rfl) rfl rfl (Or.inl ⟨rfl, rfl, rfl⟩) (by first | exact dq1 hd rfl | exact dq0 hd rfl | exact dq2 hd rfl | exact dq3 hd rfl | omega) (Nat.le_of_ble_eq_true rfl) (Nat.le_of_ble_eq_true rfl) (Nat.le_of_ble_eq_true rfl) (fun c30 => ?_) (fun c30 => ?_)
                          · skip
                            exact zn_ne c30 (in_c 0 rfl) rfl
                          · skip
                            have n30 : ¬ ((TWO (shC s).2.2.2.2.2.2.1 x1 x2) ∧ 0 ≤ x3.toInt ∧ x3.toInt < (shC s).2.2.2.2.2.2.1) := by first | (rw [shC_n (by rw [← e1x1]; exact c1x5)]; show ¬ (TWO (s.2.2.1 2 1).toInt x1 x2 ∧ 0 ≤ x3.toInt ∧ x3.toInt < (s.2.2.1 2 1).toInt); rw [← e_2_1]; (first | have a0 := in_u i10x10x9 | (have a0 := i10x10x9; unfold In at a0)); (first | have a1 := in_u i10x2x9 | (have a1 := i10x2x9; unfold In at a1)); (first | have a2 := in_u i10x2x9a | (have a2 := i10x2x9a; unfold In at a2)); (first | have a3 := in_u ro_2_1 | (have a3 := ro_2_1; unfold In at a3)); (first | have a4 := in_u i1x5 | (have a4 := i1x5; unfold In at a4)); (first | have a5 := in_u i19x9 | (have a5 := i19x9; unfold In at a5)); have oc := oc_242_0; omega) | (rw [shC_d (by rw [← e1x1]; exact c1x5)]; show ¬ (TWO (s.2.2.1 32 1).toInt x1 x2 ∧ 0 ≤ x3.toInt ∧ x3.toInt < (s.2.2.1 32 1).toInt); rw [← e_32_1]; (first | have a0 := in_u i10x10x9 | (have a0 := i10x10x9; unfold In at a0)); (first | have a1 := in_u i10x2x9 | (have a1 := i10x2x9; unfold In at a1)); (first | have a2 := in_u i10x2x9a | (have a2 := i10x2x9a; unfold In at a2)); (first | have a3 := in_u ro_2_1 | (have a3 := ro_2_1; unfold In at a3)); (first | have a4 := in_u i1x5 | (have a4 := i1x5; unfold In at a4)); (first | have a5 := in_u i19x9 | (have a5 := i19x9; unfold In at a5)); have oc := oc_242_0; omega)
                            exact (hX _ _ ⟨Or.inl ⟨rfl, n30⟩, s, hI, fr_rf, rfl⟩)
                        · skip
                          exact zn_ne c22 (in_c 0 rfl) rfl
                      · skip
                        have i19x9 := r_lt1 0 31 c19x9 i19x1 i10x2x9a rfl
                        refine g_iconst 1 13 (gd rfl) rfl rfl ?_
                        refine g_goto 17 (gd rfl) rfl ?_
                        refine g_ireturn (gd rfl) rfl (nb01 (in_w 0 1 (in_c 1 rfl) rfl)) (hp19 _ _ ?_)
                        show GG _ _ _ _ _ _ _ _ [.int (Int32.ofInt 1)] _ _ _
                        refine g_if_eq 25 29 (gd rfl) rfl rfl (fun c22 => ?_) (fun c22 => ?_)
                        · skip
                          exact zn_eq c22 (in_c 1 rfl) rfl
                        · skip
                          refine g_iconst 1 26 (gd rfl) rfl rfl ?_
                          refine g_goto 30 (gd rfl) rfl ?_
                          refine g_thr (E := am_IA) (y := yX11_allow) 33 (gd rfl) rfl rfl (Or.inl ⟨rfl, rfl, rfl⟩) (by first | exact dq1 hd rfl | exact dq0 hd rfl | exact dq2 hd rfl | exact dq3 hd rfl | omega) (Nat.le_of_ble_eq_true rfl) (Nat.le_of_ble_eq_true rfl) (Nat.le_of_ble_eq_true rfl) (fun c30 => ?_) (fun c30 => ?_)
                          · skip
                            refine g_aload_n 34 (gd rfl) rfl rfl ?_
                            refine g_getA (q2 := 65) 37 (gd rfl) rfl rfl rfl rfl ?_
                            refine g_aload 39 (gd rfl) rfl rfl ?_
                            refine g_iload_n 40 (gd rfl) rfl rfl ?_
                            refine g_iload_n 41 (gd rfl) rfl rfl ?_
                            have p41 : TQD s := by first | exact q_0 | exact q_1
                            have p41a : FLB (gvD s) s := by first | (rw [← shC_n (by rw [← e1x1]; exact c1x5)]; exact q_2) | (rw [← shC_d (by rw [← e1x1]; exact c1x5)]; exact q_2)
                            have p41b : (x1).toInt ≠ (x2).toInt := by (first | have a0 := in_u i19x9 | (have a0 := i19x9; unfold In at a0)); (first | have a1 := in_u i10x10x9 | (have a1 := i10x10x9; unfold In at a1)); (first | have a2 := in_u i10x2x9 | (have a2 := i10x2x9; unfold In at a2)); (first | have a3 := in_u i10x2x9a | (have a3 := i10x2x9a; unfold In at a3)); (first | have a4 := in_u ro_2_1 | (have a4 := ro_2_1; unfold In at a4)); (first | have a5 := in_u i1x5 | (have a5 := i1x5; unfold In at a5)); have oc := oc_242_0; omega
                            refine g_callv (X := _) (As := [.ref (A 32), .int x1, .int x2]) (r := []) (b := A 65) (q := 65) 44 (gd rfl) rfl rfl rfl rfl rfl (ww_o rfl) (Nat.le_of_ble_eq_true rfl) (Nat.zero_le _) (Nat.zero_le _) (f_75_65_32 (by first | exact dq1 hd rfl | exact dq0 hd rfl | exact dq2 hd rfl | exact dq3 hd rfl | omega) hI (in_w 0 31 i10x2x9 rfl) (in_w 0 31 i10x10x9 rfl) p41 p41a p41b) (fun e u h => h) (fun v u h => ?_)
                            obtain ⟨s41, hI41, hF41, z41, rfl, rfl, p41c, p41d⟩ := h
                            show GG _ _ _ _ _ _ _ _ [.long z41] _ _ _
                            refine g_pop2 45 (gd rfl) rfl rfl ?_
                            refine g_aload_n 46 (gd rfl) rfl rfl ?_
                            refine g_getA (q2 := 65) 49 (gd rfl) rfl rfl rfl rfl ?_
                            refine g_getI 52 (gd rfl) rfl rfl rfl (fun z49 e49 => ?_)
                            refine g_iload_n 53 (gd rfl) rfl rfl ?_
                            refine g_ishr 54 (gd rfl) rfl (fun z53 e53 => ?_)
                            refine g_iconst 1 55 (gd rfl) rfl rfl ?_
                            refine g_iand 56 (gd rfl) rfl (fun z55 e55 => ?_)
                            have i55 := in_and2 e55 (in_c 1 rfl) rfl
                            refine g_if_eq 59 63 (gd rfl) rfl rfl (fun c56 => ?_) (fun c56 => ?_)
                            · skip
                              have i56 := z_eq 0 0 c56 i55 rfl
                              refine g_iconst 0 64 (gd rfl) rfl rfl ?_
                              have n64 : ((TWO (shC s).2.2.2.2.2.2.1 x1 x2) ∧ 0 ≤ x3.toInt ∧ x3.toInt < (shC s).2.2.2.2.2.2.1) ∧ SDV (shC s) x1.toNatClampNeg x2.toNatClampNeg x3.toNatClampNeg ((Int32.ofInt 0)).toInt := by first | (rw [shC_n (by rw [← e1x1]; exact c1x5)]; refine ⟨⟨⟨⟨by (first | have a0 := in_u i19x9 | (have a0 := i19x9; unfold In at a0)); (first | have a1 := in_u i10x10x9 | (have a1 := i10x10x9; unfold In at a1)); (first | have a2 := in_u i10x2x9 | (have a2 := i10x2x9; unfold In at a2)); (first | have a3 := in_u i10x2x9a | (have a3 := i10x2x9a; unfold In at a3)); (first | have a4 := in_u ro_2_1 | (have a4 := ro_2_1; unfold In at a4)); (first | have a5 := in_u i1x5 | (have a5 := i1x5; unfold In at a5)); have oc := oc_242_0; omega, by show x1.toInt < (s.2.2.1 2 1).toInt; rw [← e_2_1]; (first | have a0 := in_u i19x9 | (have a0 := i19x9; unfold In at a0)); (first | have a1 := in_u i10x10x9 | (have a1 := i10x10x9; unfold In at a1)); (first | have a2 := in_u i10x2x9 | (have a2 := i10x2x9; unfold In at a2)); (first | have a3 := in_u i10x2x9a | (have a3 := i10x2x9a; unfold In at a3)); (first | have a4 := in_u ro_2_1 | (have a4 := ro_2_1; unfold In at a4)); (first | have a5 := in_u i1x5 | (have a5 := i1x5; unfold In at a5)); have oc := oc_242_0; omega⟩, ⟨by (first | have a0 := in_u i19x9 | (have a0 := i19x9; unfold In at a0)); (first | have a1 := in_u i10x10x9 | (have a1 := i10x10x9; unfold In at a1)); (first | have a2 := in_u i10x2x9 | (have a2 := i10x2x9; unfold In at a2)); (first | have a3 := in_u i10x2x9a | (have a3 := i10x2x9a; unfold In at a3)); (first | have a4 := in_u ro_2_1 | (have a4 := ro_2_1; unfold In at a4)); (first | have a5 := in_u i1x5 | (have a5 := i1x5; unfold In at a5)); have oc := oc_242_0; omega, by show x2.toInt < (s.2.2.1 2 1).toInt; rw [← e_2_1]; (first | have a0 := in_u i19x9 | (have a0 := i19x9; unfold In at a0)); (first | have a1 := in_u i10x10x9 | (have a1 := i10x10x9; unfold In at a1)); (first | have a2 := in_u i10x2x9 | (have a2 := i10x2x9; unfold In at a2)); (first | have a3 := in_u i10x2x9a | (have a3 := i10x2x9a; unfold In at a3)); (first | have a4 := in_u ro_2_1 | (have a4 := ro_2_1; unfold In at a4)); (first | have a5 := in_u i1x5 | (have a5 := i1x5; unfold In at a5)); have oc := oc_242_0; omega⟩, by (first | have a0 := in_u i19x9 | (have a0 := i19x9; unfold In at a0)); (first | have a1 := in_u i10x10x9 | (have a1 := i10x10x9; unfold In at a1)); (first | have a2 := in_u i10x2x9 | (have a2 := i10x2x9; unfold In at a2)); (first | have a3 := in_u i10x2x9a | (have a3 := i10x2x9a; unfold In at a3)); (first | have a4 := in_u ro_2_1 | (have a4 := ro_2_1; unfold In at a4)); (first | have a5 := in_u i1x5 | (have a5 := i1x5; unfold In at a5)); have oc := oc_242_0; omega⟩, by (first | have a0 := in_u i19x9 | (have a0 := i19x9; unfold In at a0)); (first | have a1 := in_u i10x10x9 | (have a1 := i10x10x9; unfold In at a1)); (first | have a2 := in_u i10x2x9 | (have a2 := i10x2x9; unfold In at a2)); (first | have a3 := in_u i10x2x9a | (have a3 := i10x2x9a; unfold In at a3)); (first | have a4 := in_u ro_2_1 | (have a4 := ro_2_1; unfold In at a4)); (first | have a5 := in_u i1x5 | (have a5 := i1x5; unfold In at a5)); have oc := oc_242_0; omega, by show x3.toInt < (s.2.2.1 2 1).toInt; rw [← e_2_1]; (first | have a0 := in_u i19x9 | (have a0 := i19x9; unfold In at a0)); (first | have a1 := in_u i10x10x9 | (have a1 := i10x10x9; unfold In at a1)); (first | have a2 := in_u i10x2x9 | (have a2 := i10x2x9; unfold In at a2)); (first | have a3 := in_u i10x2x9a | (have a3 := i10x2x9a; unfold In at a3)); (first | have a4 := in_u ro_2_1 | (have a4 := ro_2_1; unfold In at a4)); (first | have a5 := in_u i1x5 | (have a5 := i1x5; unfold In at a5)); have oc := oc_242_0; omega⟩, ?_⟩; (first | exact sdv_0 p41c e49 (bt_f0 (bt_ask e53 e55 i19x9) c56) rfl | exact sdv_1 p41c e49 (bt_t1 (bt_ask e53 e55 i19x9) c56) rfl)) | (rw [shC_d (by rw [← e1x1]; exact c1x5)]; refine ⟨⟨⟨⟨by (first | have a0 := in_u i19x9 | (have a0 := i19x9; unfold In at a0)); (first | have a1 := in_u i10x10x9 | (have a1 := i10x10x9; unfold In at a1)); (first | have a2 := in_u i10x2x9 | (have a2 := i10x2x9; unfold In at a2)); (first | have a3 := in_u i10x2x9a | (have a3 := i10x2x9a; unfold In at a3)); (first | have a4 := in_u ro_2_1 | (have a4 := ro_2_1; unfold In at a4)); (first | have a5 := in_u i1x5 | (have a5 := i1x5; unfold In at a5)); have oc := oc_242_0; omega, by show x1.toInt < (s.2.2.1 32 1).toInt; rw [← e_32_1]; (first | have a0 := in_u i19x9 | (have a0 := i19x9; unfold In at a0)); (first | have a1 := in_u i10x10x9 | (have a1 := i10x10x9; unfold In at a1)); (first | have a2 := in_u i10x2x9 | (have a2 := i10x2x9; unfold In at a2)); (first | have a3 := in_u i10x2x9a | (have a3 := i10x2x9a; unfold In at a3)); (first | have a4 := in_u ro_2_1 | (have a4 := ro_2_1; unfold In at a4)); (first | have a5 := in_u i1x5 | (have a5 := i1x5; unfold In at a5)); have oc := oc_242_0; omega⟩, ⟨by (first | have a0 := in_u i19x9 | (have a0 := i19x9; unfold In at a0)); (first | have a1 := in_u i10x10x9 | (have a1 := i10x10x9; unfold In at a1)); (first | have a2 := in_u i10x2x9 | (have a2 := i10x2x9; unfold In at a2)); (first | have a3 := in_u i10x2x9a | (have a3 := i10x2x9a; unfold In at a3)); (first | have a4 := in_u ro_2_1 | (have a4 := ro_2_1; unfold In at a4)); (first | have a5 := in_u i1x5 | (have a5 := i1x5; unfold In at a5)); have oc := oc_242_0; omega, by show x2.toInt < (s.2.2.1 32 1).toInt; rw [← e_32_1]; (first | have a0 := in_u i19x9 | (have a0 := i19x9; unfold In at a0)); (first | have a1 := in_u i10x10x9 | (have a1 := i10x10x9; unfold In at a1)); (first | have a2 := in_u i10x2x9 | (have a2 := i10x2x9; unfold In at a2)); (first | have a3 := in_u i10x2x9a | (have a3 := i10x2x9a; unfold In at a3)); (first | have a4 := in_u ro_2_1 | (have a4 := ro_2_1; unfold In at a4)); (first | have a5 := in_u i1x5 | (have a5 := i1x5; unfold In at a5)); have oc := oc_242_0; omega⟩, by (first | have a0 := in_u i19x9 | (have a0 := i19x9; unfold In at a0)); (first | have a1 := in_u i10x10x9 | (have a1 := i10x10x9; unfold In at a1)); (first | have a2 := in_u i10x2x9 | (have a2 := i10x2x9; unfold In at a2)); (first | have a3 := in_u i10x2x9a | (have a3 := i10x2x9a; unfold In at a3)); (first | have a4 := in_u ro_2_1 | (have a4 := ro_2_1; unfold In at a4)); (first | have a5 := in_u i1x5 | (have a5 := i1x5; unfold In at a5)); have oc := oc_242_0; omega⟩, by (first | have a0 := in_u i19x9 | (have a0 := i19x9; unfold In at a0)); (first | have a1 := in_u i10x10x9 | (have a1 := i10x10x9; unfold In at a1)); (first | have a2 := in_u i10x2x9 | (have a2 := i10x2x9; unfold In at a2)); (first | have a3 := in_u i10x2x9a | (have a3 := i10x2x9a; unfold In at a3)); (first | have a4 := in_u ro_2_1 | (have a4 := ro_2_1; unfold In at a4)); (first | have a5 := in_u i1x5 | (have a5 := i1x5; unfold In at a5)); have oc := oc_242_0; omega, by show x3.toInt < (s.2.2.1 32 1).toInt; rw [← e_32_1]; (first | have a0 := in_u i19x9 | (have a0 := i19x9; unfold In at a0)); (first | have a1 := in_u i10x10x9 | (have a1 := i10x10x9; unfold In at a1)); (first | have a2 := in_u i10x2x9 | (have a2 := i10x2x9; unfold In at a2)); (first | have a3 := in_u i10x2x9a | (have a3 := i10x2x9a; unfold In at a3)); (first | have a4 := in_u ro_2_1 | (have a4 := ro_2_1; unfold In at a4)); (first | have a5 := in_u i1x5 | (have a5 := i1x5; unfold In at a5)); have oc := oc_242_0; omega⟩, ?_⟩; (first | exact sdv_0 p41c e49 (bt_f0 (bt_ask e53 e55 i19x9) c56) rfl | exact sdv_1 p41c e49 (bt_t1 (bt_ask e53 e55 i19x9) c56) rfl))
                              have n64a : FLQ (shC s) s41 := by first | (rw [shC_n (by rw [← e1x1]; exact c1x5)]; exact p41c.1) | (rw [shC_d (by rw [← e1x1]; exact c1x5)]; exact p41c.1)
                              exact g_ireturn (gd rfl) rfl (nb01 (in_w 0 1 (in_c 0 rfl) rfl)) (hP _ _ ⟨s41, hI41, (fr_tr rfl fr_rf hF41), (Int32.ofInt 0), rfl, rfl, in_w 0 1 (in_c 0 rfl) rfl, n64, n64a⟩)
                            · skip
                              have i56 := z_ne 1 1 c56 i55 rfl
                              refine g_iconst 1 60 (gd rfl) rfl rfl ?_
                              refine g_goto 64 (gd rfl) rfl ?_
                              have n64 : ((TWO (shC s).2.2.2.2.2.2.1 x1 x2) ∧ 0 ≤ x3.toInt ∧ x3.toInt < (shC s).2.2.2.2.2.2.1) ∧ SDV (shC s) x1.toNatClampNeg x2.toNatClampNeg x3.toNatClampNeg ((Int32.ofInt 1)).toInt := by first | (rw [shC_n (by rw [← e1x1]; exact c1x5)]; refine ⟨⟨⟨⟨by (first | have a0 := in_u i19x9 | (have a0 := i19x9; unfold In at a0)); (first | have a1 := in_u i10x10x9 | (have a1 := i10x10x9; unfold In at a1)); (first | have a2 := in_u i10x2x9 | (have a2 := i10x2x9; unfold In at a2)); (first | have a3 := in_u i10x2x9a | (have a3 := i10x2x9a; unfold In at a3)); (first | have a4 := in_u ro_2_1 | (have a4 := ro_2_1; unfold In at a4)); (first | have a5 := in_u i1x5 | (have a5 := i1x5; unfold In at a5)); have oc := oc_242_0; omega, by show x1.toInt < (s.2.2.1 2 1).toInt; rw [← e_2_1]; (first | have a0 := in_u i19x9 | (have a0 := i19x9; unfold In at a0)); (first | have a1 := in_u i10x10x9 | (have a1 := i10x10x9; unfold In at a1)); (first | have a2 := in_u i10x2x9 | (have a2 := i10x2x9; unfold In at a2)); (first | have a3 := in_u i10x2x9a | (have a3 := i10x2x9a; unfold In at a3)); (first | have a4 := in_u ro_2_1 | (have a4 := ro_2_1; unfold In at a4)); (first | have a5 := in_u i1x5 | (have a5 := i1x5; unfold In at a5)); have oc := oc_242_0; omega⟩, ⟨by (first | have a0 := in_u i19x9 | (have a0 := i19x9; unfold In at a0)); (first | have a1 := in_u i10x10x9 | (have a1 := i10x10x9; unfold In at a1)); (first | have a2 := in_u i10x2x9 | (have a2 := i10x2x9; unfold In at a2)); (first | have a3 := in_u i10x2x9a | (have a3 := i10x2x9a; unfold In at a3)); (first | have a4 := in_u ro_2_1 | (have a4 := ro_2_1; unfold In at a4)); (first | have a5 := in_u i1x5 | (have a5 := i1x5; unfold In at a5)); have oc := oc_242_0; omega, by show x2.toInt < (s.2.2.1 2 1).toInt; rw [← e_2_1]; (first | have a0 := in_u i19x9 | (have a0 := i19x9; unfold In at a0)); (first | have a1 := in_u i10x10x9 | (have a1 := i10x10x9; unfold In at a1)); (first | have a2 := in_u i10x2x9 | (have a2 := i10x2x9; unfold In at a2)); (first | have a3 := in_u i10x2x9a | (have a3 := i10x2x9a; unfold In at a3)); (first | have a4 := in_u ro_2_1 | (have a4 := ro_2_1; unfold In at a4)); (first | have a5 := in_u i1x5 | (have a5 := i1x5; unfold In at a5)); have oc := oc_242_0; omega⟩, by (first | have a0 := in_u i19x9 | (have a0 := i19x9; unfold In at a0)); (first | have a1 := in_u i10x10x9 | (have a1 := i10x10x9; unfold In at a1)); (first | have a2 := in_u i10x2x9 | (have a2 := i10x2x9; unfold In at a2)); (first | have a3 := in_u i10x2x9a | (have a3 := i10x2x9a; unfold In at a3)); (first | have a4 := in_u ro_2_1 | (have a4 := ro_2_1; unfold In at a4)); (first | have a5 := in_u i1x5 | (have a5 := i1x5; unfold In at a5)); have oc := oc_242_0; omega⟩, by (first | have a0 := in_u i19x9 | (have a0 := i19x9; unfold In at a0)); (first | have a1 := in_u i10x10x9 | (have a1 := i10x10x9; unfold In at a1)); (first | have a2 := in_u i10x2x9 | (have a2 := i10x2x9; unfold In at a2)); (first | have a3 := in_u i10x2x9a | (have a3 := i10x2x9a; unfold In at a3)); (first | have a4 := in_u ro_2_1 | (have a4 := ro_2_1; unfold In at a4)); (first | have a5 := in_u i1x5 | (have a5 := i1x5; unfold In at a5)); have oc := oc_242_0; omega, by show x3.toInt < (s.2.2.1 2 1).toInt; rw [← e_2_1]; (first | have a0 := in_u i19x9 | (have a0 := i19x9; unfold In at a0)); (first | have a1 := in_u i10x10x9 | (have a1 := i10x10x9; unfold In at a1)); (first | have a2 := in_u i10x2x9 | (have a2 := i10x2x9; unfold In at a2)); (first | have a3 := in_u i10x2x9a | (have a3 := i10x2x9a; unfold In at a3)); (first | have a4 := in_u ro_2_1 | (have a4 := ro_2_1; unfold In at a4)); (first | have a5 := in_u i1x5 | (have a5 := i1x5; unfold In at a5)); have oc := oc_242_0; omega⟩, ?_⟩; (first | exact sdv_0 p41c e49 (bt_f0 (bt_ask e53 e55 i19x9) c56) rfl | exact sdv_1 p41c e49 (bt_t1 (bt_ask e53 e55 i19x9) c56) rfl)) | (rw [shC_d (by rw [← e1x1]; exact c1x5)]; refine ⟨⟨⟨⟨by (first | have a0 := in_u i19x9 | (have a0 := i19x9; unfold In at a0)); (first | have a1 := in_u i10x10x9 | (have a1 := i10x10x9; unfold In at a1)); (first | have a2 := in_u i10x2x9 | (have a2 := i10x2x9; unfold In at a2)); (first | have a3 := in_u i10x2x9a | (have a3 := i10x2x9a; unfold In at a3)); (first | have a4 := in_u ro_2_1 | (have a4 := ro_2_1; unfold In at a4)); (first | have a5 := in_u i1x5 | (have a5 := i1x5; unfold In at a5)); have oc := oc_242_0; omega, by show x1.toInt < (s.2.2.1 32 1).toInt; rw [← e_32_1]; (first | have a0 := in_u i19x9 | (have a0 := i19x9; unfold In at a0)); (first | have a1 := in_u i10x10x9 | (have a1 := i10x10x9; unfold In at a1)); (first | have a2 := in_u i10x2x9 | (have a2 := i10x2x9; unfold In at a2)); (first | have a3 := in_u i10x2x9a | (have a3 := i10x2x9a; unfold In at a3)); (first | have a4 := in_u ro_2_1 | (have a4 := ro_2_1; unfold In at a4)); (first | have a5 := in_u i1x5 | (have a5 := i1x5; unfold In at a5)); have oc := oc_242_0; omega⟩, ⟨by (first | have a0 := in_u i19x9 | (have a0 := i19x9; unfold In at a0)); (first | have a1 := in_u i10x10x9 | (have a1 := i10x10x9; unfold In at a1)); (first | have a2 := in_u i10x2x9 | (have a2 := i10x2x9; unfold In at a2)); (first | have a3 := in_u i10x2x9a | (have a3 := i10x2x9a; unfold In at a3)); (first | have a4 := in_u ro_2_1 | (have a4 := ro_2_1; unfold In at a4)); (first | have a5 := in_u i1x5 | (have a5 := i1x5; unfold In at a5)); have oc := oc_242_0; omega, by show x2.toInt < (s.2.2.1 32 1).toInt; rw [← e_32_1]; (first | have a0 := in_u i19x9 | (have a0 := i19x9; unfold In at a0)); (first | have a1 := in_u i10x10x9 | (have a1 := i10x10x9; unfold In at a1)); (first | have a2 := in_u i10x2x9 | (have a2 := i10x2x9; unfold In at a2)); (first | have a3 := in_u i10x2x9a | (have a3 := i10x2x9a; unfold In at a3)); (first | have a4 := in_u ro_2_1 | (have a4 := ro_2_1; unfold In at a4)); (first | have a5 := in_u i1x5 | (have a5 := i1x5; unfold In at a5)); have oc := oc_242_0; omega⟩, by (first | have a0 := in_u i19x9 | (have a0 := i19x9; unfold In at a0)); (first | have a1 := in_u i10x10x9 | (have a1 := i10x10x9; unfold In at a1)); (first | have a2 := in_u i10x2x9 | (have a2 := i10x2x9; unfold In at a2)); (first | have a3 := in_u i10x2x9a | (have a3 := i10x2x9a; unfold In at a3)); (first | have a4 := in_u ro_2_1 | (have a4 := ro_2_1; unfold In at a4)); (first | have a5 := in_u i1x5 | (have a5 := i1x5; unfold In at a5)); have oc := oc_242_0; omega⟩, by (first | have a0 := in_u i19x9 | (have a0 := i19x9; unfold In at a0)); (first | have a1 := in_u i10x10x9 | (have a1 := i10x10x9; unfold In at a1)); (first | have a2 := in_u i10x2x9 | (have a2 := i10x2x9; unfold In at a2)); (first | have a3 := in_u i10x2x9a | (have a3 := i10x2x9a; unfold In at a3)); (first | have a4 := in_u ro_2_1 | (have a4 := ro_2_1; unfold In at a4)); (first | have a5 := in_u i1x5 | (have a5 := i1x5; unfold In at a5)); have oc := oc_242_0; omega, by show x3.toInt < (s.2.2.1 32 1).toInt; rw [← e_32_1]; (first | have a0 := in_u i19x9 | (have a0 := i19x9; unfold In at a0)); (first | have a1 := in_u i10x10x9 | (have a1 := i10x10x9; unfold In at a1)); (first | have a2 := in_u i10x2x9 | (have a2 := i10x2x9; unfold In at a2)); (first | have a3 := in_u i10x2x9a | (have a3 := i10x2x9a; unfold In at a3)); (first | have a4 := in_u ro_2_1 | (have a4 := ro_2_1; unfold In at a4)); (first | have a5 := in_u i1x5 | (have a5 := i1x5; unfold In at a5)); have oc := oc_242_0; omega⟩, ?_⟩; (first | exact sdv_0 p41c e49 (bt_f0 (bt_ask e53 e55 i19x9) c56) rfl | exact sdv_1 p41c e49 (bt_t1 (bt_ask e53 e55 i19x9) c56) rfl))
                              have n64a : FLQ (shC s) s41 := by first | (rw [shC_n (by rw [← e1x1]; exact c1x5)]; exact p41c.1) | (rw [shC_d (by rw [← e1x1]; exact c1x5)]; exact p41c.1)
                              exact g_ireturn (gd rfl) rfl (nb01 (in_w 0 1 (in_c 1 rfl) rfl)) (hP _ _ ⟨s41, hI41, (fr_tr rfl fr_rf hF41), (Int32.ofInt 1), rfl, rfl, in_w 0 1 (in_c 1 rfl) rfl, n64, n64a⟩)
                          · skip
                            exact zn_eq c30 (in_c 1 rfl) rfl
  · skip
    have i1x5 := r_eq1 (-1) (-1) c1x5 ro_0_2 (in_c (-1) rfl) rfl
    refine g_aload_n 9 (gd rfl) rfl rfl ?_
    refine g_getA (q2 := 1) 12 (gd rfl) rfl rfl rfl rfl ?_
    refine g_getA (q2 := 2) 15 (gd rfl) rfl rfl rfl rfl ?_
    refine g_goto 22 (gd rfl) rfl ?_
    refine g_areturn (gd rfl) rfl (hp1 _ _ ?_)
    show GG _ _ _ _ _ _ _ _ [.ref (A 2)] _ _ _
    refine g_astore 6 (gd rfl) rfl (Nat.le_of_ble_eq_true rfl) ?_
    refine g_aload 8 (gd rfl) rfl rfl ?_
    refine g_iload_n 9 (gd rfl) rfl rfl ?_
    refine g_iload_n 10 (gd rfl) rfl rfl ?_
    refine g_callv (X := _) (As := [.int x1, .int x2]) (r := []) (b := A 2) (q := 2) 13 (gd rfl) rfl rfl rfl rfl rfl (ww_o rfl) (Nat.le_of_ble_eq_true rfl) (mc := 0) (ms := 0) (Nat.zero_le _) (Nat.zero_le _) (P := fun v u => _) ?_ (fun e u h => h) (fun v u h => h)
    intro po10 xx10 hp10 hx10
    refine g_enter2 (k := 95) (N := 300) (by first | exact dq1 hd rfl | exact dq0 hd rfl | exact dq2 hd rfl | exact dq3 hd rfl | omega) rfl (Nat.le_of_ble_eq_true rfl) ?_
    refine g_aload_n 1 (gd rfl) rfl rfl ?_
    refine g_iload_n 2 (gd rfl) rfl rfl ?_
    refine g_callv (X := _) (As := [.int x1]) (r := []) (b := A 2) (q := 2) 5 (gd rfl) rfl rfl rfl rfl rfl (ww_o rfl) (Nat.le_of_ble_eq_true rfl) (mc := 0) (ms := 0) (Nat.zero_le _) (Nat.zero_le _) (P := fun v u => _) ?_ (fun e u h => h) (fun v u h => h)
    intro po10x2 xx10x2 hp10x2 hx10x2
    refine g_enter2 (k := 94) (N := 300) (by first | exact dq1 hd rfl | exact dq0 hd rfl | exact dq2 hd rfl | exact dq3 hd rfl | omega) rfl (Nat.le_of_ble_eq_true rfl) ?_
    refine g_iload_n 1 (gd rfl) rfl rfl ?_
    refine g_if_lt 4 16 (gd rfl) rfl rfl (fun c10x2x1 => ?_) (fun c10x2x1 => ?_)
    · skip
      have i10x2x1 := z_lt (-2147483648) (-1) c10x2x1 (i_rng x1) rfl
      refine g_iconst 0 17 (gd rfl) rfl rfl ?_
      refine g_ireturn (gd rfl) rfl (nb01 (in_w 0 1 (in_c 0 rfl) rfl)) (hp10x2 _ _ ?_)
      show GG _ _ _ _ _ _ _ _ [.int (Int32.ofInt 0)] _ _ _
      refine g_if_eq 8 25 (gd rfl) rfl rfl (fun c10x5 => ?_) (fun c10x5 => ?_)
      · skip
        refine g_iconst 0 26 (gd rfl) rfl rfl ?_
        refine g_ireturn (gd rfl) rfl (nb01 (in_w 0 1 (in_c 0 rfl) rfl)) (hp10 _ _ ?_)
        show GG _ _ _ _ _ _ _ _ [.int (Int32.ofInt 0)] _ _ _
        refine g_if_eq 16 29 (gd rfl) rfl rfl (fun c13 => ?_) (fun c13 => ?_)
        · skip
          refine g_iconst 0 30 (gd rfl) rfl rfl ?_
          refine g_thr (E := am_IA) (y := yX11_allow) 33 (gd rfl) rfl rfl (Or.inl ⟨rfl, rfl, rfl⟩) (by first | exact dq1 hd rfl | exact dq0 hd rfl | exact dq2 hd rfl | exact dq3 hd rfl | omega) (Nat.le_of_ble_eq_true rfl) (Nat.le_of_ble_eq_true rfl) (Nat.le_of_ble_eq_true rfl) (fun c30 => ?_) (fun c30 => ?_)
          · skip
            exact zn_ne c30 (in_c 0 rfl) rfl
          · skip
            have n30 : ¬ ((TWO (shC s).2.2.2.2.2.2.1 x1 x2) ∧ 0 ≤ x3.toInt ∧ x3.toInt < (shC s).2.2.2.2.2.2.1) := by first | (rw [shC_n (by rw [← e1x1]; exact c1x5)]; show ¬ (TWO (s.2.2.1 2 1).toInt x1 x2 ∧ 0 ≤ x3.toInt ∧ x3.toInt < (s.2.2.1 2 1).toInt); rw [← e_2_1]; (first | have a0 := in_u ro_32_1 | (have a0 := ro_32_1; unfold In at a0)); (first | have a1 := in_u ro_2_1 | (have a1 := ro_2_1; unfold In at a1)); (first | have a2 := in_u i1x5 | (have a2 := i1x5; unfold In at a2)); (first | have a3 := in_u i10x2x1 | (have a3 := i10x2x1; unfold In at a3)); have oc := oc_242_0; omega) | (rw [shC_d (by rw [← e1x1]; exact c1x5)]; show ¬ (TWO (s.2.2.1 32 1).toInt x1 x2 ∧ 0 ≤ x3.toInt ∧ x3.toInt < (s.2.2.1 32 1).toInt); rw [← e_32_1]; (first | have a0 := in_u ro_32_1 | (have a0 := ro_32_1; unfold In at a0)); (first | have a1 := in_u ro_2_1 | (have a1 := ro_2_1; unfold In at a1)); (first | have a2 := in_u i1x5 | (have a2 := i1x5; unfold In at a2)); (first | have a3 := in_u i10x2x1 | (have a3 := i10x2x1; unfold In at a3)); have oc := oc_242_0; omega)
            exact (hX _ _ ⟨Or.inl ⟨rfl, n30⟩, s, hI, fr_rf, rfl⟩)
        · skip
          exact zn_ne c13 (in_c 0 rfl) rfl
      · skip
        exact zn_ne c10x5 (in_c 0 rfl) rfl
    · skip
      have i10x2x1 := z_ge 0 2147483647 c10x2x1 (i_rng x1) rfl
      refine g_iload_n 5 (gd rfl) rfl rfl ?_
      refine g_aload_n 6 (gd rfl) rfl rfl ?_
      refine g_getI 9 (gd rfl) rfl rfl rfl (fun z10x2x6 e10x2x6 => ?_)
      have q10x2x6 : u_2_1 = z10x2x6 := (e_2_1).trans e10x2x6.symm
      subst q10x2x6
      refine g_cmp_ge 12 16 (gd rfl) rfl rfl (fun c10x2x9 => ?_) (fun c10x2x9 => ?_)
      · skip
        refine g_iconst 0 17 (gd rfl) rfl rfl ?_
        refine g_ireturn (gd rfl) rfl (nb01 (in_w 0 1 (in_c 0 rfl) rfl)) (hp10x2 _ _ ?_)
        show GG _ _ _ _ _ _ _ _ [.int (Int32.ofInt 0)] _ _ _
        refine g_if_eq 8 25 (gd rfl) rfl rfl (fun c10x5 => ?_) (fun c10x5 => ?_)
        · skip
          refine g_iconst 0 26 (gd rfl) rfl rfl ?_
          refine g_ireturn (gd rfl) rfl (nb01 (in_w 0 1 (in_c 0 rfl) rfl)) (hp10 _ _ ?_)
          show GG _ _ _ _ _ _ _ _ [.int (Int32.ofInt 0)] _ _ _
          refine g_if_eq 16 29 (gd rfl) rfl rfl (fun c13 => ?_) (fun c13 => ?_)
          · skip
            refine g_iconst 0 30 (gd rfl) rfl rfl ?_
            refine g_thr (E := am_IA) (y := yX11_allow) 33 (gd rfl) rfl rfl (Or.inl ⟨rfl, rfl, rfl⟩) (by first | exact dq1 hd rfl | exact dq0 hd rfl | exact dq2 hd rfl | exact dq3 hd rfl | omega) (Nat.le_of_ble_eq_true rfl) (Nat.le_of_ble_eq_true rfl) (Nat.le_of_ble_eq_true rfl) (fun c30 => ?_) (fun c30 => ?_)
            · skip
              exact zn_ne c30 (in_c 0 rfl) rfl
            · skip
              have n30 : ¬ ((TWO (shC s).2.2.2.2.2.2.1 x1 x2) ∧ 0 ≤ x3.toInt ∧ x3.toInt < (shC s).2.2.2.2.2.2.1) := by first | (rw [shC_n (by rw [← e1x1]; exact c1x5)]; show ¬ (TWO (s.2.2.1 2 1).toInt x1 x2 ∧ 0 ≤ x3.toInt ∧ x3.toInt < (s.2.2.1 2 1).toInt); rw [← e_2_1]; (first | have a0 := in_u ro_32_1 | (have a0 := ro_32_1; unfold In at a0)); (first | have a1 := in_u ro_2_1 | (have a1 := ro_2_1; unfold In at a1)); (first | have a2 := in_u i1x5 | (have a2 := i1x5; unfold In at a2)); (first | have a3 := in_u i10x2x1 | (have a3 := i10x2x1; unfold In at a3)); have oc := oc_242_0; omega) | (rw [shC_d (by rw [← e1x1]; exact c1x5)]; show ¬ (TWO (s.2.2.1 32 1).toInt x1 x2 ∧ 0 ≤ x3.toInt ∧ x3.toInt < (s.2.2.1 32 1).toInt); rw [← e_32_1]; (first | have a0 := in_u ro_32_1 | (have a0 := ro_32_1; unfold In at a0)); (first | have a1 := in_u ro_2_1 | (have a1 := ro_2_1; unfold In at a1)); (first | have a2 := in_u i1x5 | (have a2 := i1x5; unfold In at a2)); (first | have a3 := in_u i10x2x1 | (have a3 := i10x2x1; unfold In at a3)); have oc := oc_242_0; omega)
              exact (hX _ _ ⟨Or.inl ⟨rfl, n30⟩, s, hI, fr_rf, rfl⟩)
          · skip
            exact zn_ne c13 (in_c 0 rfl) rfl
        · skip
          exact zn_ne c10x5 (in_c 0 rfl) rfl
      · skip
        have i10x2x9 := r_lt1 0 31 c10x2x9 i10x2x1 ro_2_1 rfl
        have i10x2x9a := r_lt2 1 32 c10x2x9 i10x2x1 ro_2_1 rfl
        refine g_iconst 1 13 (gd rfl) rfl rfl ?_
        refine g_goto 17 (gd rfl) rfl ?_
        refine g_ireturn (gd rfl) rfl (nb01 (in_w 0 1 (in_c 1 rfl) rfl)) (hp10x2 _ _ ?_)
        show GG _ _ _ _ _ _ _ _ [.int (Int32.ofInt 1)] _ _ _
        refine g_if_eq 8 25 (gd rfl) rfl rfl (fun c10x5 => ?_) (fun c10x5 => ?_)
        · skip
          exact zn_eq c10x5 (in_c 1 rfl) rfl
        · skip
          refine g_aload_n 9 (gd rfl) rfl rfl ?_
          refine g_iload_n 10 (gd rfl) rfl rfl ?_
          refine g_callv (X := _) (As := [.int x2]) (r := []) (b := A 2) (q := 2) 13 (gd rfl) rfl rfl rfl rfl rfl (ww_o rfl) (Nat.le_of_ble_eq_true rfl) (mc := 0) (ms := 0) (Nat.zero_le _) (Nat.zero_le _) (P := fun v u => _) ?_ (fun e u h => h) (fun v u h => h)
          intro po10x10 xx10x10 hp10x10 hx10x10
          refine g_enter2 (k := 94) (N := 300) (by first | exact dq1 hd rfl | exact dq0 hd rfl | exact dq2 hd rfl | exact dq3 hd rfl | omega) rfl (Nat.le_of_ble_eq_true rfl) ?_
          refine g_iload_n 1 (gd rfl) rfl rfl ?_
          refine g_if_lt 4 16 (gd rfl) rfl rfl (fun c10x10x1 => ?_) (fun c10x10x1 => ?_)
          · skip
            have i10x10x1 := z_lt (-2147483648) (-1) c10x10x1 (i_rng x2) rfl
            refine g_iconst 0 17 (gd rfl) rfl rfl ?_
            refine g_ireturn (gd rfl) rfl (nb01 (in_w 0 1 (in_c 0 rfl) rfl)) (hp10x10 _ _ ?_)
            show GG _ _ _ _ _ _ _ _ [.int (Int32.ofInt 0)] _ _ _
            refine g_if_eq 16 25 (gd rfl) rfl rfl (fun c10x13 => ?_) (fun c10x13 => ?_)
            · skip
              refine g_iconst 0 26 (gd rfl) rfl rfl ?_
              refine g_ireturn (gd rfl) rfl (nb01 (in_w 0 1 (in_c 0 rfl) rfl)) (hp10 _ _ ?_)
              show GG _ _ _ _ _ _ _ _ [.int (Int32.ofInt 0)] _ _ _
              refine g_if_eq 16 29 (gd rfl) rfl rfl (fun c13 => ?_) (fun c13 => ?_)
              · skip
                refine g_iconst 0 30 (gd rfl) rfl rfl ?_
                refine g_thr (E := am_IA) (y := yX11_allow) 33 (gd rfl) rfl rfl (Or.inl ⟨rfl, rfl, rfl⟩) (by first | exact dq1 hd rfl | exact dq0 hd rfl | exact dq2 hd rfl | exact dq3 hd rfl | omega) (Nat.le_of_ble_eq_true rfl) (Nat.le_of_ble_eq_true rfl) (Nat.le_of_ble_eq_true rfl) (fun c30 => ?_) (fun c30 => ?_)
                · skip
                  exact zn_ne c30 (in_c 0 rfl) rfl
                · skip
                  have n30 : ¬ ((TWO (shC s).2.2.2.2.2.2.1 x1 x2) ∧ 0 ≤ x3.toInt ∧ x3.toInt < (shC s).2.2.2.2.2.2.1) := by first | (rw [shC_n (by rw [← e1x1]; exact c1x5)]; show ¬ (TWO (s.2.2.1 2 1).toInt x1 x2 ∧ 0 ≤ x3.toInt ∧ x3.toInt < (s.2.2.1 2 1).toInt); rw [← e_2_1]; (first | have a0 := in_u i10x2x9 | (have a0 := i10x2x9; unfold In at a0)); (first | have a1 := in_u ro_32_1 | (have a1 := ro_32_1; unfold In at a1)); (first | have a2 := in_u i10x2x9a | (have a2 := i10x2x9a; unfold In at a2)); (first | have a3 := in_u i1x5 | (have a3 := i1x5; unfold In at a3)); (first | have a4 := in_u i10x10x1 | (have a4 := i10x10x1; unfold In at a4)); have oc := oc_242_0; omega) | (rw [shC_d (by rw [← e1x1]; exact c1x5)]; show ¬ (TWO (s.2.2.1 32 1).toInt x1 x2 ∧ 0 ≤ x3.toInt ∧ x3.toInt < (s.2.2.1 32 1).toInt); rw [← e_32_1]; (first | have a0 := in_u i10x2x9 | (have a0 := i10x2x9; unfold In at a0)); (first | have a1 := in_u ro_32_1 | (have a1 := ro_32_1; unfold In at a1)); (first | have a2 := in_u i10x2x9a | (have a2 := i10x2x9a; unfold In at a2)); (first | have a3 := in_u i1x5 | (have a3 := i1x5; unfold In at a3)); (first | have a4 := in_u i10x10x1 | (have a4 := i10x10x1; unfold In at a4)); have oc := oc_242_0; omega)
                  exact (hX _ _ ⟨Or.inl ⟨rfl, n30⟩, s, hI, fr_rf, rfl⟩)
              · skip
                exact zn_ne c13 (in_c 0 rfl) rfl
            · skip
              exact zn_ne c10x13 (in_c 0 rfl) rfl
          · skip
            have i10x10x1 := z_ge 0 2147483647 c10x10x1 (i_rng x2) rfl
            refine g_iload_n 5 (gd rfl) rfl rfl ?_
            refine g_aload_n 6 (gd rfl) rfl rfl ?_
            refine g_getI 9 (gd rfl) rfl rfl rfl (fun z10x10x6 e10x10x6 => ?_)
            have q10x10x6 : u_2_1 = z10x10x6 := (e_2_1).trans e10x10x6.symm
            subst q10x10x6
            refine g_cmp_ge 12 16 (gd rfl) rfl rfl (fun c10x10x9 => ?_) (fun c10x10x9 => ?_)
            · skip
              have i10x10x9 := r_le2 1 2147483647 c10x10x9 i10x2x9a i10x10x1 rfl
              refine g_iconst 0 17 (gd rfl) rfl rfl ?_
              refine g_ireturn (gd rfl) rfl (nb01 (in_w 0 1 (in_c 0 rfl) rfl)) (hp10x10 _ _ ?_)
              show GG _ _ _ _ _ _ _ _ [.int (Int32.ofInt 0)] _ _ _
              refine g_if_eq 16 25 (gd rfl) rfl rfl (fun c10x13 => ?_) (fun c10x13 => ?_)
              · skip
                refine g_iconst 0 26 (gd rfl) rfl rfl ?_
                refine g_ireturn (gd rfl) rfl (nb01 (in_w 0 1 (in_c 0 rfl) rfl)) (hp10 _ _ ?_)
                show GG _ _ _ _ _ _ _ _ [.int (Int32.ofInt 0)] _ _ _
                refine g_if_eq 16 29 (gd rfl) rfl rfl (fun c13 => ?_) (fun c13 => ?_)
                · skip
                  refine g_iconst 0 30 (gd rfl) rfl rfl ?_
                  refine g_thr (E := am_IA) (y := yX11_allow) 33 (gd rfl) rfl rfl (Or.inl ⟨rfl, rfl, rfl⟩) (by first | exact dq1 hd rfl | exact dq0 hd rfl | exact dq2 hd rfl | exact dq3 hd rfl | omega) (Nat.le_of_ble_eq_true rfl) (Nat.le_of_ble_eq_true rfl) (Nat.le_of_ble_eq_true rfl) (fun c30 => ?_) (fun c30 => ?_)
                  · skip
                    exact zn_ne c30 (in_c 0 rfl) rfl
                  · skip
                    have n30 : ¬ ((TWO (shC s).2.2.2.2.2.2.1 x1 x2) ∧ 0 ≤ x3.toInt ∧ x3.toInt < (shC s).2.2.2.2.2.2.1) := by first | (rw [shC_n (by rw [← e1x1]; exact c1x5)]; show ¬ (TWO (s.2.2.1 2 1).toInt x1 x2 ∧ 0 ≤ x3.toInt ∧ x3.toInt < (s.2.2.1 2 1).toInt); rw [← e_2_1]; (first | have a0 := in_u i10x2x9 | (have a0 := i10x2x9; unfold In at a0)); (first | have a1 := in_u ro_32_1 | (have a1 := ro_32_1; unfold In at a1)); (first | have a2 := in_u i10x2x9a | (have a2 := i10x2x9a; unfold In at a2)); (first | have a3 := in_u i1x5 | (have a3 := i1x5; unfold In at a3)); (first | have a4 := in_u i10x10x9 | (have a4 := i10x10x9; unfold In at a4)); have oc := oc_242_0; omega) | (rw [shC_d (by rw [← e1x1]; exact c1x5)]; show ¬ (TWO (s.2.2.1 32 1).toInt x1 x2 ∧ 0 ≤ x3.toInt ∧ x3.toInt < (s.2.2.1 32 1).toInt); rw [← e_32_1]; (first | have a0 := in_u i10x2x9 | (have a0 := i10x2x9; unfold In at a0)); (first | have a1 := in_u ro_32_1 | (have a1 := ro_32_1; unfold In at a1)); (first | have a2 := in_u i10x2x9a | (have a2 := i10x2x9a; unfold In at a2)); (first | have a3 := in_u i1x5 | (have a3 := i1x5; unfold In at a3)); (first | have a4 := in_u i10x10x9 | (have a4 := i10x10x9; unfold In at a4)); have oc := oc_242_0; omega)
                    exact (hX _ _ ⟨Or.inl ⟨rfl, n30⟩, s, hI, fr_rf, rfl⟩)
                · skip
                  exact zn_ne c13 (in_c 0 rfl) rfl
              · skip
                exact zn_ne c10x13 (in_c 0 rfl) rfl
            · skip
              have i10x10x9 := r_lt1 0 31 c10x10x9 i10x10x1 i10x2x9a rfl
              refine g_iconst 1 13 (gd rfl) rfl rfl ?_
              refine g_goto 17 (gd rfl) rfl ?_
              refine g_ireturn (gd rfl) rfl (nb01 (in_w 0 1 (in_c 1 rfl) rfl)) (hp10x10 _ _ ?_)
              show GG _ _ _ _ _ _ _ _ [.int (Int32.ofInt 1)] _ _ _
              refine g_if_eq 16 25 (gd rfl) rfl rfl (fun c10x13 => ?_) (fun c10x13 => ?_)
              · skip
                exact zn_eq c10x13 (in_c 1 rfl) rfl
              · skip
                refine g_iload_n 17 (gd rfl) rfl rfl ?_
                refine g_iload_n 18 (gd rfl) rfl rfl ?_
                refine g_cmp_eq 21 25 (gd rfl) rfl rfl (fun c10x18 => ?_) (fun c10x18 => ?_)
                · skip
                  refine g_iconst 0 26 (gd rfl) rfl rfl ?_
                  refine g_ireturn (gd rfl) rfl (nb01 (in_w 0 1 (in_c 0 rfl) rfl)) (hp10 _ _ ?_)
                  show GG _ _ _ _ _ _ _ _ [.int (Int32.ofInt 0)] _ _ _
                  refine g_if_eq 16 29 (gd rfl) rfl rfl (fun c13 => ?_) (fun c13 => ?_)
                  · skip
                    refine g_iconst 0 30 (gd rfl) rfl rfl ?_
                    refine g_thr (E := am_IA) (y := yX11_allow) 33 (gd rfl) rfl rfl (Or.inl ⟨rfl, rfl, rfl⟩) (by first | exact dq1 hd rfl | exact dq0 hd rfl | exact dq2 hd rfl | exact dq3 hd rfl | omega) (Nat.le_of_ble_eq_true rfl) (Nat.le_of_ble_eq_true rfl) (Nat.le_of_ble_eq_true rfl) (fun c30 => ?_) (fun c30 => ?_)
                    · skip
                      exact zn_ne c30 (in_c 0 rfl) rfl
                    · skip
                      have n30 : ¬ ((TWO (shC s).2.2.2.2.2.2.1 x1 x2) ∧ 0 ≤ x3.toInt ∧ x3.toInt < (shC s).2.2.2.2.2.2.1) := by first | (rw [shC_n (by rw [← e1x1]; exact c1x5)]; show ¬ (TWO (s.2.2.1 2 1).toInt x1 x2 ∧ 0 ≤ x3.toInt ∧ x3.toInt < (s.2.2.1 2 1).toInt); rw [← e_2_1]; (first | have a0 := in_u i10x10x9 | (have a0 := i10x10x9; unfold In at a0)); (first | have a1 := in_u i10x2x9 | (have a1 := i10x2x9; unfold In at a1)); (first | have a2 := in_u ro_32_1 | (have a2 := ro_32_1; unfold In at a2)); (first | have a3 := in_u i10x2x9a | (have a3 := i10x2x9a; unfold In at a3)); (first | have a4 := in_u i1x5 | (have a4 := i1x5; unfold In at a4)); have oc := oc_242_0; omega) | (rw [shC_d (by rw [← e1x1]; exact c1x5)]; show ¬ (TWO (s.2.2.1 32 1).toInt x1 x2 ∧ 0 ≤ x3.toInt ∧ x3.toInt < (s.2.2.1 32 1).toInt); rw [← e_32_1]; (first | have a0 := in_u i10x10x9 | (have a0 := i10x10x9; unfold In at a0)); (first | have a1 := in_u i10x2x9 | (have a1 := i10x2x9; unfold In at a1)); (first | have a2 := in_u ro_32_1 | (have a2 := ro_32_1; unfold In at a2)); (first | have a3 := in_u i10x2x9a | (have a3 := i10x2x9a; unfold In at a3)); (first | have a4 := in_u i1x5 | (have a4 := i1x5; unfold In at a4)); have oc := oc_242_0; omega)
                      exact (hX _ _ ⟨Or.inl ⟨rfl, n30⟩, s, hI, fr_rf, rfl⟩)
                  · skip
                    exact zn_ne c13 (in_c 0 rfl) rfl
                · skip
                  refine g_iconst 1 22 (gd rfl) rfl rfl ?_
                  refine g_goto 26 (gd rfl) rfl ?_
                  refine g_ireturn (gd rfl) rfl (nb01 (in_w 0 1 (in_c 1 rfl) rfl)) (hp10 _ _ ?_)
                  show GG _ _ _ _ _ _ _ _ [.int (Int32.ofInt 1)] _ _ _
                  refine g_if_eq 16 29 (gd rfl) rfl rfl (fun c13 => ?_) (fun c13 => ?_)
                  · skip
                    exact zn_eq c13 (in_c 1 rfl) rfl
                  · skip
                    refine g_aload 18 (gd rfl) rfl rfl ?_
                    refine g_iload_n 19 (gd rfl) rfl rfl ?_
                    refine g_callv (X := _) (As := [.int x3]) (r := []) (b := A 2) (q := 2) 22 (gd rfl) rfl rfl rfl rfl rfl (ww_o rfl) (Nat.le_of_ble_eq_true rfl) (mc := 0) (ms := 0) (Nat.zero_le _) (Nat.zero_le _) (P := fun v u => _) ?_ (fun e u h => h) (fun v u h => h)
                    intro po19 xx19 hp19 hx19
                    refine g_enter2 (k := 94) (N := 300) (by first | exact dq1 hd rfl | exact dq0 hd rfl | exact dq2 hd rfl | exact dq3 hd rfl | omega) rfl (Nat.le_of_ble_eq_true rfl) ?_
                    refine g_iload_n 1 (gd rfl) rfl rfl ?_
                    refine g_if_lt 4 16 (gd rfl) rfl rfl (fun c19x1 => ?_) (fun c19x1 => ?_)
                    · skip
                      have i19x1 := z_lt (-2147483648) (-1) c19x1 (i_rng x3) rfl
                      refine g_iconst 0 17 (gd rfl) rfl rfl ?_
                      refine g_ireturn (gd rfl) rfl (nb01 (in_w 0 1 (in_c 0 rfl) rfl)) (hp19 _ _ ?_)
                      show GG _ _ _ _ _ _ _ _ [.int (Int32.ofInt 0)] _ _ _
                      refine g_if_eq 25 29 (gd rfl) rfl rfl (fun c22 => ?_) (fun c22 => ?_)
                      · skip
                        refine g_iconst 0 30 (gd rfl) rfl rfl ?_
                        refine g_thr (E := am_IA) (y := yX11_allow) 33 (gd rfl) rfl rfl (Or.inl ⟨rfl, rfl, rfl⟩) (by first | exact dq1 hd rfl | exact dq0 hd rfl | exact dq2 hd rfl | exact dq3 hd rfl | omega) (Nat.le_of_ble_eq_true rfl) (Nat.le_of_ble_eq_true rfl) (Nat.le_of_ble_eq_true rfl) (fun c30 => ?_) (fun c30 => ?_)
                        · skip
                          exact zn_ne c30 (in_c 0 rfl) rfl
                        · skip
                          have n30 : ¬ ((TWO (shC s).2.2.2.2.2.2.1 x1 x2) ∧ 0 ≤ x3.toInt ∧ x3.toInt < (shC s).2.2.2.2.2.2.1) := by first | (rw [shC_n (by rw [← e1x1]; exact c1x5)]; show ¬ (TWO (s.2.2.1 2 1).toInt x1 x2 ∧ 0 ≤ x3.toInt ∧ x3.toInt < (s.2.2.1 2 1).toInt); rw [← e_2_1]; (first | have a0 := in_u i10x10x9 | (have a0 := i10x10x9; unfold In at a0)); (first | have a1 := in_u i10x2x9 | (have a1 := i10x2x9; unfold In at a1)); (first | have a2 := in_u ro_32_1 | (have a2 := ro_32_1; unfold In at a2)); (first | have a3 := in_u i10x2x9a | (have a3 := i10x2x9a; unfold In at a3)); (first | have a4 := in_u i1x5 | (have a4 := i1x5; unfold In at a4)); (first | have a5 := in_u i19x1 | (have a5 := i19x1; unfold In at a5)); have oc := oc_242_0; omega) | (rw [shC_d (by rw [← e1x1]; exact c1x5)]; show ¬ (TWO (s.2.2.1 32 1).toInt x1 x2 ∧ 0 ≤ x3.toInt ∧ x3.toInt < (s.2.2.1 32 1).toInt); rw [← e_32_1]; (first | have a0 := in_u i10x10x9 | (have a0 := i10x10x9; unfold In at a0)); (first | have a1 := in_u i10x2x9 | (have a1 := i10x2x9; unfold In at a1)); (first | have a2 := in_u ro_32_1 | (have a2 := ro_32_1; unfold In at a2)); (first | have a3 := in_u i10x2x9a | (have a3 := i10x2x9a; unfold In at a3)); (first | have a4 := in_u i1x5 | (have a4 := i1x5; unfold In at a4)); (first | have a5 := in_u i19x1 | (have a5 := i19x1; unfold In at a5)); have oc := oc_242_0; omega)
                          exact (hX _ _ ⟨Or.inl ⟨rfl, n30⟩, s, hI, fr_rf, rfl⟩)
                      · skip
                        exact zn_ne c22 (in_c 0 rfl) rfl
                    · skip
                      have i19x1 := z_ge 0 2147483647 c19x1 (i_rng x3) rfl
                      refine g_iload_n 5 (gd rfl) rfl rfl ?_
                      refine g_aload_n 6 (gd rfl) rfl rfl ?_
                      refine g_getI 9 (gd rfl) rfl rfl rfl (fun z19x6 e19x6 => ?_)
                      have q19x6 : u_2_1 = z19x6 := (e_2_1).trans e19x6.symm
                      subst q19x6
                      refine g_cmp_ge 12 16 (gd rfl) rfl rfl (fun c19x9 => ?_) (fun c19x9 => ?_)
                      · skip
                        have i19x9 := r_le2 1 2147483647 c19x9 i10x2x9a i19x1 rfl
                        refine g_iconst 0 17 (gd rfl) rfl rfl ?_
                        refine g_ireturn (gd rfl) rfl (nb01 (in_w 0 1 (in_c 0 rfl) rfl)) (hp19 _ _ ?_)
                        show GG _ _ _ _ _ _ _ _ [.int (Int32.ofInt 0)] _ _ _
                        refine g_if_eq 25 29 (gd rfl) rfl rfl (fun c22 => ?_) (fun c22 => ?_)
                        · skip
                          refine g_iconst 0 30 (gd rfl) rfl rfl ?_
                          refine g_thr (E := am_IA) (y := yX11_allow) 33 (gd rfl) rfl rfl (Or.inl ⟨rfl, rfl, rfl⟩) (by first | exact dq1 hd rfl | exact dq0 hd rfl | exact dq2 hd rfl | exact dq3 hd rfl | omega) (Nat.le_of_ble_eq_true rfl) (Nat.le_of_ble_eq_true rfl) (Nat.le_of_ble_eq_true rfl) (fun c30 => ?_) (fun c30 => ?_)
                          · skip
                            exact zn_ne c30 (in_c 0 rfl) rfl
                          · skip
                            have n30 : ¬ ((TWO (shC s).2.2.2.2.2.2.1 x1 x2) ∧ 0 ≤ x3.toInt ∧ x3.toInt < (shC s).2.2.2.2.2.2.1) := by first | (rw [shC_n (by rw [← e1x1]; exact c1x5)]; show ¬ (TWO (s.2.2.1 2 1).toInt x1 x2 ∧ 0 ≤ x3.toInt ∧ x3.toInt < (s.2.2.1 2 1).toInt); rw [← e_2_1]; (first | have a0 := in_u i10x10x9 | (have a0 := i10x10x9; unfold In at a0)); (first | have a1 := in_u i10x2x9 | (have a1 := i10x2x9; unfold In at a1)); (first | have a2 := in_u ro_32_1 | (have a2 := ro_32_1; unfold In at a2)); (first | have a3 := in_u i10x2x9a | (have a3 := i10x2x9a; unfold In at a3)); (first | have a4 := in_u i1x5 | (have a4 := i1x5; unfold In at a4)); (first | have a5 := in_u i19x9 | (have a5 := i19x9; unfold In at a5)); have oc := oc_242_0; omega) | (rw [shC_d (by rw [← e1x1]; exact c1x5)]; show ¬ (TWO (s.2.2.1 32 1).toInt x1 x2 ∧ 0 ≤ x3.toInt ∧ x3.toInt < (s.2.2.1 32 1).toInt); rw [← e_32_1]; (first | have a0 := in_u i10x10x9 | (have a0 := i10x10x9; unfold In at a0)); (first | have a1 := in_u i10x2x9 | (have a1 := i10x2x9; unfold In at a1)); (first | have a2 := in_u ro_32_1 | (have a2 := ro_32_1; unfold In at a2)); (first | have a3 := in_u i10x2x9a | (have a3 := i10x2x9a; unfold In at a3)); (first | have a4 := in_u i1x5 | (have a4 := i1x5; unfold In at a4)); (first | have a5 := in_u i19x9 | (have a5 := i19x9; unfold In at a5)); have oc := oc_242_0; omega)
                            exact (hX _ _ ⟨Or.inl ⟨rfl, n30⟩, s, hI, fr_rf, rfl⟩)
                        · skip
                          exact zn_ne c22 (in_c 0 rfl) rfl
                      · skip
                        have i19x9 := r_lt1 0 31 c19x9 i19x1 i10x2x9a rfl
                        refine g_iconst 1 13 (gd rfl) rfl rfl ?_
                        refine g_goto 17 (gd rfl) rfl ?_
                        refine g_ireturn (gd rfl) rfl (nb01 (in_w 0 1 (in_c 1 rfl) rfl)) (hp19 _ _ ?_)
                        show GG _ _ _ _ _ _ _ _ [.int (Int32.ofInt 1)] _ _ _
                        refine g_if_eq 25 29 (gd rfl) rfl rfl (fun c22 => ?_) (fun c22 => ?_)
                        · skip
                          exact zn_eq c22 (in_c 1 rfl) rfl
                        · skip
                          refine g_iconst 1 26 (gd rfl) rfl rfl ?_
                          refine g_goto 30 (gd rfl) rfl ?_
                          refine g_thr (E := am_IA) (y := yX11_allow) 33 (gd rfl) rfl rfl (Or.inl ⟨rfl, rfl, rfl⟩) (by first | exact dq1 hd rfl | exact dq0 hd rfl | exact dq2 hd rfl | exact dq3 hd rfl | omega) (Nat.le_of_ble_eq_true rfl) (Nat.le_of_ble_eq_true rfl) (Nat.le_of_ble_eq_true rfl) (fun c30 => ?_) (fun c30 => ?_)
                          · skip
                            refine g_aload_n 34 (gd rfl) rfl rfl ?_
                            refine g_getA (q2 := 65) 37 (gd rfl) rfl rfl rfl rfl ?_
                            refine g_aload 39 (gd rfl) rfl rfl ?_
                            refine g_iload_n 40 (gd rfl) rfl rfl ?_
                            refine g_iload_n 41 (gd rfl) rfl rfl ?_
                            have p41 : TQ s := by first | exact q_0 | exact q_1
                            have p41a : FLB (gvC s) s := by first | (rw [← shC_n (by rw [← e1x1]; exact c1x5)]; exact q_2) | (rw [← shC_d (by rw [← e1x1]; exact c1x5)]; exact q_2)
                            have p41b : (x1).toInt ≠ (x2).toInt := by (first | have a0 := in_u i19x9 | (have a0 := i19x9; unfold In at a0)); (first | have a1 := in_u i10x10x9 | (have a1 := i10x10x9; unfold In at a1)); (first | have a2 := in_u i10x2x9 | (have a2 := i10x2x9; unfold In at a2)); (first | have a3 := in_u ro_32_1 | (have a3 := ro_32_1; unfold In at a3)); (first | have a4 := in_u i10x2x9a | (have a4 := i10x2x9a; unfold In at a4)); (first | have a5 := in_u i1x5 | (have a5 := i1x5; unfold In at a5)); have oc := oc_242_0; omega
                            refine g_callv (X := _) (As := [.ref (A 2), .int x1, .int x2]) (r := []) (b := A 65) (q := 65) 44 (gd rfl) rfl rfl rfl rfl rfl (ww_o rfl) (Nat.le_of_ble_eq_true rfl) (Nat.zero_le _) (Nat.zero_le _) (f_75_65_2 (by first | exact dq1 hd rfl | exact dq0 hd rfl | exact dq2 hd rfl | exact dq3 hd rfl | omega) hI (in_w 0 31 i10x2x9 rfl) (in_w 0 31 i10x10x9 rfl) p41 p41a p41b) (fun e u h => h) (fun v u h => ?_)
                            obtain ⟨s41, hI41, hF41, z41, rfl, rfl, p41c, p41d⟩ := h
                            show GG _ _ _ _ _ _ _ _ [.long z41] _ _ _
                            refine g_pop2 45 (gd rfl) rfl rfl ?_
                            refine g_aload_n 46 (gd rfl) rfl rfl ?_
                            refine g_getA (q2 := 65) 49 (gd rfl) rfl rfl rfl rfl ?_
                            refine g_getI 52 (gd rfl) rfl rfl rfl (fun z49 e49 => ?_)
                            refine g_iload_n 53 (gd rfl) rfl rfl ?_
                            refine g_ishr 54 (gd rfl) rfl (fun z53 e53 => ?_)
                            refine g_iconst 1 55 (gd rfl) rfl rfl ?_
                            refine g_iand 56 (gd rfl) rfl (fun z55 e55 => ?_)
                            have i55 := in_and2 e55 (in_c 1 rfl) rfl
                            refine g_if_eq 59 63 (gd rfl) rfl rfl (fun c56 => ?_) (fun c56 => ?_)
                            · skip
                              have i56 := z_eq 0 0 c56 i55 rfl
                              refine g_iconst 0 64 (gd rfl) rfl rfl ?_
                              have n64 : ((TWO (shC s).2.2.2.2.2.2.1 x1 x2) ∧ 0 ≤ x3.toInt ∧ x3.toInt < (shC s).2.2.2.2.2.2.1) ∧ SDV (shC s) x1.toNatClampNeg x2.toNatClampNeg x3.toNatClampNeg ((Int32.ofInt 0)).toInt := by first | (rw [shC_n (by rw [← e1x1]; exact c1x5)]; refine ⟨⟨⟨⟨by (first | have a0 := in_u i19x9 | (have a0 := i19x9; unfold In at a0)); (first | have a1 := in_u i10x10x9 | (have a1 := i10x10x9; unfold In at a1)); (first | have a2 := in_u i10x2x9 | (have a2 := i10x2x9; unfold In at a2)); (first | have a3 := in_u ro_32_1 | (have a3 := ro_32_1; unfold In at a3)); (first | have a4 := in_u i10x2x9a | (have a4 := i10x2x9a; unfold In at a4)); (first | have a5 := in_u i1x5 | (have a5 := i1x5; unfold In at a5)); have oc := oc_242_0; omega, by show x1.toInt < (s.2.2.1 2 1).toInt; rw [← e_2_1]; (first | have a0 := in_u i19x9 | (have a0 := i19x9; unfold In at a0)); (first | have a1 := in_u i10x10x9 | (have a1 := i10x10x9; unfold In at a1)); (first | have a2 := in_u i10x2x9 | (have a2 := i10x2x9; unfold In at a2)); (first | have a3 := in_u ro_32_1 | (have a3 := ro_32_1; unfold In at a3)); (first | have a4 := in_u i10x2x9a | (have a4 := i10x2x9a; unfold In at a4)); (first | have a5 := in_u i1x5 | (have a5 := i1x5; unfold In at a5)); have oc := oc_242_0; omega⟩, ⟨by (first | have a0 := in_u i19x9 | (have a0 := i19x9; unfold In at a0)); (first | have a1 := in_u i10x10x9 | (have a1 := i10x10x9; unfold In at a1)); (first | have a2 := in_u i10x2x9 | (have a2 := i10x2x9; unfold In at a2)); (first | have a3 := in_u ro_32_1 | (have a3 := ro_32_1; unfold In at a3)); (first | have a4 := in_u i10x2x9a | (have a4 := i10x2x9a; unfold In at a4)); (first | have a5 := in_u i1x5 | (have a5 := i1x5; unfold In at a5)); have oc := oc_242_0; omega, by show x2.toInt < (s.2.2.1 2 1).toInt; rw [← e_2_1]; (first | have a0 := in_u i19x9 | (have a0 := i19x9; unfold In at a0)); (first | have a1 := in_u i10x10x9 | (have a1 := i10x10x9; unfold In at a1)); (first | have a2 := in_u i10x2x9 | (have a2 := i10x2x9; unfold In at a2)); (first | have a3 := in_u ro_32_1 | (have a3 := ro_32_1; unfold In at a3)); (first | have a4 := in_u i10x2x9a | (have a4 := i10x2x9a; unfold In at a4)); (first | have a5 := in_u i1x5 | (have a5 := i1x5; unfold In at a5)); have oc := oc_242_0; omega⟩, by (first | have a0 := in_u i19x9 | (have a0 := i19x9; unfold In at a0)); (first | have a1 := in_u i10x10x9 | (have a1 := i10x10x9; unfold In at a1)); (first | have a2 := in_u i10x2x9 | (have a2 := i10x2x9; unfold In at a2)); (first | have a3 := in_u ro_32_1 | (have a3 := ro_32_1; unfold In at a3)); (first | have a4 := in_u i10x2x9a | (have a4 := i10x2x9a; unfold In at a4)); (first | have a5 := in_u i1x5 | (have a5 := i1x5; unfold In at a5)); have oc := oc_242_0; omega⟩, by (first | have a0 := in_u i19x9 | (have a0 := i19x9; unfold In at a0)); (first | have a1 := in_u i10x10x9 | (have a1 := i10x10x9; unfold In at a1)); (first | have a2 := in_u i10x2x9 | (have a2 := i10x2x9; unfold In at a2)); (first | have a3 := in_u ro_32_1 | (have a3 := ro_32_1; unfold In at a3)); (first | have a4 := in_u i10x2x9a | (have a4 := i10x2x9a; unfold In at a4)); (first | have a5 := in_u i1x5 | (have a5 := i1x5; unfold In at a5)); have oc := oc_242_0; omega, by show x3.toInt < (s.2.2.1 2 1).toInt; rw [← e_2_1]; (first | have a0 := in_u i19x9 | (have a0 := i19x9; unfold In at a0)); (first | have a1 := in_u i10x10x9 | (have a1 := i10x10x9; unfold In at a1)); (first | have a2 := in_u i10x2x9 | (have a2 := i10x2x9; unfold In at a2)); (first | have a3 := in_u ro_32_1 | (have a3 := ro_32_1; unfold In at a3)); (first | have a4 := in_u i10x2x9a | (have a4 := i10x2x9a; unfold In at a4)); (first | have a5 := in_u i1x5 | (have a5 := i1x5; unfold In at a5)); have oc := oc_242_0; omega⟩, ?_⟩; (first | exact sdv_0 p41c e49 (bt_f0 (bt_ask e53 e55 i19x9) c56) rfl | exact sdv_1 p41c e49 (bt_t1 (bt_ask e53 e55 i19x9) c56) rfl)) | (rw [shC_d (by rw [← e1x1]; exact c1x5)]; refine ⟨⟨⟨⟨by (first | have a0 := in_u i19x9 | (have a0 := i19x9; unfold In at a0)); (first | have a1 := in_u i10x10x9 | (have a1 := i10x10x9; unfold In at a1)); (first | have a2 := in_u i10x2x9 | (have a2 := i10x2x9; unfold In at a2)); (first | have a3 := in_u ro_32_1 | (have a3 := ro_32_1; unfold In at a3)); (first | have a4 := in_u i10x2x9a | (have a4 := i10x2x9a; unfold In at a4)); (first | have a5 := in_u i1x5 | (have a5 := i1x5; unfold In at a5)); have oc := oc_242_0; omega, by show x1.toInt < (s.2.2.1 32 1).toInt; rw [← e_32_1]; (first | have a0 := in_u i19x9 | (have a0 := i19x9; unfold In at a0)); (first | have a1 := in_u i10x10x9 | (have a1 := i10x10x9; unfold In at a1)); (first | have a2 := in_u i10x2x9 | (have a2 := i10x2x9; unfold In at a2)); (first | have a3 := in_u ro_32_1 | (have a3 := ro_32_1; unfold In at a3)); (first | have a4 := in_u i10x2x9a | (have a4 := i10x2x9a; unfold In at a4)); (first | have a5 := in_u i1x5 | (have a5 := i1x5; unfold In at a5)); have oc := oc_242_0; omega⟩, ⟨by (first | have a0 := in_u i19x9 | (have a0 := i19x9; unfold In at a0)); (first | have a1 := in_u i10x10x9 | (have a1 := i10x10x9; unfold In at a1)); (first | have a2 := in_u i10x2x9 | (have a2 := i10x2x9; unfold In at a2)); (first | have a3 := in_u ro_32_1 | (have a3 := ro_32_1; unfold In at a3)); (first | have a4 := in_u i10x2x9a | (have a4 := i10x2x9a; unfold In at a4)); (first | have a5 := in_u i1x5 | (have a5 := i1x5; unfold In at a5)); have oc := oc_242_0; omega, by show x2.toInt < (s.2.2.1 32 1).toInt; rw [← e_32_1]; (first | have a0 := in_u i19x9 | (have a0 := i19x9; unfold In at a0)); (first | have a1 := in_u i10x10x9 | (have a1 := i10x10x9; unfold In at a1)); (first | have a2 := in_u i10x2x9 | (have a2 := i10x2x9; unfold In at a2)); (first | have a3 := in_u ro_32_1 | (have a3 := ro_32_1; unfold In at a3)); (first | have a4 := in_u i10x2x9a | (have a4 := i10x2x9a; unfold In at a4)); (first | have a5 := in_u i1x5 | (have a5 := i1x5; unfold In at a5)); have oc := oc_242_0; omega⟩, by (first | have a0 := in_u i19x9 | (have a0 := i19x9; unfold In at a0)); (first | have a1 := in_u i10x10x9 | (have a1 := i10x10x9; unfold In at a1)); (first | have a2 := in_u i10x2x9 | (have a2 := i10x2x9; unfold In at a2)); (first | have a3 := in_u ro_32_1 | (have a3 := ro_32_1; unfold In at a3)); (first | have a4 := in_u i10x2x9a | (have a4 := i10x2x9a; unfold In at a4)); (first | have a5 := in_u i1x5 | (have a5 := i1x5; unfold In at a5)); have oc := oc_242_0; omega⟩, by (first | have a0 := in_u i19x9 | (have a0 := i19x9; unfold In at a0)); (first | have a1 := in_u i10x10x9 | (have a1 := i10x10x9; unfold In at a1)); (first | have a2 := in_u i10x2x9 | (have a2 := i10x2x9; unfold In at a2)); (first | have a3 := in_u ro_32_1 | (have a3 := ro_32_1; unfold In at a3)); (first | have a4 := in_u i10x2x9a | (have a4 := i10x2x9a; unfold In at a4)); (first | have a5 := in_u i1x5 | (have a5 := i1x5; unfold In at a5)); have oc := oc_242_0; omega, by show x3.toInt < (s.2.2.1 32 1).toInt; rw [← e_32_1]; (first | have a0 := in_u i19x9 | (have a0 := i19x9; unfold In at a0)); (first | have a1 := in_u i10x10x9 | (have a1 := i10x10x9; unfold In at a1)); (first | have a2 := in_u i10x2x9 | (have a2 := i10x2x9; unfold In at a2)); (first | have a3 := in_u ro_32_1 | (have a3 := ro_32_1; unfold In at a3)); (first | have a4 := in_u i10x2x9a | (have a4 := i10x2x9a; unfold In at a4)); (first | have a5 := in_u i1x5 | (have a5 := i1x5; unfold In at a5)); have oc := oc_242_0; omega⟩, ?_⟩; (first | exact sdv_0 p41c e49 (bt_f0 (bt_ask e53 e55 i19x9) c56) rfl | exact sdv_1 p41c e49 (bt_t1 (bt_ask e53 e55 i19x9) c56) rfl))
                              have n64a : FLQ (shC s) s41 := by first | (rw [shC_n (by rw [← e1x1]; exact c1x5)]; exact p41c.1) | (rw [shC_d (by rw [← e1x1]; exact c1x5)]; exact p41c.1)
                              exact g_ireturn (gd rfl) rfl (nb01 (in_w 0 1 (in_c 0 rfl) rfl)) (hP _ _ ⟨s41, hI41, (fr_tr rfl fr_rf hF41), (Int32.ofInt 0), rfl, rfl, in_w 0 1 (in_c 0 rfl) rfl, n64, n64a⟩)
                            · skip
                              have i56 := z_ne 1 1 c56 i55 rfl
                              refine g_iconst 1 60 (gd rfl) rfl rfl ?_
                              refine g_goto 64 (gd rfl) rfl ?_
                              have n64 : ((TWO (shC s).2.2.2.2.2.2.1 x1 x2) ∧ 0 ≤ x3.toInt ∧ x3.toInt < (shC s).2.2.2.2.2.2.1) ∧ SDV (shC s) x1.toNatClampNeg x2.toNatClampNeg x3.toNatClampNeg ((Int32.ofInt 1)).toInt := by first | (rw [shC_n (by rw [← e1x1]; exact c1x5)]; refine ⟨⟨⟨⟨by (first | have a0 := in_u i19x9 | (have a0 := i19x9; unfold In at a0)); (first | have a1 := in_u i10x10x9 | (have a1 := i10x10x9; unfold In at a1)); (first | have a2 := in_u i10x2x9 | (have a2 := i10x2x9; unfold In at a2)); (first | have a3 := in_u ro_32_1 | (have a3 := ro_32_1; unfold In at a3)); (first | have a4 := in_u i10x2x9a | (have a4 := i10x2x9a; unfold In at a4)); (first | have a5 := in_u i1x5 | (have a5 := i1x5; unfold In at a5)); have oc := oc_242_0; omega, by show x1.toInt < (s.2.2.1 2 1).toInt; rw [← e_2_1]; (first | have a0 := in_u i19x9 | (have a0 := i19x9; unfold In at a0)); (first | have a1 := in_u i10x10x9 | (have a1 := i10x10x9; unfold In at a1)); (first | have a2 := in_u i10x2x9 | (have a2 := i10x2x9; unfold In at a2)); (first | have a3 := in_u ro_32_1 | (have a3 := ro_32_1; unfold In at a3)); (first | have a4 := in_u i10x2x9a | (have a4 := i10x2x9a; unfold In at a4)); (first | have a5 := in_u i1x5 | (have a5 := i1x5; unfold In at a5)); have oc := oc_242_0; omega⟩, ⟨by (first | have a0 := in_u i19x9 | (have a0 := i19x9; unfold In at a0)); (first | have a1 := in_u i10x10x9 | (have a1 := i10x10x9; unfold In at a1)); (first | have a2 := in_u i10x2x9 | (have a2 := i10x2x9; unfold In at a2)); (first | have a3 := in_u ro_32_1 | (have a3 := ro_32_1; unfold In at a3)); (first | have a4 := in_u i10x2x9a | (have a4 := i10x2x9a; unfold In at a4)); (first | have a5 := in_u i1x5 | (have a5 := i1x5; unfold In at a5)); have oc := oc_242_0; omega, by show x2.toInt < (s.2.2.1 2 1).toInt; rw [← e_2_1]; (first | have a0 := in_u i19x9 | (have a0 := i19x9; unfold In at a0)); (first | have a1 := in_u i10x10x9 | (have a1 := i10x10x9; unfold In at a1)); (first | have a2 := in_u i10x2x9 | (have a2 := i10x2x9; unfold In at a2)); (first | have a3 := in_u ro_32_1 | (have a3 := ro_32_1; unfold In at a3)); (first | have a4 := in_u i10x2x9a | (have a4 := i10x2x9a; unfold In at a4)); (first | have a5 := in_u i1x5 | (have a5 := i1x5; unfold In at a5)); have oc := oc_242_0; omega⟩, by (first | have a0 := in_u i19x9 | (have a0 := i19x9; unfold In at a0)); (first | have a1 := in_u i10x10x9 | (have a1 := i10x10x9; unfold In at a1)); (first | have a2 := in_u i10x2x9 | (have a2 := i10x2x9; unfold In at a2)); (first | have a3 := in_u ro_32_1 | (have a3 := ro_32_1; unfold In at a3)); (first | have a4 := in_u i10x2x9a | (have a4 := i10x2x9a; unfold In at a4)); (first | have a5 := in_u i1x5 | (have a5 := i1x5; unfold In at a5)); have oc := oc_242_0; omega⟩, by (first | have a0 := in_u i19x9 | (have a0 := i19x9; unfold In at a0)); (first | have a1 := in_u i10x10x9 | (have a1 := i10x10x9; unfold In at a1)); (first | have a2 := in_u i10x2x9 | (have a2 := i10x2x9; unfold In at a2)); (first | have a3 := in_u ro_32_1 | (have a3 := ro_32_1; unfold In at a3)); (first | have a4 := in_u i10x2x9a | (have a4 := i10x2x9a; unfold In at a4)); (first | have a5 := in_u i1x5 | (have a5 := i1x5; unfold In at a5)); have oc := oc_242_0; omega, by show x3.toInt < (s.2.2.1 2 1).toInt; rw [← e_2_1]; (first | have a0 := in_u i19x9 | (have a0 := i19x9; unfold In at a0)); (first | have a1 := in_u i10x10x9 | (have a1 := i10x10x9; unfold In at a1)); (first | have a2 := in_u i10x2x9 | (have a2 := i10x2x9; unfold In at a2)); (first | have a3 := in_u ro_32_1 | (have a3 := ro_32_1; unfold In at a3)); (first | have a4 := in_u i10x2x9a | (have a4 := i10x2x9a; unfold In at a4)); (first | have a5 := in_u i1x5 | (have a5 := i1x5; unfold In at a5)); have oc := oc_242_0; omega⟩, ?_⟩; (first | exact sdv_0 p41c e49 (bt_f0 (bt_ask e53 e55 i19x9) c56) rfl | exact sdv_1 p41c e49 (bt_t1 (bt_ask e53 e55 i19x9) c56) rfl)) | (rw [shC_d (by rw [← e1x1]; exact c1x5)]; refine ⟨⟨⟨⟨by (first | have a0 := in_u i19x9 | (have a0 := i19x9; unfold In at a0)); (first | have a1 := in_u i10x10x9 | (have a1 := i10x10x9; unfold In at a1)); (first | have a2 := in_u i10x2x9 | (have a2 := i10x2x9; unfold In at a2)); (first | have a3 := in_u ro_32_1 | (have a3 := ro_32_1; unfold In at a3)); (first | have a4 := in_u i10x2x9a | (have a4 := i10x2x9a; unfold In at a4)); (first | have a5 := in_u i1x5 | (have a5 := i1x5; unfold In at a5)); have oc := oc_242_0; omega, by show x1.toInt < (s.2.2.1 32 1).toInt; rw [← e_32_1]; (first | have a0 := in_u i19x9 | (have a0 := i19x9; unfold In at a0)); (first | have a1 := in_u i10x10x9 | (have a1 := i10x10x9; unfold In at a1)); (first | have a2 := in_u i10x2x9 | (have a2 := i10x2x9; unfold In at a2)); (first | have a3 := in_u ro_32_1 | (have a3 := ro_32_1; unfold In at a3)); (first | have a4 := in_u i10x2x9a | (have a4 := i10x2x9a; unfold In at a4)); (first | have a5 := in_u i1x5 | (have a5 := i1x5; unfold In at a5)); have oc := oc_242_0; omega⟩, ⟨by (first | have a0 := in_u i19x9 | (have a0 := i19x9; unfold In at a0)); (first | have a1 := in_u i10x10x9 | (have a1 := i10x10x9; unfold In at a1)); (first | have a2 := in_u i10x2x9 | (have a2 := i10x2x9; unfold In at a2)); (first | have a3 := in_u ro_32_1 | (have a3 := ro_32_1; unfold In at a3)); (first | have a4 := in_u i10x2x9a | (have a4 := i10x2x9a; unfold In at a4)); (first | have a5 := in_u i1x5 | (have a5 := i1x5; unfold In at a5)); have oc := oc_242_0; omega, by show x2.toInt < (s.2.2.1 32 1).toInt; rw [← e_32_1]; (first | have a0 := in_u i19x9 | (have a0 := i19x9; unfold In at a0)); (first | have a1 := in_u i10x10x9 | (have a1 := i10x10x9; unfold In at a1)); (first | have a2 := in_u i10x2x9 | (have a2 := i10x2x9; unfold In at a2)); (first | have a3 := in_u ro_32_1 | (have a3 := ro_32_1; unfold In at a3)); (first | have a4 := in_u i10x2x9a | (have a4 := i10x2x9a; unfold In at a4)); (first | have a5 := in_u i1x5 | (have a5 := i1x5; unfold In at a5)); have oc := oc_242_0; omega⟩, by (first | have a0 := in_u i19x9 | (have a0 := i19x9; unfold In at a0)); (first | have a1 := in_u i10x10x9 | (have a1 := i10x10x9; unfold In at a1)); (first | have a2 := in_u i10x2x9 | (have a2 := i10x2x9; unfold In at a2)); (first | have a3 := in_u ro_32_1 | (have a3 := ro_32_1; unfold In at a3)); (first | have a4 := in_u i10x2x9a | (have a4 := i10x2x9a; unfold In at a4)); (first | have a5 := in_u i1x5 | (have a5 := i1x5; unfold In at a5)); have oc := oc_242_0; omega⟩, by (first | have a0 := in_u i19x9 | (have a0 := i19x9; unfold In at a0)); (first | have a1 := in_u i10x10x9 | (have a1 := i10x10x9; unfold In at a1)); (first | have a2 := in_u i10x2x9 | (have a2 := i10x2x9; unfold In at a2)); (first | have a3 := in_u ro_32_1 | (have a3 := ro_32_1; unfold In at a3)); (first | have a4 := in_u i10x2x9a | (have a4 := i10x2x9a; unfold In at a4)); (first | have a5 := in_u i1x5 | (have a5 := i1x5; unfold In at a5)); have oc := oc_242_0; omega, by show x3.toInt < (s.2.2.1 32 1).toInt; rw [← e_32_1]; (first | have a0 := in_u i19x9 | (have a0 := i19x9; unfold In at a0)); (first | have a1 := in_u i10x10x9 | (have a1 := i10x10x9; unfold In at a1)); (first | have a2 := in_u i10x2x9 | (have a2 := i10x2x9; unfold In at a2)); (first | have a3 := in_u ro_32_1 | (have a3 := ro_32_1; unfold In at a3)); (first | have a4 := in_u i10x2x9a | (have a4 := i10x2x9a; unfold In at a4)); (first | have a5 := in_u i1x5 | (have a5 := i1x5; unfold In at a5)); have oc := oc_242_0; omega⟩, ?_⟩; (first | exact sdv_0 p41c e49 (bt_f0 (bt_ask e53 e55 i19x9) c56) rfl | exact sdv_1 p41c e49 (bt_t1 (bt_ask e53 e55 i19x9) c56) rfl))
                              have n64a : FLQ (shC s) s41 := by first | (rw [shC_n (by rw [← e1x1]; exact c1x5)]; exact p41c.1) | (rw [shC_d (by rw [← e1x1]; exact c1x5)]; exact p41c.1)
                              exact g_ireturn (gd rfl) rfl (nb01 (in_w 0 1 (in_c 1 rfl) rfl)) (hP _ _ ⟨s41, hI41, (fr_tr rfl fr_rf hF41), (Int32.ofInt 1), rfl, rfl, in_w 0 1 (in_c 1 rfl) rfl, n64, n64a⟩)
                          · skip
                            exact zn_eq c30 (in_c 1 rfl) rfl

theorem oc_87_65 : (Int32.ofInt (-1)).toInt = (-1) ∧ (Int32.ofInt 0).toInt = 0 ∧ (Int32.ofInt 1).toInt = 1 ∧ (Int32.ofInt 2).toInt = 2 ∧ (Int64.ofInt 9223372036854775807).toInt = 9223372036854775807 := ⟨rfl, rfl, rfl, rfl, rfl⟩
/-- GraphHouse$Flows.relaxPipe -/
theorem f_87_65 {Z : AmZ} {A : Nat → Nat} {s : GS} {ex : va_W} {d : Nat} {X : AmX} {x1 : Int32} {x2 : Int32} (hd : 1 ≤ d) (hI : Inv s) (h1 : In x1 0 159) (h2 : In x2 1 1048576) (q_0 : RPX s (x1).toNatClampNeg) : GC Z d 87 [.ref (A 65), .int x1, .int x2] (WW Z A s ++ ex) 0 0 (fun v u => ∃ t : GS, Inv t ∧ Fr fm_87_65 s t ∧ ∃ z : Int32, v = some (.int z) ∧ u = WW Z A t ++ ex ∧ In z 0 1 ∧ (RLP (netC s) (fiC s) (x2).toInt (x1).toNatClampNeg (faC s) (viC s) (faC t) (viC t) (z).toInt)) X := by
  intro post xp hP hX
  refine g_enter2 (k := 87) (N := 900) (by first | exact dq1 hd rfl | exact dq0 hd rfl | exact dq2 hd rfl | exact dq3 hd rfl | omega) rfl (Nat.le_of_ble_eq_true rfl) ?_
  refine g_aload_n 1 (gd rfl) rfl rfl ?_
  refine g_getA (q2 := 69) 4 (gd rfl) rfl rfl rfl rfl ?_
  refine g_iload_n 5 (gd rfl) rfl rfl ?_
  refine g_iaload 6 (gd rfl) rfl (n := 160) rfl (in_ix h1 rfl) (fun z5 e5 => ?_)
  have i5 := inv_I hI (n := 160) (t := 0) 0 31 rfl (in_ix h1 rfl) rfl e5
  refine g_istore_n 7 (gd rfl) rfl (Nat.le_of_ble_eq_true rfl) ?_
  refine g_aload_n 8 (gd rfl) rfl rfl ?_
  refine g_getA (q2 := 70) 11 (gd rfl) rfl rfl rfl rfl ?_
  refine g_iload_n 12 (gd rfl) rfl rfl ?_
  refine g_iaload 13 (gd rfl) rfl (n := 160) rfl (in_ix h1 rfl) (fun z12 e12 => ?_)
  have i12 := inv_I hI (n := 160) (t := 0) 0 31 rfl (in_ix h1 rfl) rfl e12
  refine g_istore 15 (gd rfl) rfl (Nat.le_of_ble_eq_true rfl) ?_
  refine g_aload_n 16 (gd rfl) rfl rfl ?_
  refine g_getA (q2 := 72) 19 (gd rfl) rfl rfl rfl rfl ?_
  refine g_iload_n 20 (gd rfl) rfl rfl ?_
  refine g_iaload 21 (gd rfl) rfl (n := 160) rfl (in_ix h1 rfl) (fun z20 e20 => ?_)
  have i20 := inv_I hI (n := 160) (t := 0) 0 1000000 rfl (in_ix h1 rfl) rfl e20
  refine g_aload_n 22 (gd rfl) rfl rfl ?_
  refine g_getA (q2 := 73) 25 (gd rfl) rfl rfl rfl rfl ?_
  refine g_iload_n 26 (gd rfl) rfl rfl ?_
  refine g_iaload 27 (gd rfl) rfl (n := 160) rfl (in_ix h1 rfl) (fun z26 e26 => ?_)
  refine g_isub 28 (gd rfl) rfl (fun z27 e27 => ?_)
  refine g_iload_n 29 (gd rfl) rfl rfl ?_
  refine g_cmp_lt 32 103 (gd rfl) rfl rfl (fun c29 => ?_) (fun c29 => ?_)
  · skip
    have i29 := r_lt1 (-2147483648) 1048575 c29 (i_rng z27) h2 rfl
    refine g_aload_n 104 (gd rfl) rfl rfl ?_
    refine g_getA (q2 := 73) 107 (gd rfl) rfl rfl rfl rfl ?_
    refine g_iload_n 108 (gd rfl) rfl rfl ?_
    refine g_iaload 109 (gd rfl) rfl (n := 160) rfl (in_ix h1 rfl) (fun z108 e108 => ?_)
    have q108 : z26 = z108 := (e26).trans e108.symm
    subst q108
    refine g_iload_n 110 (gd rfl) rfl rfl ?_
    refine g_cmp_lt 113 186 (gd rfl) rfl rfl (fun c110 => ?_) (fun c110 => ?_)
    · skip
      have i110 := r_lt1 (-2147483648) 1048575 c110 (i_rng z26) h2 rfl
      refine g_iconst 0 187 (gd rfl) rfl rfl ?_
      have n187 : RLP (netC s) (fiC s) (x2).toInt (x1).toNatClampNeg (faC s) (viC s) (faC s) (viC s) ((Int32.ofInt 0)).toInt := by exact (show RLP _ _ _ _ _ _ _ _ 0 from rlp_n (fwn_1 e20 e26 e27 i20 q_0 c29) (bwn_1 e26 c110))
      exact g_ireturn (gd rfl) rfl (nb01 (in_w 0 1 (in_c 0 rfl) rfl)) (hP _ _ ⟨s, hI, fr_rf, (Int32.ofInt 0), rfl, rfl, in_w 0 1 (in_c 0 rfl) rfl, n187⟩)
    · skip
      have i110 := r_le2 1 2147483647 c110 h2 (i_rng z26) rfl
      refine g_aload_n 114 (gd rfl) rfl rfl ?_
      refine g_getA (q2 := 75) 117 (gd rfl) rfl rfl rfl rfl ?_
      refine g_iload 119 (gd rfl) rfl rfl ?_
      refine g_laload 120 (gd rfl) rfl (n := 32) rfl (in_ix i12 rfl) (fun z119 e119 => ?_)
      refine g_ldc2_w 9223372036854775807 123 (gd rfl) rfl rfl ?_
      refine g_lcmp 124 (gd rfl) rfl (fun z123 e123 => ?_)
      have i123 := lc_in e123
      refine g_if_eq 127 186 (gd rfl) rfl rfl (fun c124 => ?_) (fun c124 => ?_)
      · skip
        have i124 := z_eq 0 0 c124 i123 rfl
        have c124a := lc_eq e123 c124
        have i124a := lr_eq1 9223372036854775807 9223372036854775807 c124a (l_rng z119) (l_c 9223372036854775807 rfl) rfl
        refine g_iconst 0 187 (gd rfl) rfl rfl ?_
        have n187 : RLP (netC s) (fiC s) (x2).toInt (x1).toNatClampNeg (faC s) (viC s) (faC s) (viC s) ((Int32.ofInt 0)).toInt := by exact (show RLP _ _ _ _ _ _ _ _ 0 from rlp_n (fwn_1 e20 e26 e27 i20 q_0 c29) (bwn_2 e12 e119 c124a))
        exact g_ireturn (gd rfl) rfl (nb01 (in_w 0 1 (in_c 0 rfl) rfl)) (hP _ _ ⟨s, hI, fr_rf, (Int32.ofInt 0), rfl, rfl, in_w 0 1 (in_c 0 rfl) rfl, n187⟩)
      · skip
        have c124a := lc_ne e123 c124
        have i124 := lr_ne1 (-9223372036854775808) 9223372036854775806 c124a (l_rng z119) (l_c 9223372036854775807 rfl) rfl
        refine g_aload_n 128 (gd rfl) rfl rfl ?_
        refine g_getA (q2 := 75) 131 (gd rfl) rfl rfl rfl rfl ?_
        refine g_iload 133 (gd rfl) rfl rfl ?_
        refine g_laload 134 (gd rfl) rfl (n := 32) rfl (in_ix i12 rfl) (fun z133 e133 => ?_)
        refine g_aload_n 135 (gd rfl) rfl rfl ?_
        refine g_getA (q2 := 71) 138 (gd rfl) rfl rfl rfl rfl ?_
        refine g_iload_n 139 (gd rfl) rfl rfl ?_
        refine g_iaload 140 (gd rfl) rfl (n := 160) rfl (in_ix h1 rfl) (fun z139 e139 => ?_)
        have i139 := inv_I hI (n := 160) (t := 0) (-1000000) 1000000 rfl (in_ix h1 rfl) rfl e139
        refine g_i2l 141 (gd rfl) rfl (fun z140 e140 => ?_)
        have i140 := l_i e140 i139
        refine g_lsub 142 (gd rfl) rfl (fun z141 e141 => ?_)
        refine g_aload_n 143 (gd rfl) rfl rfl ?_
        refine g_getA (q2 := 75) 146 (gd rfl) rfl rfl rfl rfl ?_
        refine g_iload_n 147 (gd rfl) rfl rfl ?_
        refine g_laload 148 (gd rfl) rfl (n := 32) rfl (in_ix i5 rfl) (fun z147 e147 => ?_)
        refine g_lcmp 149 (gd rfl) rfl (fun z148 e148 => ?_)
        have i148 := lc_in e148
        refine g_if_ge 152 186 (gd rfl) rfl rfl (fun c149 => ?_) (fun c149 => ?_)
        · skip
          have i149 := z_ge 0 1 c149 i148 rfl
          have c149a := lc_ge e148 c149
          refine g_iconst 0 187 (gd rfl) rfl rfl ?_
          have n187 : RLP (netC s) (fiC s) (x2).toInt (x1).toNatClampNeg (faC s) (viC s) (faC s) (viC s) ((Int32.ofInt 0)).toInt := by exact (show RLP _ _ _ _ _ _ _ _ 0 from rlp_n (fwn_1 e20 e26 e27 i20 q_0 c29) (bwn_3 q_0 e5 e12 e139 i139 e133 e140 e141 e147 c149a))
          exact g_ireturn (gd rfl) rfl (nb01 (in_w 0 1 (in_c 0 rfl) rfl)) (hP _ _ ⟨s, hI, fr_rf, (Int32.ofInt 0), rfl, rfl, in_w 0 1 (in_c 0 rfl) rfl, n187⟩)
        · skip
          have i149 := z_lt (-1) (-1) c149 i148 rfl
          have c149a := lc_lt e148 c149
          have i149a := lr_lt1 (-9223372036854775808) 9223372036854775806 c149a (l_rng z141) (l_rng z147) rfl
          have i149b := lr_lt2 (-9223372036854775807) 9223372036854775807 c149a (l_rng z141) (l_rng z147) rfl
          refine g_aload_n 153 (gd rfl) rfl rfl ?_
          refine g_getA (q2 := 75) 156 (gd rfl) rfl rfl rfl rfl ?_
          refine g_iload_n 157 (gd rfl) rfl rfl ?_
          refine g_aload_n 158 (gd rfl) rfl rfl ?_
          refine g_getA (q2 := 75) 161 (gd rfl) rfl rfl rfl rfl ?_
          refine g_iload 163 (gd rfl) rfl rfl ?_
          refine g_laload 164 (gd rfl) rfl (n := 32) rfl (in_ix i12 rfl) (fun z163 e163 => ?_)
          refine g_aload_n 165 (gd rfl) rfl rfl ?_
          refine g_getA (q2 := 71) 168 (gd rfl) rfl rfl rfl rfl ?_
          refine g_iload_n 169 (gd rfl) rfl rfl ?_
          refine g_iaload 170 (gd rfl) rfl (n := 160) rfl (in_ix h1 rfl) (fun z169 e169 => ?_)
          have q169 : z139 = z169 := (e139).trans e169.symm
          subst q169
          refine g_i2l 171 (gd rfl) rfl (fun z170 e170 => ?_)
          have i170 := l_i e170 i139
          refine g_lsub 172 (gd rfl) rfl (fun z171 e171 => ?_)
          refine g_lastore 173 (gd rfl) rfl (n := 32) rfl (in_ix i5 rfl) ?_
          have hI172 := inv_sL (q := 75) (j := z5.toNatClampNeg) (x := z171) hI rfl (l_rng z171)
          refine g_aload_n 174 (gd rfl) rfl rfl ?_
          refine g_getA (q2 := 68) 177 (gd rfl) rfl rfl rfl rfl ?_
          refine g_iload_n 178 (gd rfl) rfl rfl ?_
          refine g_iconst 2 179 (gd rfl) rfl rfl ?_
          refine g_iload_n 180 (gd rfl) rfl rfl ?_
          refine g_imul 181 (gd rfl) rfl (fun z180 e180 => ?_)
          have i180 := in_mulc 2 0 318 (Or.inl e180) h1 rfl rfl
          refine g_iconst 1 182 (gd rfl) rfl rfl ?_
          refine g_iadd 183 (gd rfl) rfl (fun z182 e182 => ?_)
          have i182 := in_add 1 319 e182 i180 (in_c 1 rfl) rfl rfl
          refine g_iastore 184 (gd rfl) rfl (n := 32) rfl (in_ix i5 rfl) ?_
          have hI183 := inv_sI (q := 68) (j := z5.toNatClampNeg) hI172 rfl (in_w (-1) 319 i182 rfl)
          refine g_iconst 1 185 (gd rfl) rfl rfl ?_
          have n185 : RLP (netC s) (fiC s) (x2).toInt (x1).toNatClampNeg (faC s) (viC s) (faC (sI (sL s 75 z5.toNatClampNeg z171) 68 z5.toNatClampNeg z182)) (viC (sI (sL s 75 z5.toNatClampNeg z171) 68 z5.toNatClampNeg z182)) ((Int32.ofInt 1)).toInt := by exact (show RLP _ _ _ _ _ _ _ _ 1 from rlp_b q_0 (fwn_1 e20 e26 e27 i20 q_0 c29) e5 e12 e139 i139 e26 c110 e119 c124a e133 e140 e141 e147 c149a e163 e170 e171 sL_qn (by rw [sI_q]; rfl) (show (z182).toInt = 2 * (((x1).toNatClampNeg : Nat) : Int) + 1 from (by rw [clx h1.1]; (first | have a0 := in_u h2 | (have a0 := h2; unfold In at a0)); (first | have a1 := in_u h1 | (have a1 := h1; unfold In at a1)); (first | have a2 := in_u i12 | (have a2 := i12; unfold In at a2)); (first | have a3 := in_u i5 | (have a3 := i5; unfold In at a3)); (first | have a4 := in_u i182 | (have a4 := i182; unfold In at a4)); have a5 := t_add e182 i180 (in_c 1 rfl) rfl; (first | have a6 := in_u ((in_c 1 rfl)) | (have a6 := (in_c 1 rfl); unfold In at a6)); (first | have a7 := in_u i180 | (have a7 := i180; unfold In at a7)); have a8 := (t_mulc 2 (Or.inl e180) h1 rfl).1; have a9 := tx_i2l e170; (first | have a10 := in_u i139 | (have a10 := i139; unfold In at a10)); have a11 := tx_i2l e140; have oc := oc_87_65; omega)))
          exact g_ireturn (gd rfl) rfl (nb01 (in_w 0 1 (in_c 1 rfl) rfl)) (hP _ _ ⟨(sI (sL s 75 z5.toNatClampNeg z171) 68 z5.toNatClampNeg z182), hI183, (fr_sI rfl (fr_sL rfl fr_rf)), (Int32.ofInt 1), rfl, rfl, in_w 0 1 (in_c 1 rfl) rfl, n185⟩)
  · skip
    have i29 := r_le2 1 2147483647 c29 h2 (i_rng z27) rfl
    refine g_aload_n 33 (gd rfl) rfl rfl ?_
    refine g_getA (q2 := 75) 36 (gd rfl) rfl rfl rfl rfl ?_
    refine g_iload_n 37 (gd rfl) rfl rfl ?_
    refine g_laload 38 (gd rfl) rfl (n := 32) rfl (in_ix i5 rfl) (fun z37 e37 => ?_)
    refine g_ldc2_w 9223372036854775807 41 (gd rfl) rfl rfl ?_
    refine g_lcmp 42 (gd rfl) rfl (fun z41 e41 => ?_)
    have i41 := lc_in e41
    refine g_if_eq 45 103 (gd rfl) rfl rfl (fun c42 => ?_) (fun c42 => ?_)
    · skip
      have i42 := z_eq 0 0 c42 i41 rfl
      have c42a := lc_eq e41 c42
      have i42a := lr_eq1 9223372036854775807 9223372036854775807 c42a (l_rng z37) (l_c 9223372036854775807 rfl) rfl
      refine g_aload_n 104 (gd rfl) rfl rfl ?_
      refine g_getA (q2 := 73) 107 (gd rfl) rfl rfl rfl rfl ?_
      refine g_iload_n 108 (gd rfl) rfl rfl ?_
      refine g_iaload 109 (gd rfl) rfl (n := 160) rfl (in_ix h1 rfl) (fun z108 e108 => ?_)
      have q108 : z26 = z108 := (e26).trans e108.symm
      subst q108
      refine g_iload_n 110 (gd rfl) rfl rfl ?_
      refine g_cmp_lt 113 186 (gd rfl) rfl rfl (fun c110 => ?_) (fun c110 => ?_)
      · skip
        have i110 := r_lt1 (-2147483648) 1048575 c110 (i_rng z26) h2 rfl
        refine g_iconst 0 187 (gd rfl) rfl rfl ?_
        have n187 : RLP (netC s) (fiC s) (x2).toInt (x1).toNatClampNeg (faC s) (viC s) (faC s) (viC s) ((Int32.ofInt 0)).toInt := by exact (show RLP _ _ _ _ _ _ _ _ 0 from rlp_n (fwn_2 e5 e37 c42a) (bwn_1 e26 c110))
        exact g_ireturn (gd rfl) rfl (nb01 (in_w 0 1 (in_c 0 rfl) rfl)) (hP _ _ ⟨s, hI, fr_rf, (Int32.ofInt 0), rfl, rfl, in_w 0 1 (in_c 0 rfl) rfl, n187⟩)
      · skip
        have i110 := r_le2 1 2147483647 c110 h2 (i_rng z26) rfl
        refine g_aload_n 114 (gd rfl) rfl rfl ?_
        refine g_getA (q2 := 75) 117 (gd rfl) rfl rfl rfl rfl ?_
        refine g_iload 119 (gd rfl) rfl rfl ?_
        refine g_laload 120 (gd rfl) rfl (n := 32) rfl (in_ix i12 rfl) (fun z119 e119 => ?_)
        refine g_ldc2_w 9223372036854775807 123 (gd rfl) rfl rfl ?_
        refine g_lcmp 124 (gd rfl) rfl (fun z123 e123 => ?_)
        have i123 := lc_in e123
        refine g_if_eq 127 186 (gd rfl) rfl rfl (fun c124 => ?_) (fun c124 => ?_)
        · skip
          have i124 := z_eq 0 0 c124 i123 rfl
          have c124a := lc_eq e123 c124
          have i124a := lr_eq1 9223372036854775807 9223372036854775807 c124a (l_rng z119) (l_c 9223372036854775807 rfl) rfl
          refine g_iconst 0 187 (gd rfl) rfl rfl ?_
          have n187 : RLP (netC s) (fiC s) (x2).toInt (x1).toNatClampNeg (faC s) (viC s) (faC s) (viC s) ((Int32.ofInt 0)).toInt := by exact (show RLP _ _ _ _ _ _ _ _ 0 from rlp_n (fwn_2 e5 e37 c42a) (bwn_2 e12 e119 c124a))
          exact g_ireturn (gd rfl) rfl (nb01 (in_w 0 1 (in_c 0 rfl) rfl)) (hP _ _ ⟨s, hI, fr_rf, (Int32.ofInt 0), rfl, rfl, in_w 0 1 (in_c 0 rfl) rfl, n187⟩)
        · skip
          have c124a := lc_ne e123 c124
          have i124 := lr_ne1 (-9223372036854775808) 9223372036854775806 c124a (l_rng z119) (l_c 9223372036854775807 rfl) rfl
          refine g_aload_n 128 (gd rfl) rfl rfl ?_
          refine g_getA (q2 := 75) 131 (gd rfl) rfl rfl rfl rfl ?_
          refine g_iload 133 (gd rfl) rfl rfl ?_
          refine g_laload 134 (gd rfl) rfl (n := 32) rfl (in_ix i12 rfl) (fun z133 e133 => ?_)
          refine g_aload_n 135 (gd rfl) rfl rfl ?_
          refine g_getA (q2 := 71) 138 (gd rfl) rfl rfl rfl rfl ?_
          refine g_iload_n 139 (gd rfl) rfl rfl ?_
          refine g_iaload 140 (gd rfl) rfl (n := 160) rfl (in_ix h1 rfl) (fun z139 e139 => ?_)
          have i139 := inv_I hI (n := 160) (t := 0) (-1000000) 1000000 rfl (in_ix h1 rfl) rfl e139
          refine g_i2l 141 (gd rfl) rfl (fun z140 e140 => ?_)
          have i140 := l_i e140 i139
          refine g_lsub 142 (gd rfl) rfl (fun z141 e141 => ?_)
          refine g_aload_n 143 (gd rfl) rfl rfl ?_
          refine g_getA (q2 := 75) 146 (gd rfl) rfl rfl rfl rfl ?_
          refine g_iload_n 147 (gd rfl) rfl rfl ?_
          refine g_laload 148 (gd rfl) rfl (n := 32) rfl (in_ix i5 rfl) (fun z147 e147 => ?_)
          refine g_lcmp 149 (gd rfl) rfl (fun z148 e148 => ?_)
          have i148 := lc_in e148
          refine g_if_ge 152 186 (gd rfl) rfl rfl (fun c149 => ?_) (fun c149 => ?_)
          · skip
            have i149 := z_ge 0 1 c149 i148 rfl
            have c149a := lc_ge e148 c149
            refine g_iconst 0 187 (gd rfl) rfl rfl ?_
            have n187 : RLP (netC s) (fiC s) (x2).toInt (x1).toNatClampNeg (faC s) (viC s) (faC s) (viC s) ((Int32.ofInt 0)).toInt := by exact (show RLP _ _ _ _ _ _ _ _ 0 from rlp_n (fwn_2 e5 e37 c42a) (bwn_3 q_0 e5 e12 e139 i139 e133 e140 e141 e147 c149a))
            exact g_ireturn (gd rfl) rfl (nb01 (in_w 0 1 (in_c 0 rfl) rfl)) (hP _ _ ⟨s, hI, fr_rf, (Int32.ofInt 0), rfl, rfl, in_w 0 1 (in_c 0 rfl) rfl, n187⟩)
          · skip
            have i149 := z_lt (-1) (-1) c149 i148 rfl
            have c149a := lc_lt e148 c149
            have i149a := lr_lt1 (-9223372036854775808) 9223372036854775806 c149a (l_rng z141) (l_rng z147) rfl
            have i149b := lr_lt2 (-9223372036854775807) 9223372036854775807 c149a (l_rng z141) (l_rng z147) rfl
            refine g_aload_n 153 (gd rfl) rfl rfl ?_
            refine g_getA (q2 := 75) 156 (gd rfl) rfl rfl rfl rfl ?_
            refine g_iload_n 157 (gd rfl) rfl rfl ?_
            refine g_aload_n 158 (gd rfl) rfl rfl ?_
            refine g_getA (q2 := 75) 161 (gd rfl) rfl rfl rfl rfl ?_
            refine g_iload 163 (gd rfl) rfl rfl ?_
            refine g_laload 164 (gd rfl) rfl (n := 32) rfl (in_ix i12 rfl) (fun z163 e163 => ?_)
            refine g_aload_n 165 (gd rfl) rfl rfl ?_
            refine g_getA (q2 := 71) 168 (gd rfl) rfl rfl rfl rfl ?_
            refine g_iload_n 169 (gd rfl) rfl rfl ?_
            refine g_iaload 170 (gd rfl) rfl (n := 160) rfl (in_ix h1 rfl) (fun z169 e169 => ?_)
            have q169 : z139 = z169 := (e139).trans e169.symm
            subst q169
            refine g_i2l 171 (gd rfl) rfl (fun z170 e170 => ?_)
            have i170 := l_i e170 i139
            refine g_lsub 172 (gd rfl) rfl (fun z171 e171 => ?_)
            refine g_lastore 173 (gd rfl) rfl (n := 32) rfl (in_ix i5 rfl) ?_
            have hI172 := inv_sL (q := 75) (j := z5.toNatClampNeg) (x := z171) hI rfl (l_rng z171)
            refine g_aload_n 174 (gd rfl) rfl rfl ?_
            refine g_getA (q2 := 68) 177 (gd rfl) rfl rfl rfl rfl ?_
            refine g_iload_n 178 (gd rfl) rfl rfl ?_
            refine g_iconst 2 179 (gd rfl) rfl rfl ?_
            refine g_iload_n 180 (gd rfl) rfl rfl ?_
            refine g_imul 181 (gd rfl) rfl (fun z180 e180 => ?_)
            have i180 := in_mulc 2 0 318 (Or.inl e180) h1 rfl rfl
            refine g_iconst 1 182 (gd rfl) rfl rfl ?_
            refine g_iadd 183 (gd rfl) rfl (fun z182 e182 => ?_)
            have i182 := in_add 1 319 e182 i180 (in_c 1 rfl) rfl rfl
            refine g_iastore 184 (gd rfl) rfl (n := 32) rfl (in_ix i5 rfl) ?_
            have hI183 := inv_sI (q := 68) (j := z5.toNatClampNeg) hI172 rfl (in_w (-1) 319 i182 rfl)
            refine g_iconst 1 185 (gd rfl) rfl rfl ?_
            have n185 : RLP (netC s) (fiC s) (x2).toInt (x1).toNatClampNeg (faC s) (viC s) (faC (sI (sL s 75 z5.toNatClampNeg z171) 68 z5.toNatClampNeg z182)) (viC (sI (sL s 75 z5.toNatClampNeg z171) 68 z5.toNatClampNeg z182)) ((Int32.ofInt 1)).toInt := by exact (show RLP _ _ _ _ _ _ _ _ 1 from rlp_b q_0 (fwn_2 e5 e37 c42a) e5 e12 e139 i139 e26 c110 e119 c124a e133 e140 e141 e147 c149a e163 e170 e171 sL_qn (by rw [sI_q]; rfl) (show (z182).toInt = 2 * (((x1).toNatClampNeg : Nat) : Int) + 1 from (by rw [clx h1.1]; (first | have a0 := in_u h2 | (have a0 := h2; unfold In at a0)); (first | have a1 := in_u h1 | (have a1 := h1; unfold In at a1)); (first | have a2 := in_u i12 | (have a2 := i12; unfold In at a2)); (first | have a3 := in_u i5 | (have a3 := i5; unfold In at a3)); (first | have a4 := in_u i182 | (have a4 := i182; unfold In at a4)); have a5 := t_add e182 i180 (in_c 1 rfl) rfl; (first | have a6 := in_u ((in_c 1 rfl)) | (have a6 := (in_c 1 rfl); unfold In at a6)); (first | have a7 := in_u i180 | (have a7 := i180; unfold In at a7)); have a8 := (t_mulc 2 (Or.inl e180) h1 rfl).1; have a9 := tx_i2l e170; (first | have a10 := in_u i139 | (have a10 := i139; unfold In at a10)); have a11 := tx_i2l e140; have oc := oc_87_65; omega)))
            exact g_ireturn (gd rfl) rfl (nb01 (in_w 0 1 (in_c 1 rfl) rfl)) (hP _ _ ⟨(sI (sL s 75 z5.toNatClampNeg z171) 68 z5.toNatClampNeg z182), hI183, (fr_sI rfl (fr_sL rfl fr_rf)), (Int32.ofInt 1), rfl, rfl, in_w 0 1 (in_c 1 rfl) rfl, n185⟩)
    · skip
      have c42a := lc_ne e41 c42
      have i42 := lr_ne1 (-9223372036854775808) 9223372036854775806 c42a (l_rng z37) (l_c 9223372036854775807 rfl) rfl
      refine g_aload_n 46 (gd rfl) rfl rfl ?_
      refine g_getA (q2 := 75) 49 (gd rfl) rfl rfl rfl rfl ?_
      refine g_iload_n 50 (gd rfl) rfl rfl ?_
      refine g_laload 51 (gd rfl) rfl (n := 32) rfl (in_ix i5 rfl) (fun z50 e50 => ?_)
      refine g_aload_n 52 (gd rfl) rfl rfl ?_
      refine g_getA (q2 := 71) 55 (gd rfl) rfl rfl rfl rfl ?_
      refine g_iload_n 56 (gd rfl) rfl rfl ?_
      refine g_iaload 57 (gd rfl) rfl (n := 160) rfl (in_ix h1 rfl) (fun z56 e56 => ?_)
      have i56 := inv_I hI (n := 160) (t := 0) (-1000000) 1000000 rfl (in_ix h1 rfl) rfl e56
      refine g_i2l 58 (gd rfl) rfl (fun z57 e57 => ?_)
      have i57 := l_i e57 i56
      refine g_ladd 59 (gd rfl) rfl (fun z58 e58 => ?_)
      refine g_aload_n 60 (gd rfl) rfl rfl ?_
      refine g_getA (q2 := 75) 63 (gd rfl) rfl rfl rfl rfl ?_
      refine g_iload 65 (gd rfl) rfl rfl ?_
      refine g_laload 66 (gd rfl) rfl (n := 32) rfl (in_ix i12 rfl) (fun z65 e65 => ?_)
      refine g_lcmp 67 (gd rfl) rfl (fun z66 e66 => ?_)
      have i66 := lc_in e66
      refine g_if_ge 70 103 (gd rfl) rfl rfl (fun c67 => ?_) (fun c67 => ?_)
      · skip
        have i67 := z_ge 0 1 c67 i66 rfl
        have c67a := lc_ge e66 c67
        refine g_aload_n 104 (gd rfl) rfl rfl ?_
        refine g_getA (q2 := 73) 107 (gd rfl) rfl rfl rfl rfl ?_
        refine g_iload_n 108 (gd rfl) rfl rfl ?_
        refine g_iaload 109 (gd rfl) rfl (n := 160) rfl (in_ix h1 rfl) (fun z108 e108 => ?_)
        have q108 : z26 = z108 := (e26).trans e108.symm
        subst q108
        refine g_iload_n 110 (gd rfl) rfl rfl ?_
        refine g_cmp_lt 113 186 (gd rfl) rfl rfl (fun c110 => ?_) (fun c110 => ?_)
        · skip
          have i110 := r_lt1 (-2147483648) 1048575 c110 (i_rng z26) h2 rfl
          refine g_iconst 0 187 (gd rfl) rfl rfl ?_
          have n187 : RLP (netC s) (fiC s) (x2).toInt (x1).toNatClampNeg (faC s) (viC s) (faC s) (viC s) ((Int32.ofInt 0)).toInt := by exact (show RLP _ _ _ _ _ _ _ _ 0 from rlp_n (fwn_3 q_0 e5 e12 e56 i56 e50 e57 e58 e65 c67a) (bwn_1 e26 c110))
          exact g_ireturn (gd rfl) rfl (nb01 (in_w 0 1 (in_c 0 rfl) rfl)) (hP _ _ ⟨s, hI, fr_rf, (Int32.ofInt 0), rfl, rfl, in_w 0 1 (in_c 0 rfl) rfl, n187⟩)
        · skip
          have i110 := r_le2 1 2147483647 c110 h2 (i_rng z26) rfl
          refine g_aload_n 114 (gd rfl) rfl rfl ?_
          refine g_getA (q2 := 75) 117 (gd rfl) rfl rfl rfl rfl ?_
          refine g_iload 119 (gd rfl) rfl rfl ?_
          refine g_laload 120 (gd rfl) rfl (n := 32) rfl (in_ix i12 rfl) (fun z119 e119 => ?_)
          refine g_ldc2_w 9223372036854775807 123 (gd rfl) rfl rfl ?_
          refine g_lcmp 124 (gd rfl) rfl (fun z123 e123 => ?_)
          have i123 := lc_in e123
          refine g_if_eq 127 186 (gd rfl) rfl rfl (fun c124 => ?_) (fun c124 => ?_)
          · skip
            have i124 := z_eq 0 0 c124 i123 rfl
            have c124a := lc_eq e123 c124
            have i124a := lr_eq1 9223372036854775807 9223372036854775807 c124a (l_rng z119) (l_c 9223372036854775807 rfl) rfl
            refine g_iconst 0 187 (gd rfl) rfl rfl ?_
            have n187 : RLP (netC s) (fiC s) (x2).toInt (x1).toNatClampNeg (faC s) (viC s) (faC s) (viC s) ((Int32.ofInt 0)).toInt := by exact (show RLP _ _ _ _ _ _ _ _ 0 from rlp_n (fwn_3 q_0 e5 e12 e56 i56 e50 e57 e58 e65 c67a) (bwn_2 e12 e119 c124a))
            exact g_ireturn (gd rfl) rfl (nb01 (in_w 0 1 (in_c 0 rfl) rfl)) (hP _ _ ⟨s, hI, fr_rf, (Int32.ofInt 0), rfl, rfl, in_w 0 1 (in_c 0 rfl) rfl, n187⟩)
          · skip
            have c124a := lc_ne e123 c124
            have i124 := lr_ne1 (-9223372036854775808) 9223372036854775806 c124a (l_rng z119) (l_c 9223372036854775807 rfl) rfl
            refine g_aload_n 128 (gd rfl) rfl rfl ?_
            refine g_getA (q2 := 75) 131 (gd rfl) rfl rfl rfl rfl ?_
            refine g_iload 133 (gd rfl) rfl rfl ?_
            refine g_laload 134 (gd rfl) rfl (n := 32) rfl (in_ix i12 rfl) (fun z133 e133 => ?_)
            refine g_aload_n 135 (gd rfl) rfl rfl ?_
            refine g_getA (q2 := 71) 138 (gd rfl) rfl rfl rfl rfl ?_
            refine g_iload_n 139 (gd rfl) rfl rfl ?_
            refine g_iaload 140 (gd rfl) rfl (n := 160) rfl (in_ix h1 rfl) (fun z139 e139 => ?_)
            have q139 : z56 = z139 := (e56).trans e139.symm
            subst q139
            refine g_i2l 141 (gd rfl) rfl (fun z140 e140 => ?_)
            have i140 := l_i e140 i56
            refine g_lsub 142 (gd rfl) rfl (fun z141 e141 => ?_)
            refine g_aload_n 143 (gd rfl) rfl rfl ?_
            refine g_getA (q2 := 75) 146 (gd rfl) rfl rfl rfl rfl ?_
            refine g_iload_n 147 (gd rfl) rfl rfl ?_
            refine g_laload 148 (gd rfl) rfl (n := 32) rfl (in_ix i5 rfl) (fun z147 e147 => ?_)
            refine g_lcmp 149 (gd rfl) rfl (fun z148 e148 => ?_)
            have i148 := lc_in e148
            refine g_if_ge 152 186 (gd rfl) rfl rfl (fun c149 => ?_) (fun c149 => ?_)
            · skip
              have i149 := z_ge 0 1 c149 i148 rfl
              have c149a := lc_ge e148 c149
              refine g_iconst 0 187 (gd rfl) rfl rfl ?_
              have n187 : RLP (netC s) (fiC s) (x2).toInt (x1).toNatClampNeg (faC s) (viC s) (faC s) (viC s) ((Int32.ofInt 0)).toInt := by exact (show RLP _ _ _ _ _ _ _ _ 0 from rlp_n (fwn_3 q_0 e5 e12 e56 i56 e50 e57 e58 e65 c67a) (bwn_3 q_0 e5 e12 e56 i56 e133 e140 e141 e147 c149a))
              exact g_ireturn (gd rfl) rfl (nb01 (in_w 0 1 (in_c 0 rfl) rfl)) (hP _ _ ⟨s, hI, fr_rf, (Int32.ofInt 0), rfl, rfl, in_w 0 1 (in_c 0 rfl) rfl, n187⟩)
            · skip
              have i149 := z_lt (-1) (-1) c149 i148 rfl
              have c149a := lc_lt e148 c149
              have i149a := lr_lt1 (-9223372036854775808) 9223372036854775806 c149a (l_rng z141) (l_rng z147) rfl
              have i149b := lr_lt2 (-9223372036854775807) 9223372036854775807 c149a (l_rng z141) (l_rng z147) rfl
              refine g_aload_n 153 (gd rfl) rfl rfl ?_
              refine g_getA (q2 := 75) 156 (gd rfl) rfl rfl rfl rfl ?_
              refine g_iload_n 157 (gd rfl) rfl rfl ?_
              refine g_aload_n 158 (gd rfl) rfl rfl ?_
              refine g_getA (q2 := 75) 161 (gd rfl) rfl rfl rfl rfl ?_
              refine g_iload 163 (gd rfl) rfl rfl ?_
              refine g_laload 164 (gd rfl) rfl (n := 32) rfl (in_ix i12 rfl) (fun z163 e163 => ?_)
              refine g_aload_n 165 (gd rfl) rfl rfl ?_
              refine g_getA (q2 := 71) 168 (gd rfl) rfl rfl rfl rfl ?_
              refine g_iload_n 169 (gd rfl) rfl rfl ?_
              refine g_iaload 170 (gd rfl) rfl (n := 160) rfl (in_ix h1 rfl) (fun z169 e169 => ?_)
              have q169 : z56 = z169 := (e56).trans e169.symm
              subst q169
              refine g_i2l 171 (gd rfl) rfl (fun z170 e170 => ?_)
              have i170 := l_i e170 i56
              refine g_lsub 172 (gd rfl) rfl (fun z171 e171 => ?_)
              refine g_lastore 173 (gd rfl) rfl (n := 32) rfl (in_ix i5 rfl) ?_
              have hI172 := inv_sL (q := 75) (j := z5.toNatClampNeg) (x := z171) hI rfl (l_rng z171)
              refine g_aload_n 174 (gd rfl) rfl rfl ?_
              refine g_getA (q2 := 68) 177 (gd rfl) rfl rfl rfl rfl ?_
              refine g_iload_n 178 (gd rfl) rfl rfl ?_
              refine g_iconst 2 179 (gd rfl) rfl rfl ?_
              refine g_iload_n 180 (gd rfl) rfl rfl ?_
              refine g_imul 181 (gd rfl) rfl (fun z180 e180 => ?_)
              have i180 := in_mulc 2 0 318 (Or.inl e180) h1 rfl rfl
              refine g_iconst 1 182 (gd rfl) rfl rfl ?_
              refine g_iadd 183 (gd rfl) rfl (fun z182 e182 => ?_)
              have i182 := in_add 1 319 e182 i180 (in_c 1 rfl) rfl rfl
              refine g_iastore 184 (gd rfl) rfl (n := 32) rfl (in_ix i5 rfl) ?_
              have hI183 := inv_sI (q := 68) (j := z5.toNatClampNeg) hI172 rfl (in_w (-1) 319 i182 rfl)
              refine g_iconst 1 185 (gd rfl) rfl rfl ?_
              have n185 : RLP (netC s) (fiC s) (x2).toInt (x1).toNatClampNeg (faC s) (viC s) (faC (sI (sL s 75 z5.toNatClampNeg z171) 68 z5.toNatClampNeg z182)) (viC (sI (sL s 75 z5.toNatClampNeg z171) 68 z5.toNatClampNeg z182)) ((Int32.ofInt 1)).toInt := by exact (show RLP _ _ _ _ _ _ _ _ 1 from rlp_b q_0 (fwn_3 q_0 e5 e12 e56 i56 e50 e57 e58 e65 c67a) e5 e12 e56 i56 e26 c110 e119 c124a e133 e140 e141 e147 c149a e163 e170 e171 sL_qn (by rw [sI_q]; rfl) (show (z182).toInt = 2 * (((x1).toNatClampNeg : Nat) : Int) + 1 from (by rw [clx h1.1]; (first | have a0 := in_u h2 | (have a0 := h2; unfold In at a0)); (first | have a1 := in_u h1 | (have a1 := h1; unfold In at a1)); (first | have a2 := in_u i12 | (have a2 := i12; unfold In at a2)); (first | have a3 := in_u i5 | (have a3 := i5; unfold In at a3)); (first | have a4 := in_u i182 | (have a4 := i182; unfold In at a4)); have a5 := t_add e182 i180 (in_c 1 rfl) rfl; (first | have a6 := in_u ((in_c 1 rfl)) | (have a6 := (in_c 1 rfl); unfold In at a6)); (first | have a7 := in_u i180 | (have a7 := i180; unfold In at a7)); have a8 := (t_mulc 2 (Or.inl e180) h1 rfl).1; have a9 := tx_i2l e170; (first | have a10 := in_u i56 | (have a10 := i56; unfold In at a10)); have a11 := tx_i2l e140; have a12 := tx_i2l e57; have oc := oc_87_65; omega)))
              exact g_ireturn (gd rfl) rfl (nb01 (in_w 0 1 (in_c 1 rfl) rfl)) (hP _ _ ⟨(sI (sL s 75 z5.toNatClampNeg z171) 68 z5.toNatClampNeg z182), hI183, (fr_sI rfl (fr_sL rfl fr_rf)), (Int32.ofInt 1), rfl, rfl, in_w 0 1 (in_c 1 rfl) rfl, n185⟩)
      · skip
        have i67 := z_lt (-1) (-1) c67 i66 rfl
        have c67a := lc_lt e66 c67
        have i67a := lr_lt1 (-9223372036854775808) 9223372036854775806 c67a (l_rng z58) (l_rng z65) rfl
        have i67b := lr_lt2 (-9223372036854775807) 9223372036854775807 c67a (l_rng z58) (l_rng z65) rfl
        refine g_aload_n 71 (gd rfl) rfl rfl ?_
        refine g_getA (q2 := 75) 74 (gd rfl) rfl rfl rfl rfl ?_
        refine g_iload 76 (gd rfl) rfl rfl ?_
        refine g_aload_n 77 (gd rfl) rfl rfl ?_
        refine g_getA (q2 := 75) 80 (gd rfl) rfl rfl rfl rfl ?_
        refine g_iload_n 81 (gd rfl) rfl rfl ?_
        refine g_laload 82 (gd rfl) rfl (n := 32) rfl (in_ix i5 rfl) (fun z81 e81 => ?_)
        refine g_aload_n 83 (gd rfl) rfl rfl ?_
        refine g_getA (q2 := 71) 86 (gd rfl) rfl rfl rfl rfl ?_
        refine g_iload_n 87 (gd rfl) rfl rfl ?_
        refine g_iaload 88 (gd rfl) rfl (n := 160) rfl (in_ix h1 rfl) (fun z87 e87 => ?_)
        have q87 : z56 = z87 := (e56).trans e87.symm
        subst q87
        refine g_i2l 89 (gd rfl) rfl (fun z88 e88 => ?_)
        have i88 := l_i e88 i56
        refine g_ladd 90 (gd rfl) rfl (fun z89 e89 => ?_)
        refine g_lastore 91 (gd rfl) rfl (n := 32) rfl (in_ix i12 rfl) ?_
        have hI90 := inv_sL (q := 75) (j := z12.toNatClampNeg) (x := z89) hI rfl (l_rng z89)
        refine g_aload_n 92 (gd rfl) rfl rfl ?_
        refine g_getA (q2 := 68) 95 (gd rfl) rfl rfl rfl rfl ?_
        refine g_iload 97 (gd rfl) rfl rfl ?_
        refine g_iconst 2 98 (gd rfl) rfl rfl ?_
        refine g_iload_n 99 (gd rfl) rfl rfl ?_
        refine g_imul 100 (gd rfl) rfl (fun z99 e99 => ?_)
        have i99 := in_mulc 2 0 318 (Or.inl e99) h1 rfl rfl
        refine g_iastore 101 (gd rfl) rfl (n := 32) rfl (in_ix i12 rfl) ?_
        have hI100 := inv_sI (q := 68) (j := z12.toNatClampNeg) hI90 rfl (in_w (-1) 319 i99 rfl)
        refine g_iconst 1 102 (gd rfl) rfl rfl ?_
        have n102 : RLP (netC s) (fiC s) (x2).toInt (x1).toNatClampNeg (faC s) (viC s) (faC (sI (sL s 75 z12.toNatClampNeg z89) 68 z12.toNatClampNeg z99)) (viC (sI (sL s 75 z12.toNatClampNeg z89) 68 z12.toNatClampNeg z99)) ((Int32.ofInt 1)).toInt := by exact (show RLP _ _ _ _ _ _ _ _ 1 from rlp_f q_0 e5 e12 e56 i56 e20 e26 e27 i20 c29 e37 c42a e50 e57 e58 e65 c67a e81 e88 e89 sL_qn (by rw [sI_q]; rfl) (show (z99).toInt = 2 * (((x1).toNatClampNeg : Nat) : Int) from (by rw [clx h1.1]; (first | have a0 := in_u h2 | (have a0 := h2; unfold In at a0)); (first | have a1 := in_u h1 | (have a1 := h1; unfold In at a1)); (first | have a2 := in_u i12 | (have a2 := i12; unfold In at a2)); (first | have a3 := in_u i5 | (have a3 := i5; unfold In at a3)); (first | have a4 := in_u i99 | (have a4 := i99; unfold In at a4)); have a5 := (t_mulc 2 (Or.inl e99) h1 rfl).1; have a6 := tx_i2l e88; (first | have a7 := in_u i56 | (have a7 := i56; unfold In at a7)); have a8 := tx_i2l e57; have oc := oc_87_65; omega)))
        exact g_ireturn (gd rfl) rfl (nb01 (in_w 0 1 (in_c 1 rfl) rfl)) (hP _ _ ⟨(sI (sL s 75 z12.toNatClampNeg z89) 68 z12.toNatClampNeg z99), hI100, (fr_sI rfl (fr_sL rfl fr_rf)), (Int32.ofInt 1), rfl, rfl, in_w 0 1 (in_c 1 rfl) rfl, n102⟩)

theorem oc_86_65 : (Int32.ofInt (-1)).toInt = (-1) ∧ (Int32.ofInt 0).toInt = 0 ∧ (Int32.ofInt 1).toInt = 1 := ⟨rfl, rfl, rfl⟩
/-- GraphHouse$Flows.relaxAll -/
theorem f_86_65 {Z : AmZ} {A : Nat → Nat} {s : GS} {ex : va_W} {d : Nat} {X : AmX} {x1 : Int32} {x2 : Int32} (hd : 2 ≤ d) (hI : Inv s) (h1 : In x1 0 32) (h2 : In x2 1 1048576) (q_0 : RXP s (x2).toInt (x1).toNatClampNeg) : GC Z d 86 [.ref (A 65), .int x1, .int x2] (WW Z A s ++ ex) 0 0 (fun v u => ∃ t : GS, Inv t ∧ Fr fm_86_65 s t ∧ v = none ∧ u = WW Z A t ++ ex ∧ (RXE (netC s) (fiC s) (x2).toInt (x1).toNatClampNeg (faC s) (viC s) (faC t) (viC t))) X := by
  intro post xp hP hX
  obtain ⟨u_65_8, e_65_8⟩ : ∃ w, w = s.2.2.1 65 8 := ⟨_, rfl⟩
  have ro_65_8 := inv_F hI 0 160 rfl e_65_8
  have ct5 : ∀ (k5 : Nat) (sc5 : GS) (y5_3 : Int32) (y5_4 : Int32), Inv sc5 → Fr fm_86_65 s sc5 → (In y5_3 0 1) → (In y5_4 0 33) → (RXI (netC s) (fiC s) (x2).toInt (x1).toNatClampNeg (piN s (x2).toInt) (faC s) (viC s) (faC sc5) (viC sc5) (y5_4).toNatClampNeg (y5_3).toInt) → 33 - (y5_4).toInt < (k5 : Int) → GG Z (d - 1) 86 post (gx xp) (1 + k5 * 147601) 5 (fun j => xlook j [(0, .ref (A 65)), (1, .int x1), (2, .int x2), (3, .int y5_3), (4, .int y5_4)]) [] (WW Z A sc5 ++ ex) 0 0 := by
    intro k5
    induction k5 with
    | zero => intro sc5 y5_3 y5_4 hIc5 hFc5 j5_3 j5_4 g5_0 mm5; exact m_no mm5 j5_4 rfl
    | succ k5 ih5 =>
      intro sc5 y5_3 y5_4 hIc5 hFc5 j5_3 j5_4 g5_0 mm5
      refine gg_w (M := 1 + k5 * 147601 + 147601) gws ?_
      have ct20 : ∀ (k20 : Nat) (sc20 : GS) (y20_3 : Int32) (y20_5 : Int32), Inv sc20 → Fr fm_86_65 s sc20 → (In y20_3 0 1) → (In y5_4 0 32) → (In y20_5 0 160) → (RXJ (netC s) (fiC s) (x2).toInt (x1).toNatClampNeg (piN s (x2).toInt) (faC s) (viC s) (faC sc5) (faC sc20) (viC sc20) (y20_5).toNatClampNeg (y20_3).toInt) → 160 - (y20_5).toInt < (k20 : Int) → GG Z (d - 1) 86 post (gx xp) (1 + k5 * 147601 + 1 + k20 * 900) 20 (fun j => xlook j [(0, .ref (A 65)), (1, .int x1), (2, .int x2), (3, .int y20_3), (4, .int y5_4), (5, .int y20_5)]) [] (WW Z A sc20 ++ ex) 0 0 := by
        intro k20
        induction k20 with
        | zero => intro sc20 y20_3 y20_5 hIc20 hFc20 j20_3 j20_4 j20_5 g20_0 mm20; exact m_no mm20 j20_5 rfl
        | succ k20 ih20 =>
          intro sc20 y20_3 y20_5 hIc20 hFc20 j20_3 j20_4 j20_5 g20_0 mm20
          refine gg_w (M := 1 + k5 * 147601 + 1 + k20 * 900 + 900) gws ?_
          refine g_iload 22 (gd rfl) rfl rfl ?_
          refine g_aload_n 23 (gd rfl) rfl rfl ?_
          refine g_getI 26 (gd rfl) rfl rfl rfl (fun z23 e23 => ?_)
          have q23 : u_65_8 = z23 := (fr_F e_65_8 hFc20 rfl).trans e23.symm
          subst q23
          refine g_cmp_ge 29 45 (gd rfl) rfl rfl (fun c26 => ?_) (fun c26 => ?_)
          · skip
            refine g_iinc 48 (gd rfl) rfl rfl (Nat.le_of_ble_eq_true rfl) (fun z45 e45 => ?_)
            have i45 := in_add 1 33 e45 j20_4 (in_c 1 rfl) rfl rfl
            refine g_goto 5 (gd rfl) rfl ?_
            have n5 : RXI (netC s) (fiC s) (x2).toInt (x1).toNatClampNeg (piN s (x2).toInt) (faC s) (viC s) (faC sc20) (viC sc20) (z45).toNatClampNeg (y20_3).toInt := by rw [(show (z45).toNatClampNeg = (y5_4).toNatClampNeg + 1 from (by show (z45).toInt.toNat = (y5_4).toInt.toNat + 1; (first | have a0 := in_u j20_4 | (have a0 := j20_4; unfold In at a0)); (first | have a1 := in_u h2 | (have a1 := h2; unfold In at a1)); (first | have a2 := in_u h1 | (have a2 := h1; unfold In at a2)); (first | have a3 := in_u ro_65_8 | (have a3 := ro_65_8; unfold In at a3)); (first | have a4 := in_u j20_5 | (have a4 := j20_5; unfold In at a4)); (first | have a5 := in_u j20_3 | (have a5 := j20_3; unfold In at a5)); (first | have a6 := in_u i45 | (have a6 := i45; unfold In at a6)); have a7 := t_add e45 j20_4 (in_c 1 rfl) rfl; (first | have a8 := in_u ((in_c 1 rfl)) | (have a8 := (in_c 1 rfl); unfold In at a8)); have oc := oc_86_65; omega))]; exact rxi_s (piN_ok q_0).1 q_0.1 g5_0 (rxj_w g20_0 (show (netC s).1 ≤ (y20_5).toNatClampNeg from (by show (s.2.2.1 65 8).toInt.toNat ≤ (y20_5).toInt.toNat; rw [← e_65_8]; (first | have a0 := in_u j20_4 | (have a0 := j20_4; unfold In at a0)); (first | have a1 := in_u h2 | (have a1 := h2; unfold In at a1)); (first | have a2 := in_u h1 | (have a2 := h1; unfold In at a2)); (first | have a3 := in_u ro_65_8 | (have a3 := ro_65_8; unfold In at a3)); (first | have a4 := in_u j20_5 | (have a4 := j20_5; unfold In at a4)); (first | have a5 := in_u j20_3 | (have a5 := j20_3; unfold In at a5)); (first | have a6 := in_u i45 | (have a6 := i45; unfold In at a6)); have a7 := t_add e45 j20_4 (in_c 1 rfl) rfl; (first | have a8 := in_u ((in_c 1 rfl)) | (have a8 := (in_c 1 rfl); unfold In at a8)); have oc := oc_86_65; omega)))
            exact gg_w (by first | exact Nat.le_add_right _ _ | exact gw2 | exact gw3 | exact gwe rfl | exact gwf rfl | exact gwg rfl | exact gwh rfl | omega) (gg_f (gf_cons rfl (gf_cons rfl (gf_cons rfl (gf_cons rfl (gf_cons rfl gf_nil))))) (ih5 sc20 y20_3 z45 hIc20 hFc20 (in_w 0 1 j20_3 rfl) (in_w 0 33 i45 rfl) n5 (m_up mm5 (t_add e45 j20_4 (in_c 1 rfl) rfl) (in_w 1 1 (in_c 1 rfl) rfl))))
          · skip
            have i26 := r_lt1 0 159 c26 j20_5 ro_65_8 rfl
            have i26a := r_lt2 1 160 c26 j20_5 ro_65_8 rfl
            refine g_iload_n 30 (gd rfl) rfl rfl ?_
            refine g_aload_n 31 (gd rfl) rfl rfl ?_
            refine g_iload 33 (gd rfl) rfl rfl ?_
            refine g_iload_n 34 (gd rfl) rfl rfl ?_
            have p34 : RPX sc20 (y20_5).toNatClampNeg := by exact rxj_x q_0 (net_fr hFc20 rfl) (fi_fr hFc20 rfl) g20_0 (show (y20_5).toNatClampNeg < (netC s).1 from (by show (y20_5).toInt.toNat < (s.2.2.1 65 8).toInt.toNat; rw [← e_65_8]; (first | have a0 := in_u j20_4 | (have a0 := j20_4; unfold In at a0)); (first | have a1 := in_u h2 | (have a1 := h2; unfold In at a1)); (first | have a2 := in_u h1 | (have a2 := h1; unfold In at a2)); (first | have a3 := in_u i26a | (have a3 := i26a; unfold In at a3)); (first | have a4 := in_u i26 | (have a4 := i26; unfold In at a4)); (first | have a5 := in_u j20_3 | (have a5 := j20_3; unfold In at a5)); have oc := oc_86_65; omega))
            refine g_callv (X := _) (As := [.int y20_5, .int x2]) (r := [.int y20_3]) (b := A 65) (q := 65) 37 (gd rfl) rfl rfl rfl rfl rfl (ww_o rfl) (Nat.le_of_ble_eq_true rfl) (Nat.zero_le _) (Nat.zero_le _) (f_87_65 (by first | exact dq1 hd rfl | exact dq0 hd rfl | exact dq2 hd rfl | exact dq3 hd rfl | omega) hIc20 (in_w 0 159 i26 rfl) (in_w 1 1048576 h2 rfl) p34) (fun e u h => h) (fun v u h => ?_)
            obtain ⟨s34, hI34, hF34, z34, rfl, rfl, i34, p34a⟩ := h
            show GG _ _ _ _ _ _ _ _ [.int z34, .int y20_3] _ _ _
            refine g_ior 38 (gd rfl) rfl (fun z37 e37 => ?_)
            have i37 := in_or 1 e37 (in_w 0 1 j20_3 rfl) (in_w 0 1 i34 rfl) rfl
            refine g_istore_n 39 (gd rfl) rfl (Nat.le_of_ble_eq_true rfl) ?_
            refine g_iinc 42 (gd rfl) rfl rfl (Nat.le_of_ble_eq_true rfl) (fun z39 e39 => ?_)
            have i39 := in_add 1 160 e39 i26 (in_c 1 rfl) rfl rfl
            refine g_goto 20 (gd rfl) rfl ?_
            have n20 : RXJ (netC s) (fiC s) (x2).toInt (x1).toNatClampNeg (piN s (x2).toInt) (faC s) (viC s) (faC sc5) (faC s34) (viC s34) (z39).toNatClampNeg (z37).toInt := by rw [(show (z39).toNatClampNeg = (y20_5).toNatClampNeg + 1 from (by show (z39).toInt.toNat = (y20_5).toInt.toNat + 1; (first | have a0 := in_u j20_4 | (have a0 := j20_4; unfold In at a0)); (first | have a1 := in_u h2 | (have a1 := h2; unfold In at a1)); (first | have a2 := in_u h1 | (have a2 := h1; unfold In at a2)); (first | have a3 := in_u i26a | (have a3 := i26a; unfold In at a3)); (first | have a4 := in_u i26 | (have a4 := i26; unfold In at a4)); (first | have a5 := in_u j20_3 | (have a5 := j20_3; unfold In at a5)); (first | have a6 := in_u i39 | (have a6 := i39; unfold In at a6)); have a7 := t_add e39 i26 (in_c 1 rfl) rfl; (first | have a8 := in_u ((in_c 1 rfl)) | (have a8 := (in_c 1 rfl); unfold In at a8)); (first | have a9 := in_u i37 | (have a9 := i37; unfold In at a9)); have oc := oc_86_65; omega))]; have r9 := p34a; rw [net_fr hFc20 rfl, fi_fr hFc20 rfl] at r9; exact rxj_s (piN_ok q_0).1 (piN_ok q_0).2 q_0.1 g20_0 (show (y20_5).toNatClampNeg < (netC s).1 from (by show (y20_5).toInt.toNat < (s.2.2.1 65 8).toInt.toNat; rw [← e_65_8]; (first | have a0 := in_u j20_4 | (have a0 := j20_4; unfold In at a0)); (first | have a1 := in_u h2 | (have a1 := h2; unfold In at a1)); (first | have a2 := in_u h1 | (have a2 := h1; unfold In at a2)); (first | have a3 := in_u i26a | (have a3 := i26a; unfold In at a3)); (first | have a4 := in_u i26 | (have a4 := i26; unfold In at a4)); (first | have a5 := in_u j20_3 | (have a5 := j20_3; unfold In at a5)); (first | have a6 := in_u i39 | (have a6 := i39; unfold In at a6)); have a7 := t_add e39 i26 (in_c 1 rfl) rfl; (first | have a8 := in_u ((in_c 1 rfl)) | (have a8 := (in_c 1 rfl); unfold In at a8)); (first | have a9 := in_u i37 | (have a9 := i37; unfold In at a9)); have oc := oc_86_65; omega)) r9 (or01 e37 j20_3 i34)
            exact gg_w (by first | exact Nat.le_add_right _ _ | exact gw2 | exact gw3 | exact gwe rfl | exact gwf rfl | exact gwg rfl | exact gwh rfl | omega) (gg_f (gf_cons rfl (gf_cons rfl (gf_cons rfl (gf_cons rfl (gf_cons rfl (gf_cons rfl gf_nil)))))) (ih20 s34 z37 z39 hI34 (fr_tr rfl hFc20 hF34) (in_w 0 1 i37 rfl) (in_w 0 32 j20_4 rfl) (in_w 0 160 i39 rfl) n20 (m_up mm20 (t_add e39 i26 (in_c 1 rfl) rfl) (in_w 1 1 (in_c 1 rfl) rfl))))
      refine g_iload 7 (gd rfl) rfl rfl ?_
      refine g_iload_n 8 (gd rfl) rfl rfl ?_
      refine g_cmp_gt 11 51 (gd rfl) rfl rfl (fun c8 => ?_) (fun c8 => ?_)
      · skip
        have i8 := r_lt2 1 33 c8 h1 j5_4 rfl
        have n51 : RXE (netC s) (fiC s) (x2).toInt (x1).toNatClampNeg (faC s) (viC s) (faC sc5) (viC sc5) := by exact rxe_i (piN_ok q_0).1 (piN_ok q_0).2 q_0.1 q_0.2.2.1 g5_0 (Or.inr (show (x1).toNatClampNeg < (y5_4).toNatClampNeg from (by show (x1).toInt.toNat < (y5_4).toInt.toNat; (first | have a0 := in_u h2 | (have a0 := h2; unfold In at a0)); (first | have a1 := in_u h1 | (have a1 := h1; unfold In at a1)); (first | have a2 := in_u ro_65_8 | (have a2 := ro_65_8; unfold In at a2)); (first | have a3 := in_u i8 | (have a3 := i8; unfold In at a3)); (first | have a4 := in_u j5_3 | (have a4 := j5_3; unfold In at a4)); have oc := oc_86_65; omega)))
        exact g_return (gd rfl) rfl (hP _ _ ⟨sc5, hIc5, hFc5, rfl, rfl, n51⟩)
      · skip
        have i8 := r_le1 0 32 c8 j5_4 h1 rfl
        refine g_iload_n 12 (gd rfl) rfl rfl ?_
        refine g_if_eq 15 51 (gd rfl) rfl rfl (fun c12 => ?_) (fun c12 => ?_)
        · skip
          have i12 := z_eq 0 0 c12 j5_3 rfl
          have n51 : RXE (netC s) (fiC s) (x2).toInt (x1).toNatClampNeg (faC s) (viC s) (faC sc5) (viC sc5) := by exact rxe_i (piN_ok q_0).1 (piN_ok q_0).2 q_0.1 q_0.2.2.1 g5_0 (Or.inl c12)
          exact g_return (gd rfl) rfl (hP _ _ ⟨sc5, hIc5, hFc5, rfl, rfl, n51⟩)
        · skip
          have i12 := z_ne 1 1 c12 j5_3 rfl
          refine g_iconst 0 16 (gd rfl) rfl rfl ?_
          refine g_istore_n 17 (gd rfl) rfl (Nat.le_of_ble_eq_true rfl) ?_
          refine g_iconst 0 18 (gd rfl) rfl rfl ?_
          refine g_istore 20 (gd rfl) rfl (Nat.le_of_ble_eq_true rfl) ?_
          have n20 : RXJ (netC s) (fiC s) (x2).toInt (x1).toNatClampNeg (piN s (x2).toInt) (faC s) (viC s) (faC sc5) (faC sc5) (viC sc5) ((Int32.ofInt 0)).toNatClampNeg ((Int32.ofInt 0)).toInt := by exact (show RXJ _ _ _ _ _ _ _ _ _ _ 0 0 from rxj_0 g5_0.1)
          exact gg_w (by first | exact Nat.le_add_right _ _ | exact gw2 | exact gw3 | exact gwe rfl | exact gwf rfl | exact gwg rfl | exact gwh rfl | omega) (gg_f (gf_cons rfl (gf_cons rfl (gf_cons rfl (gf_cons rfl (gf_cons rfl (gf_cons rfl gf_nil)))))) (ct20 161 sc5 (Int32.ofInt 0) (Int32.ofInt 0) hIc5 hFc5 (in_w 0 1 (in_c 0 rfl) rfl) (in_w 0 32 i8 rfl) (in_w 0 160 (in_c 0 rfl) rfl) n20 (m_in 161 (in_w 0 160 (in_c 0 rfl) rfl) rfl)))
  refine g_enter2 (k := 86) (N := 5019335) (by first | exact dq1 hd rfl | exact dq0 hd rfl | exact dq2 hd rfl | exact dq3 hd rfl | omega) rfl (Nat.le_of_ble_eq_true rfl) ?_
  refine g_iconst 1 1 (gd rfl) rfl rfl ?_
  refine g_istore_n 2 (gd rfl) rfl (Nat.le_of_ble_eq_true rfl) ?_
  refine g_iconst 0 3 (gd rfl) rfl rfl ?_
  refine g_istore 5 (gd rfl) rfl (Nat.le_of_ble_eq_true rfl) ?_
  have n5 : RXI (netC s) (fiC s) (x2).toInt (x1).toNatClampNeg (piN s (x2).toInt) (faC s) (viC s) (faC s) (viC s) ((Int32.ofInt 0)).toNatClampNeg ((Int32.ofInt 1)).toInt := by exact (show RXI _ _ _ _ _ _ _ _ _ 0 1 from rxi_0 (piN_ok q_0).1 q_0.2.2.1)
  exact gg_w (by first | exact Nat.le_of_ble_eq_true rfl | omega) (gg_f (gf_cons rfl (gf_cons rfl (gf_cons rfl (gf_cons rfl (gf_cons rfl gf_nil))))) (ct5 34 s (Int32.ofInt 1) (Int32.ofInt 0) hI fr_rf (in_w 0 1 (in_c 1 rfl) rfl) (in_w 0 33 (in_c 0 rfl) rfl) n5 (m_in 34 (in_w 0 33 (in_c 0 rfl) rfl) rfl)))
