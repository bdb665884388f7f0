section
/-! FUNCTIONAL CONTRACTS, by fgen.py -/
theorem oc_78_65 : (Int32.ofInt (-1)).toInt = (-1) ∧ (Int32.ofInt 0).toInt = 0 ∧ (Int32.ofInt 1).toInt = 1 ∧ (Int32.ofInt 32).toInt = 32 ∧ (Int32.ofInt 160000000).toInt = 160000000 := ⟨rfl, rfl, rfl, rfl, rfl⟩
set_option maxHeartbeats 4000000 in
/-- GraphHouse$Flows.push -/
theorem f_78_65 {Z : AmZ} {A : Nat → Nat} {s : GS} {ex : va_W} {d : Nat} {X : AmX} {x1 : Int32} {x2 : Int32} {u_65_4 : Int32} (hd : 3 ≤ d) (hI : Inv s) (h1 : In x1 0 31) (h2 : In x2 0 31) (e_65_4 : u_65_4 = s.2.2.1 65 4) (q_0 : RV (s.1 68) (s.2.2.1 65 4) x1) (q_1 : bt (s.2.2.1 65 4) (x2).toNatClampNeg = true) (q_2 : LNN ((s).1 66) 160000000) (q_3 : OPQ ((s).1 66) ((s).1 67)) (q_4 : ∃ d, DLB ((s).1 67) ((s).1 68) (x1).toNatClampNeg (x2).toNatClampNeg ((s).2.2.1 65 4) d) : GC Z d 78 [.ref (A 65), .int x1, .int x2] (WW Z A s ++ ex) 0 0 (fun v u => ∃ t : GS, Inv t ∧ Fr fm_78_65 s t ∧ ∃ z : Int32, v = some (.int z) ∧ u = WW Z A t ++ ex ∧ In z (-2147483648) 160000000 ∧ (∃ n, PTH (s.1 66) (s.1 68) (x2).toNatClampNeg (z).toInt n ∧ PSI (s.1 66) (s.1 67) ((t).1 66) ((t).1 67) (s.1 68) (x1).toNatClampNeg (x2).toNatClampNeg (s.2.2.1 65 4) (z).toInt n ∧ itv (s.1 68) (x2).toNatClampNeg n = (x1).toNatClampNeg) ∧ (0 < (z).toInt)) X := by
  intro post xp hP hX
  have ct66 : ∀ (k66 : Nat) (sc66 : GS) (y66_3 : Int32) (y66_4 : Int32) (y66_5 : Int32), Inv sc66 → Fr fm_78_65 s sc66 → (In y66_3 (-2147483648) 160000000) → (In y66_4 0 31) → (In y66_5 0 32) → (bt u_65_4 (y66_4).toNatClampNeg = true) → ((y66_4).toNatClampNeg = itv (s.1 68) (x2).toNatClampNeg (y66_5).toNatClampNeg) → (PSI (s.1 66) (s.1 67) ((sc66).1 66) ((sc66).1 67) (s.1 68) (x1).toNatClampNeg (x2).toNatClampNeg (s.2.2.1 65 4) (y66_3).toInt (y66_5).toNatClampNeg) → (∃ n, PTH (s.1 66) (s.1 68) (x2).toNatClampNeg (y66_3).toInt n ∧ itv (s.1 68) (x2).toNatClampNeg n = (x1).toNatClampNeg ∧ ∀ d, DLB ((s).1 67) ((s).1 68) (x1).toNatClampNeg (x2).toNatClampNeg ((s).2.2.1 65 4) d → n ≤ d (x2).toNatClampNeg) → (0 < (y66_3).toInt) → 32 - (y66_5).toInt < (k66 : Int) → GG Z (d - 1) 78 post (gx xp) (1 + k66 * 900) 66 (fun j => xlook j [(0, .ref (A 65)), (1, .int x1), (2, .int x2), (3, .int y66_3), (4, .int y66_4), (5, .int y66_5)]) [] (WW Z A sc66 ++ ex) 0 0 := by
    intro k66
    induction k66 with
    | zero => intro sc66 y66_3 y66_4 y66_5 hIc66 hFc66 j66_3 j66_4 j66_5 g66_0 g66_1 g66_2 g66_3 g66_4 mm66; exact m_no mm66 j66_5 rfl
    | succ k66 ih66 =>
      intro sc66 y66_3 y66_4 y66_5 hIc66 hFc66 j66_3 j66_4 j66_5 g66_0 g66_1 g66_2 g66_3 g66_4 mm66
      refine gg_w (M := 1 + k66 * 900 + 900) gws ?_
      refine g_iload 68 (gd rfl) rfl rfl ?_
      refine g_bipush 32 70 (gd rfl) rfl rfl ?_
      refine g_cmp_ge 73 178 (gd rfl) rfl rfl (fun c70 => ?_) (fun c70 => ?_)
      · skip
        have i70 := r_le2 32 32 c70 (in_c 32 rfl) j66_5 rfl
        refine g_iload_n 179 (gd rfl) rfl rfl ?_
        have n179 : ∃ n, PTH (s.1 66) (s.1 68) (x2).toNatClampNeg (y66_3).toInt n ∧ PSI (s.1 66) (s.1 67) ((sc66).1 66) ((sc66).1 67) (s.1 68) (x1).toNatClampNeg (x2).toNatClampNeg (s.2.2.1 65 4) (y66_3).toInt n ∧ itv (s.1 68) (x2).toNatClampNeg n = (x1).toNatClampNeg := by exfalso; obtain ⟨d9, hd9⟩ := q_4; have h8 := (g66_2.2.2.2.1 d9 hd9).1; have h7 := hd9.2.2.1; have h6 : (y66_5).toNatClampNeg = (y66_5).toInt.toNat := rfl; exact (have a0 := in_u h2; have a1 := in_u h1; have a2 := in_u i70; have a3 := in_u j66_4; have a4 := in_u j66_3; have oc := oc_78_65; by omega)
        have n179a : 0 < (y66_3).toInt := by exact g66_4
        exact g_ireturn (gd rfl) rfl rfl (hP _ _ ⟨sc66, hIc66, hFc66, y66_3, rfl, rfl, in_w (-2147483648) 160000000 j66_3 rfl, n179, n179a⟩)
      · skip
        have i70 := r_lt1 0 31 c70 j66_5 (in_c 32 rfl) rfl
        refine g_iload 75 (gd rfl) rfl rfl ?_
        refine g_iload_n 76 (gd rfl) rfl rfl ?_
        refine g_cmp_eq 79 178 (gd rfl) rfl rfl (fun c76 => ?_) (fun c76 => ?_)
        · skip
          refine g_iload_n 179 (gd rfl) rfl rfl ?_
          have n179 : ∃ n, PTH (s.1 66) (s.1 68) (x2).toNatClampNeg (y66_3).toInt n ∧ PSI (s.1 66) (s.1 67) ((sc66).1 66) ((sc66).1 67) (s.1 68) (x1).toNatClampNeg (x2).toNatClampNeg (s.2.2.1 65 4) (y66_3).toInt n ∧ itv (s.1 68) (x2).toNatClampNeg n = (x1).toNatClampNeg := by obtain ⟨d9, hd9⟩ := q_4; obtain ⟨n9, p9, s9, l9⟩ := g66_3; have h8 := (itv_d hd9 n9 (l9 d9 hd9)).2; have h7 := (itv_d hd9 _ (g66_2.2.2.2.1 d9 hd9).1).2; rw [s9] at h8; rw [(show (itv (s.1 68) (x2).toNatClampNeg ((y66_5).toNatClampNeg)) = (x1).toNatClampNeg from (g66_1).symm.trans (congrArg Int.toNat c76))] at h7; have h6 : n9 = (y66_5).toNatClampNeg := (by omega); exact ⟨n9, p9, by rw [h6]; exact g66_2, s9⟩
          have n179a : 0 < (y66_3).toInt := by exact g66_4
          exact g_ireturn (gd rfl) rfl rfl (hP _ _ ⟨sc66, hIc66, hFc66, y66_3, rfl, rfl, in_w (-2147483648) 160000000 j66_3 rfl, n179, n179a⟩)
        · skip
          refine g_aload_n 80 (gd rfl) rfl rfl ?_
          refine g_getA (q2 := 68) 83 (gd rfl) rfl rfl rfl rfl ?_
          refine g_iload 85 (gd rfl) rfl rfl ?_
          refine g_iaload 86 (gd rfl) rfl (n := 32) rfl (in_ix j66_4 rfl) (fun z85 e85 => ?_)
          have i85 := inv_I hIc66 (n := 32) (t := 0) (-1) 319 rfl (in_ix j66_4 rfl) rfl e85
          have hr86 : In z85 0 31 ∧ bt (s.2.2.1 65 4) (z85).toNatClampNeg = true := by have hf := (hFc66 : Fr fm_78_65 s sc66).1 68 rfl; have hr := q_0 (y66_4).toNatClampNeg (by rw [← e_65_4]; exact g66_0) (by intro w; apply c76; have hq := j66_4; unfold In at hq; have hw : (((y66_4).toInt.toNat : Nat) : Int) = (x1).toInt := w; omega); rw [← hf, ← e85] at hr; exact hr
          have i86 : In z85 0 31 := by exact hr86.1
          refine g_istore 88 (gd rfl) rfl (Nat.le_of_ble_eq_true rfl) ?_
          refine g_aload_n 89 (gd rfl) rfl rfl ?_
          refine g_getA (q2 := 66) 92 (gd rfl) rfl rfl rfl rfl ?_
          refine g_iload 94 (gd rfl) rfl rfl ?_
          refine g_bipush 32 96 (gd rfl) rfl rfl ?_
          refine g_imul 97 (gd rfl) rfl (fun z96 e96 => ?_)
          have i96 := in_mulc 32 0 992 (Or.inr e96) i86 rfl rfl
          refine g_iload 99 (gd rfl) rfl rfl ?_
          refine g_iadd 100 (gd rfl) rfl (fun z99 e99 => ?_)
          have i99 := in_add 0 1023 e99 i96 j66_4 rfl rfl
          refine g_dup2 101 (gd rfl) rfl rfl rfl ?_
          refine g_iaload 102 (gd rfl) rfl (n := 1024) rfl (in_ix i99 rfl) (fun z101 e101 => ?_)
          refine g_iload_n 103 (gd rfl) rfl rfl ?_
          refine g_isub 104 (gd rfl) rfl (fun z103 e103 => ?_)
          refine g_iastore 105 (gd rfl) rfl (n := 1024) rfl (in_ix i99 rfl) ?_
          have hI104 := inv_sI (q := 66) (j := z99.toNatClampNeg) hIc66 rfl (in_w (-2147483648) 2147483647 (i_rng z103) rfl)
          refine g_aload_n 106 (gd rfl) rfl rfl ?_
          refine g_getA (q2 := 66) 109 (gd rfl) rfl rfl rfl rfl ?_
          refine g_iload 111 (gd rfl) rfl rfl ?_
          refine g_bipush 32 113 (gd rfl) rfl rfl ?_
          refine g_imul 114 (gd rfl) rfl (fun z113 e113 => ?_)
          have i113 := in_mulc 32 0 992 (Or.inr e113) i86 rfl rfl
          refine g_iload 116 (gd rfl) rfl rfl ?_
          refine g_iadd 117 (gd rfl) rfl (fun z116 e116 => ?_)
          have i116 := in_add 0 1023 e116 i113 j66_4 rfl rfl
          refine g_iaload 118 (gd rfl) rfl (n := 1024) rfl (in_ix i116 rfl) (fun z117 e117 => ?_)
          refine g_if_ne 121 137 (gd rfl) rfl rfl (fun c118 => ?_) (fun c118 => ?_)
          · skip
            refine g_aload_n 138 (gd rfl) rfl rfl ?_
            refine g_getA (q2 := 66) 141 (gd rfl) rfl rfl rfl rfl ?_
            refine g_iload 143 (gd rfl) rfl rfl ?_
            refine g_bipush 32 145 (gd rfl) rfl rfl ?_
            refine g_imul 146 (gd rfl) rfl (fun z145 e145 => ?_)
            have i145 := in_mulc 32 0 992 (Or.inr e145) j66_4 rfl rfl
            refine g_iload 148 (gd rfl) rfl rfl ?_
            refine g_iadd 149 (gd rfl) rfl (fun z148 e148 => ?_)
            have i148 := in_add 0 1023 e148 i145 i86 rfl rfl
            refine g_dup2 150 (gd rfl) rfl rfl rfl ?_
            refine g_iaload 151 (gd rfl) rfl (n := 1024) rfl (in_ix i148 rfl) (fun z150 e150 => ?_)
            refine g_iload_n 152 (gd rfl) rfl rfl ?_
            refine g_iadd 153 (gd rfl) rfl (fun z152 e152 => ?_)
            refine g_iastore 154 (gd rfl) rfl (n := 1024) rfl (in_ix i148 rfl) ?_
            have hI153 := inv_sI (q := 66) (j := z148.toNatClampNeg) hI104 rfl (in_w (-2147483648) 2147483647 (i_rng z152) rfl)
            refine g_aload_n 155 (gd rfl) rfl rfl ?_
            refine g_getA (q2 := 67) 158 (gd rfl) rfl rfl rfl rfl ?_
            refine g_iload 160 (gd rfl) rfl rfl ?_
            refine g_dup2 161 (gd rfl) rfl rfl rfl ?_
            refine g_iaload 162 (gd rfl) rfl (n := 32) rfl (in_ix j66_4 rfl) (fun z161 e161 => ?_)
            refine g_iconst 1 163 (gd rfl) rfl rfl ?_
            refine g_iload 165 (gd rfl) rfl rfl ?_
            refine g_ishl 166 (gd rfl) rfl (fun z165 e165 => ?_)
            refine g_ior 167 (gd rfl) rfl (fun z166 e166 => ?_)
            refine g_iastore 168 (gd rfl) rfl (n := 32) rfl (in_ix j66_4 rfl) ?_
            have hI167 := inv_sI (q := 67) (j := y66_4.toNatClampNeg) hI153 rfl (in_w (-2147483648) 2147483647 (i_rng z166) rfl)
            refine g_iload 170 (gd rfl) rfl rfl ?_
            refine g_istore 172 (gd rfl) rfl (Nat.le_of_ble_eq_true rfl) ?_
            refine g_iinc 175 (gd rfl) rfl rfl (Nat.le_of_ble_eq_true rfl) (fun z172 e172 => ?_)
            have i172 := in_add 1 32 e172 i70 (in_c 1 rfl) rfl rfl
            refine g_goto 66 (gd rfl) rfl ?_
            have n66 : bt u_65_4 (z85).toNatClampNeg = true := by first | (rw [e_65_4]; exact q_1) | (rw [e_65_4]; exact hr86.2)
            have n66a : (z85).toNatClampNeg = itv (s.1 68) (x2).toNatClampNeg (z172).toNatClampNeg := by rw [(show (z172).toNatClampNeg = (y66_5).toNatClampNeg + 1 from (by show (z172).toInt.toNat = (y66_5).toInt.toNat + 1; exact (have a0 := in_u h2; have a1 := in_u h1; have a2 := in_u i70; have a3 := in_u j66_4; have a4 := in_u i86; have a5 := in_u i172; have a6 := t_add e172 i70 (in_c 1 rfl) rfl; have a7 := in_u ((in_c 1 rfl)); have a8 := in_u j66_3; have a9 := in_u i148; have a10 := t_add e148 i145 i86 rfl; have a11 := in_u i145; have a12 := (t_mulc 32 (Or.inr e145) j66_4 rfl).1; have a13 := in_u i116; have a14 := t_add e116 i113 j66_4 rfl; have a15 := in_u i113; have a16 := (t_mulc 32 (Or.inr e113) i86 rfl).1; have a17 := in_u i99; have a18 := t_add e99 i96 j66_4 rfl; have a19 := in_u i96; have a20 := (t_mulc 32 (Or.inr e96) i86 rfl).1; have oc := oc_78_65; by omega)))]; show z85.toNatClampNeg = (s.1 68 (itv (s.1 68) (x2).toNatClampNeg ((y66_5).toNatClampNeg))).toNatClampNeg; rw [← g66_1, ← (show z85 = s.1 68 (y66_4).toNatClampNeg from (e85.trans (congrFun (hFc66.1 68 rfl) _)))]
            have n66b : PSI (s.1 66) (s.1 67) (((sI (sI (sI sc66 66 z99.toNatClampNeg z103) 66 z148.toNatClampNeg z152) 67 y66_4.toNatClampNeg z166)).1 66) (((sI (sI (sI sc66 66 z99.toNatClampNeg z103) 66 z148.toNatClampNeg z152) 67 y66_4.toNatClampNeg z166)).1 67) (s.1 68) (x1).toNatClampNeg (x2).toNatClampNeg (s.2.2.1 65 4) (y66_3).toInt (z172).toNatClampNeg := by obtain ⟨d9, hd9⟩ := q_4; obtain ⟨n9, p9, s9, l9⟩ := g66_3; have ne9 := (show (itv (s.1 68) (x2).toNatClampNeg ((y66_5).toNatClampNeg)) ≠ (x1).toNatClampNeg from (by rw [← g66_1]; show (y66_4).toInt.toNat ≠ (x1).toInt.toNat; have a0 := h2; unfold In at a0; have a1 := h1; unfold In at a1; have a2 := i70; unfold In at a2; have a3 := j66_4; unfold In at a3; have a4 := i86; unfold In at a4; have a5 := i172; unfold In at a5; have a6 := t_add e172 i70 (in_c 1 rfl) rfl; have a7 := (in_c 1 rfl); unfold In at a7; have a8 := j66_3; unfold In at a8; have a9 := i148; unfold In at a9; have a10 := t_add e148 i145 i86 rfl; have a11 := i145; unfold In at a11; have a12 := (t_mulc 32 (Or.inr e145) j66_4 rfl).1; have a13 := i116; unfold In at a13; have a14 := t_add e116 i113 j66_4 rfl; have a15 := i113; unfold In at a15; have a16 := (t_mulc 32 (Or.inr e113) i86 rfl).1; have a17 := i99; unfold In at a17; have a18 := t_add e99 i96 j66_4 rfl; have a19 := i96; unfold In at a19; have a20 := (t_mulc 32 (Or.inr e96) i86 rfl).1; have oc := oc_78_65; omega)); have pu := psi_u g66_2 hd9 ne9; have v85 := (show z85 = s.1 68 (y66_4).toNatClampNeg from (e85.trans (congrFun (hFc66.1 68 rfl) _))); have iu : (itv (s.1 68) (x2).toNatClampNeg ((y66_5).toNatClampNeg + 1)) = z85.toNatClampNeg := (by show (s.1 68 (itv (s.1 68) (x2).toNatClampNeg ((y66_5).toNatClampNeg))).toNatClampNeg = _; rw [← g66_1, ← v85]); rw [iu, ← g66_1] at pu; obtain ⟨lt9, ⟨u32, v32, uv⟩, k1, k2⟩ := pu; have nd : n9 = d9 (x2).toNatClampNeg := (by have h8 := (itv_d hd9 n9 (l9 d9 hd9)).2; rw [s9, hd9.1.1.2.2] at h8; omega); have mn : (y66_3).toInt ≤ edL (s.1 66) (s.1 68) (x2).toNatClampNeg (y66_5).toNatClampNeg := p9.1 _ (by omega); have mn2 : (y66_3).toInt ≤ (sc66.1 66 (32 * z85.toNatClampNeg + (y66_4).toNatClampNeg)).toInt := (by have h8 : edL (s.1 66) (s.1 68) (x2).toNatClampNeg (y66_5).toNatClampNeg = (s.1 66 (32 * (itv (s.1 68) (x2).toNatClampNeg ((y66_5).toNatClampNeg + 1)) + (itv (s.1 68) (x2).toNatClampNeg ((y66_5).toNatClampNeg)))).toInt := rfl; rw [iu, ← g66_1] at h8; rw [k1, ← h8]; exact mn); have lb := g66_2.1 z85.toNatClampNeg (y66_4).toNatClampNeg u32 v32; have lb2 := g66_2.1 (y66_4).toNatClampNeg z85.toNatClampNeg v32 u32; have i99 := (show z99.toNatClampNeg = 32 * z85.toNatClampNeg + (y66_4).toNatClampNeg from (by show z99.toInt.toNat = 32 * z85.toInt.toNat + (y66_4).toInt.toNat; have h9 := hr86.1; unfold In at h9; have a0 := h2; unfold In at a0; have a1 := h1; unfold In at a1; have a2 := i70; unfold In at a2; have a3 := j66_4; unfold In at a3; have a4 := i86; unfold In at a4; have a5 := i172; unfold In at a5; have a6 := t_add e172 i70 (in_c 1 rfl) rfl; have a7 := (in_c 1 rfl); unfold In at a7; have a8 := j66_3; unfold In at a8; have a9 := i148; unfold In at a9; have a10 := t_add e148 i145 i86 rfl; have a11 := i145; unfold In at a11; have a12 := (t_mulc 32 (Or.inr e145) j66_4 rfl).1; have a13 := i116; unfold In at a13; have a14 := t_add e116 i113 j66_4 rfl; have a15 := i113; unfold In at a15; have a16 := (t_mulc 32 (Or.inr e113) i86 rfl).1; have a17 := i99; unfold In at a17; have a18 := t_add e99 i96 j66_4 rfl; have a19 := i96; unfold In at a19; have a20 := (t_mulc 32 (Or.inr e96) i86 rfl).1; have oc := oc_78_65; omega)); have i16 := (show z116.toNatClampNeg = 32 * z85.toNatClampNeg + (y66_4).toNatClampNeg from (by show z116.toInt.toNat = 32 * z85.toInt.toNat + (y66_4).toInt.toNat; have h9 := hr86.1; unfold In at h9; have a0 := h2; unfold In at a0; have a1 := h1; unfold In at a1; have a2 := i70; unfold In at a2; have a3 := j66_4; unfold In at a3; have a4 := i86; unfold In at a4; have a5 := i172; unfold In at a5; have a6 := t_add e172 i70 (in_c 1 rfl) rfl; have a7 := (in_c 1 rfl); unfold In at a7; have a8 := j66_3; unfold In at a8; have a9 := i148; unfold In at a9; have a10 := t_add e148 i145 i86 rfl; have a11 := i145; unfold In at a11; have a12 := (t_mulc 32 (Or.inr e145) j66_4 rfl).1; have a13 := i116; unfold In at a13; have a14 := t_add e116 i113 j66_4 rfl; have a15 := i113; unfold In at a15; have a16 := (t_mulc 32 (Or.inr e113) i86 rfl).1; have a17 := i99; unfold In at a17; have a18 := t_add e99 i96 j66_4 rfl; have a19 := i96; unfold In at a19; have a20 := (t_mulc 32 (Or.inr e96) i86 rfl).1; have oc := oc_78_65; omega)); have i48 := (show z148.toNatClampNeg = 32 * (y66_4).toNatClampNeg + z85.toNatClampNeg from (by show z148.toInt.toNat = 32 * (y66_4).toInt.toNat + z85.toInt.toNat; have h9 := hr86.1; unfold In at h9; have a0 := h2; unfold In at a0; have a1 := h1; unfold In at a1; have a2 := i70; unfold In at a2; have a3 := j66_4; unfold In at a3; have a4 := i86; unfold In at a4; have a5 := i172; unfold In at a5; have a6 := t_add e172 i70 (in_c 1 rfl) rfl; have a7 := (in_c 1 rfl); unfold In at a7; have a8 := j66_3; unfold In at a8; have a9 := i148; unfold In at a9; have a10 := t_add e148 i145 i86 rfl; have a11 := i145; unfold In at a11; have a12 := (t_mulc 32 (Or.inr e145) j66_4 rfl).1; have a13 := i116; unfold In at a13; have a14 := t_add e116 i113 j66_4 rfl; have a15 := i113; unfold In at a15; have a16 := (t_mulc 32 (Or.inr e113) i86 rfl).1; have a17 := i99; unfold In at a17; have a18 := t_add e99 i96 j66_4 rfl; have a19 := i96; unfold In at a19; have a20 := (t_mulc 32 (Or.inr e96) i86 rfl).1; have oc := oc_78_65; omega)); have a3 := g66_4; have z101v : z101 = sc66.1 66 (32 * z85.toNatClampNeg + (y66_4).toNatClampNeg) := (by rw [e101, i99]); have xv : (z103).toInt = (sc66.1 66 (32 * z85.toNatClampNeg + (y66_4).toNatClampNeg)).toInt - (y66_3).toInt := (by rw [← z101v]; exact isub_v e103 (by rw [z101v]; omega) (by rw [z101v]; omega)); have z150v : z150 = sc66.1 66 (32 * (y66_4).toNatClampNeg + z85.toNatClampNeg) := (by rw [e150, sI_q, i48, i99, up_n (by omega)]); have yv : (z152).toInt = (sc66.1 66 (32 * (y66_4).toNatClampNeg + z85.toNatClampNeg)).toInt + (y66_3).toInt := (by rw [← z150v]; exact iadd_v e152 (by rw [z150v]; omega) (by rw [z150v]; omega)); have z117v : (z117).toInt = (z103).toInt := (by rw [e117, sI_q, i16, i99, up_e]); have ob : bt (sc66.1 67 z85.toNatClampNeg) (y66_4).toNatClampNeg = true := (g66_2.2.1 _ _ u32 v32).mpr (by omega); have hl9 := (show (sI (sI (sI sc66 66 z99.toNatClampNeg z103) 66 z148.toNatClampNeg z152) 67 (y66_4).toNatClampNeg z166).1 66 = upd (upd (sc66.1 66) (32 * z85.toNatClampNeg + (y66_4).toNatClampNeg) z103) (32 * (y66_4).toNatClampNeg + z85.toNatClampNeg) z152 from (by rw [sI_p rfl, sI_q, sI_q, i99, i48])); have ho9 := opq_s g66_2.2.1 u32 v32 uv hl9 (by omega) (fun p w _ hw => (opx_A (O2 := sc66.1 67) (x := (z103).toInt) hr86.1 j66_4 (by have h8 := c118; omega) e165 (show z166 = sc66.1 67 (y66_4).toNatClampNeg ||| z165 from (by rw [e166, e161, sI_p rfl, sI_p rfl])) (show (sI (sI (sI sc66 66 z99.toNatClampNeg z103) 66 z148.toNatClampNeg z152) 67 (y66_4).toNatClampNeg z166).1 67 = upd (sc66.1 67) (y66_4).toNatClampNeg z166 from (by rw [sI_q, sI_p rfl, sI_p rfl]))) p w hw) (by omega) ob; rw [(show (z172).toNatClampNeg = (y66_5).toNatClampNeg + 1 from (by show (z172).toInt.toNat = (y66_5).toInt.toNat + 1; have a0 := h2; unfold In at a0; have a1 := h1; unfold In at a1; have a2 := i70; unfold In at a2; have a3 := j66_4; unfold In at a3; have a4 := i86; unfold In at a4; have a5 := i172; unfold In at a5; have a6 := t_add e172 i70 (in_c 1 rfl) rfl; have a7 := (in_c 1 rfl); unfold In at a7; have a8 := j66_3; unfold In at a8; have a9 := i148; unfold In at a9; have a10 := t_add e148 i145 i86 rfl; have a11 := i145; unfold In at a11; have a12 := (t_mulc 32 (Or.inr e145) j66_4 rfl).1; have a13 := i116; unfold In at a13; have a14 := t_add e116 i113 j66_4 rfl; have a15 := i113; unfold In at a15; have a16 := (t_mulc 32 (Or.inr e113) i86 rfl).1; have a17 := i99; unfold In at a17; have a18 := t_add e99 i96 j66_4 rfl; have a19 := i96; unfold In at a19; have a20 := (t_mulc 32 (Or.inr e96) i86 rfl).1; have oc := oc_78_65; omega))]; refine psi_s (x := z103) (y := z152) g66_2 hd9 ne9 a3 mn ?_ ?_ ?_ ho9; (rw [iu, ← g66_1]; exact xv); (rw [iu, ← g66_1]; exact yv); (rw [iu, ← g66_1]; exact hl9)
            have n66c : ∃ n, PTH (s.1 66) (s.1 68) (x2).toNatClampNeg (y66_3).toInt n ∧ itv (s.1 68) (x2).toNatClampNeg n = (x1).toNatClampNeg ∧ ∀ d, DLB ((s).1 67) ((s).1 68) (x1).toNatClampNeg (x2).toNatClampNeg ((s).2.2.1 65 4) d → n ≤ d (x2).toNatClampNeg := by exact g66_3
            have n66d : 0 < (y66_3).toInt := by exact g66_4
            exact gg_w (by first | exact Nat.le_add_right _ _ | exact gw2 | exact gw3 | exact gwe rfl | exact gwf rfl | exact gwg rfl | exact gwh rfl | omega) (gg_f (gf_cons rfl (gf_cons rfl (gf_cons rfl (gf_cons rfl (gf_cons rfl (gf_cons rfl gf_nil)))))) (ih66 (sI (sI (sI sc66 66 z99.toNatClampNeg z103) 66 z148.toNatClampNeg z152) 67 y66_4.toNatClampNeg z166) y66_3 z85 z172 hI167 (fr_sI rfl (fr_sI rfl (fr_sI rfl hFc66))) (in_w (-2147483648) 160000000 j66_3 rfl) (in_w 0 31 i86 rfl) (in_w 0 32 i172 rfl) n66 n66a n66b n66c n66d (m_up mm66 (t_add e172 i70 (in_c 1 rfl) rfl) (in_w 1 1 (in_c 1 rfl) rfl))))
          · skip
            have i118 := z_eq 0 0 c118 (i_rng z117) rfl
            refine g_aload_n 122 (gd rfl) rfl rfl ?_
            refine g_getA (q2 := 67) 125 (gd rfl) rfl rfl rfl rfl ?_
            refine g_iload 127 (gd rfl) rfl rfl ?_
            refine g_dup2 128 (gd rfl) rfl rfl rfl ?_
            refine g_iaload 129 (gd rfl) rfl (n := 32) rfl (in_ix i86 rfl) (fun z128 e128 => ?_)
            refine g_iconst 1 130 (gd rfl) rfl rfl ?_
            refine g_iload 132 (gd rfl) rfl rfl ?_
            refine g_ishl 133 (gd rfl) rfl (fun z132 e132 => ?_)
            refine g_iconst (-1) 134 (gd rfl) rfl rfl ?_
            refine g_ixor 135 (gd rfl) rfl (fun z134 e134 => ?_)
            refine g_iand 136 (gd rfl) rfl (fun z135 e135 => ?_)
            refine g_iastore 137 (gd rfl) rfl (n := 32) rfl (in_ix i86 rfl) ?_
            have hI136 := inv_sI (q := 67) (j := z85.toNatClampNeg) hI104 rfl (in_w (-2147483648) 2147483647 (i_rng z135) rfl)
            refine g_aload_n 138 (gd rfl) rfl rfl ?_
            refine g_getA (q2 := 66) 141 (gd rfl) rfl rfl rfl rfl ?_
            refine g_iload 143 (gd rfl) rfl rfl ?_
            refine g_bipush 32 145 (gd rfl) rfl rfl ?_
            refine g_imul 146 (gd rfl) rfl (fun z145 e145 => ?_)
            have i145 := in_mulc 32 0 992 (Or.inr e145) j66_4 rfl rfl
            refine g_iload 148 (gd rfl) rfl rfl ?_
            refine g_iadd 149 (gd rfl) rfl (fun z148 e148 => ?_)
            have i148 := in_add 0 1023 e148 i145 i86 rfl rfl
            refine g_dup2 150 (gd rfl) rfl rfl rfl ?_
            refine g_iaload 151 (gd rfl) rfl (n := 1024) rfl (in_ix i148 rfl) (fun z150 e150 => ?_)
            refine g_iload_n 152 (gd rfl) rfl rfl ?_
            refine g_iadd 153 (gd rfl) rfl (fun z152 e152 => ?_)
            refine g_iastore 154 (gd rfl) rfl (n := 1024) rfl (in_ix i148 rfl) ?_
            have hI153 := inv_sI (q := 66) (j := z148.toNatClampNeg) hI136 rfl (in_w (-2147483648) 2147483647 (i_rng z152) rfl)
            refine g_aload_n 155 (gd rfl) rfl rfl ?_
            refine g_getA (q2 := 67) 158 (gd rfl) rfl rfl rfl rfl ?_
            refine g_iload 160 (gd rfl) rfl rfl ?_
            refine g_dup2 161 (gd rfl) rfl rfl rfl ?_
            refine g_iaload 162 (gd rfl) rfl (n := 32) rfl (in_ix j66_4 rfl) (fun z161 e161 => ?_)
            refine g_iconst 1 163 (gd rfl) rfl rfl ?_
            refine g_iload 165 (gd rfl) rfl rfl ?_
            refine g_ishl 166 (gd rfl) rfl (fun z165 e165 => ?_)
            refine g_ior 167 (gd rfl) rfl (fun z166 e166 => ?_)
            refine g_iastore 168 (gd rfl) rfl (n := 32) rfl (in_ix j66_4 rfl) ?_
            have hI167 := inv_sI (q := 67) (j := y66_4.toNatClampNeg) hI153 rfl (in_w (-2147483648) 2147483647 (i_rng z166) rfl)
            refine g_iload 170 (gd rfl) rfl rfl ?_
            refine g_istore 172 (gd rfl) rfl (Nat.le_of_ble_eq_true rfl) ?_
            refine g_iinc 175 (gd rfl) rfl rfl (Nat.le_of_ble_eq_true rfl) (fun z172 e172 => ?_)
            have i172 := in_add 1 32 e172 i70 (in_c 1 rfl) rfl rfl
            refine g_goto 66 (gd rfl) rfl ?_
            have n66 : bt u_65_4 (z85).toNatClampNeg = true := by first | (rw [e_65_4]; exact q_1) | (rw [e_65_4]; exact hr86.2)
            have n66a : (z85).toNatClampNeg = itv (s.1 68) (x2).toNatClampNeg (z172).toNatClampNeg := by rw [(show (z172).toNatClampNeg = (y66_5).toNatClampNeg + 1 from (by show (z172).toInt.toNat = (y66_5).toInt.toNat + 1; exact (have a0 := in_u h2; have a1 := in_u h1; have a2 := in_u i70; have a3 := in_u j66_4; have a4 := in_u i86; have a5 := in_u i172; have a6 := t_add e172 i70 (in_c 1 rfl) rfl; have a7 := in_u ((in_c 1 rfl)); have a8 := in_u j66_3; have a9 := in_u i148; have a10 := t_add e148 i145 i86 rfl; have a11 := in_u i145; have a12 := (t_mulc 32 (Or.inr e145) j66_4 rfl).1; have a13 := in_u i116; have a14 := t_add e116 i113 j66_4 rfl; have a15 := in_u i113; have a16 := (t_mulc 32 (Or.inr e113) i86 rfl).1; have a17 := in_u i99; have a18 := t_add e99 i96 j66_4 rfl; have a19 := in_u i96; have a20 := (t_mulc 32 (Or.inr e96) i86 rfl).1; have oc := oc_78_65; by omega)))]; show z85.toNatClampNeg = (s.1 68 (itv (s.1 68) (x2).toNatClampNeg ((y66_5).toNatClampNeg))).toNatClampNeg; rw [← g66_1, ← (show z85 = s.1 68 (y66_4).toNatClampNeg from (e85.trans (congrFun (hFc66.1 68 rfl) _)))]
            have n66b : PSI (s.1 66) (s.1 67) (((sI (sI (sI (sI sc66 66 z99.toNatClampNeg z103) 67 z85.toNatClampNeg z135) 66 z148.toNatClampNeg z152) 67 y66_4.toNatClampNeg z166)).1 66) (((sI (sI (sI (sI sc66 66 z99.toNatClampNeg z103) 67 z85.toNatClampNeg z135) 66 z148.toNatClampNeg z152) 67 y66_4.toNatClampNeg z166)).1 67) (s.1 68) (x1).toNatClampNeg (x2).toNatClampNeg (s.2.2.1 65 4) (y66_3).toInt (z172).toNatClampNeg := by obtain ⟨d9, hd9⟩ := q_4; obtain ⟨n9, p9, s9, l9⟩ := g66_3; have ne9 := (show (itv (s.1 68) (x2).toNatClampNeg ((y66_5).toNatClampNeg)) ≠ (x1).toNatClampNeg from (by rw [← g66_1]; show (y66_4).toInt.toNat ≠ (x1).toInt.toNat; have a0 := h2; unfold In at a0; have a1 := h1; unfold In at a1; have a2 := i70; unfold In at a2; have a3 := j66_4; unfold In at a3; have a4 := i86; unfold In at a4; have a5 := i172; unfold In at a5; have a6 := t_add e172 i70 (in_c 1 rfl) rfl; have a7 := (in_c 1 rfl); unfold In at a7; have a8 := j66_3; unfold In at a8; have a9 := i148; unfold In at a9; have a10 := t_add e148 i145 i86 rfl; have a11 := i145; unfold In at a11; have a12 := (t_mulc 32 (Or.inr e145) j66_4 rfl).1; have a13 := i116; unfold In at a13; have a14 := t_add e116 i113 j66_4 rfl; have a15 := i113; unfold In at a15; have a16 := (t_mulc 32 (Or.inr e113) i86 rfl).1; have a17 := i99; unfold In at a17; have a18 := t_add e99 i96 j66_4 rfl; have a19 := i96; unfold In at a19; have a20 := (t_mulc 32 (Or.inr e96) i86 rfl).1; have oc := oc_78_65; omega)); have pu := psi_u g66_2 hd9 ne9; have v85 := (show z85 = s.1 68 (y66_4).toNatClampNeg from (e85.trans (congrFun (hFc66.1 68 rfl) _))); have iu : (itv (s.1 68) (x2).toNatClampNeg ((y66_5).toNatClampNeg + 1)) = z85.toNatClampNeg := (by show (s.1 68 (itv (s.1 68) (x2).toNatClampNeg ((y66_5).toNatClampNeg))).toNatClampNeg = _; rw [← g66_1, ← v85]); rw [iu, ← g66_1] at pu; obtain ⟨lt9, ⟨u32, v32, uv⟩, k1, k2⟩ := pu; have nd : n9 = d9 (x2).toNatClampNeg := (by have h8 := (itv_d hd9 n9 (l9 d9 hd9)).2; rw [s9, hd9.1.1.2.2] at h8; omega); have mn : (y66_3).toInt ≤ edL (s.1 66) (s.1 68) (x2).toNatClampNeg (y66_5).toNatClampNeg := p9.1 _ (by omega); have mn2 : (y66_3).toInt ≤ (sc66.1 66 (32 * z85.toNatClampNeg + (y66_4).toNatClampNeg)).toInt := (by have h8 : edL (s.1 66) (s.1 68) (x2).toNatClampNeg (y66_5).toNatClampNeg = (s.1 66 (32 * (itv (s.1 68) (x2).toNatClampNeg ((y66_5).toNatClampNeg + 1)) + (itv (s.1 68) (x2).toNatClampNeg ((y66_5).toNatClampNeg)))).toInt := rfl; rw [iu, ← g66_1] at h8; rw [k1, ← h8]; exact mn); have lb := g66_2.1 z85.toNatClampNeg (y66_4).toNatClampNeg u32 v32; have lb2 := g66_2.1 (y66_4).toNatClampNeg z85.toNatClampNeg v32 u32; have i99 := (show z99.toNatClampNeg = 32 * z85.toNatClampNeg + (y66_4).toNatClampNeg from (by show z99.toInt.toNat = 32 * z85.toInt.toNat + (y66_4).toInt.toNat; have h9 := hr86.1; unfold In at h9; have a0 := h2; unfold In at a0; have a1 := h1; unfold In at a1; have a2 := i70; unfold In at a2; have a3 := j66_4; unfold In at a3; have a4 := i86; unfold In at a4; have a5 := i172; unfold In at a5; have a6 := t_add e172 i70 (in_c 1 rfl) rfl; have a7 := (in_c 1 rfl); unfold In at a7; have a8 := j66_3; unfold In at a8; have a9 := i148; unfold In at a9; have a10 := t_add e148 i145 i86 rfl; have a11 := i145; unfold In at a11; have a12 := (t_mulc 32 (Or.inr e145) j66_4 rfl).1; have a13 := i116; unfold In at a13; have a14 := t_add e116 i113 j66_4 rfl; have a15 := i113; unfold In at a15; have a16 := (t_mulc 32 (Or.inr e113) i86 rfl).1; have a17 := i99; unfold In at a17; have a18 := t_add e99 i96 j66_4 rfl; have a19 := i96; unfold In at a19; have a20 := (t_mulc 32 (Or.inr e96) i86 rfl).1; have oc := oc_78_65; omega)); have i16 := (show z116.toNatClampNeg = 32 * z85.toNatClampNeg + (y66_4).toNatClampNeg from (by show z116.toInt.toNat = 32 * z85.toInt.toNat + (y66_4).toInt.toNat; have h9 := hr86.1; unfold In at h9; have a0 := h2; unfold In at a0; have a1 := h1; unfold In at a1; have a2 := i70; unfold In at a2; have a3 := j66_4; unfold In at a3; have a4 := i86; unfold In at a4; have a5 := i172; unfold In at a5; have a6 := t_add e172 i70 (in_c 1 rfl) rfl; have a7 := (in_c 1 rfl); unfold In at a7; have a8 := j66_3; unfold In at a8; have a9 := i148; unfold In at a9; have a10 := t_add e148 i145 i86 rfl; have a11 := i145; unfold In at a11; have a12 := (t_mulc 32 (Or.inr e145) j66_4 rfl).1; have a13 := i116; unfold In at a13; have a14 := t_add e116 i113 j66_4 rfl; have a15 := i113; unfold In at a15; have a16 := (t_mulc 32 (Or.inr e113) i86 rfl).1; have a17 := i99; unfold In at a17; have a18 := t_add e99 i96 j66_4 rfl; have a19 := i96; unfold In at a19; have a20 := (t_mulc 32 (Or.inr e96) i86 rfl).1; have oc := oc_78_65; omega)); have i48 := (show z148.toNatClampNeg = 32 * (y66_4).toNatClampNeg + z85.toNatClampNeg from (by show z148.toInt.toNat = 32 * (y66_4).toInt.toNat + z85.toInt.toNat; have h9 := hr86.1; unfold In at h9; have a0 := h2; unfold In at a0; have a1 := h1; unfold In at a1; have a2 := i70; unfold In at a2; have a3 := j66_4; unfold In at a3; have a4 := i86; unfold In at a4; have a5 := i172; unfold In at a5; have a6 := t_add e172 i70 (in_c 1 rfl) rfl; have a7 := (in_c 1 rfl); unfold In at a7; have a8 := j66_3; unfold In at a8; have a9 := i148; unfold In at a9; have a10 := t_add e148 i145 i86 rfl; have a11 := i145; unfold In at a11; have a12 := (t_mulc 32 (Or.inr e145) j66_4 rfl).1; have a13 := i116; unfold In at a13; have a14 := t_add e116 i113 j66_4 rfl; have a15 := i113; unfold In at a15; have a16 := (t_mulc 32 (Or.inr e113) i86 rfl).1; have a17 := i99; unfold In at a17; have a18 := t_add e99 i96 j66_4 rfl; have a19 := i96; unfold In at a19; have a20 := (t_mulc 32 (Or.inr e96) i86 rfl).1; have oc := oc_78_65; omega)); have a3 := g66_4; have z101v : z101 = sc66.1 66 (32 * z85.toNatClampNeg + (y66_4).toNatClampNeg) := (by rw [e101, i99]); have xv : (z103).toInt = (sc66.1 66 (32 * z85.toNatClampNeg + (y66_4).toNatClampNeg)).toInt - (y66_3).toInt := (by rw [← z101v]; exact isub_v e103 (by rw [z101v]; omega) (by rw [z101v]; omega)); have z150v : z150 = sc66.1 66 (32 * (y66_4).toNatClampNeg + z85.toNatClampNeg) := (by rw [e150, sI_p rfl, sI_q, i48, i99, up_n (by omega)]); have yv : (z152).toInt = (sc66.1 66 (32 * (y66_4).toNatClampNeg + z85.toNatClampNeg)).toInt + (y66_3).toInt := (by rw [← z150v]; exact iadd_v e152 (by rw [z150v]; omega) (by rw [z150v]; omega)); have z117v : (z117).toInt = (z103).toInt := (by rw [e117, sI_q, i16, i99, up_e]); have ob : bt (sc66.1 67 z85.toNatClampNeg) (y66_4).toNatClampNeg = true := (g66_2.2.1 _ _ u32 v32).mpr (by omega); have hl9 := (show (sI (sI (sI (sI sc66 66 z99.toNatClampNeg z103) 67 z85.toNatClampNeg z135) 66 z148.toNatClampNeg z152) 67 (y66_4).toNatClampNeg z166).1 66 = upd (upd (sc66.1 66) (32 * z85.toNatClampNeg + (y66_4).toNatClampNeg) z103) (32 * (y66_4).toNatClampNeg + z85.toNatClampNeg) z152 from (by rw [sI_p rfl, sI_q, sI_p rfl, sI_q, i99, i48])); have ho9 := opq_s g66_2.2.1 u32 v32 uv hl9 (by omega) (fun p w _ hw => (opx_B (O2 := sc66.1 67) (x := (z103).toInt) hr86.1 j66_4 uv (by have h8 := c118; omega) e132 e134 (show z135 = sc66.1 67 z85.toNatClampNeg &&& z134 from (by rw [e135, e128, sI_p rfl])) e165 (show z166 = sc66.1 67 (y66_4).toNatClampNeg ||| z165 from (by rw [e166, e161, sI_p rfl, sI_q, up_n (fun z => uv z.symm), sI_p rfl])) (show (sI (sI (sI (sI sc66 66 z99.toNatClampNeg z103) 67 z85.toNatClampNeg z135) 66 z148.toNatClampNeg z152) 67 (y66_4).toNatClampNeg z166).1 67 = upd (upd (sc66.1 67) z85.toNatClampNeg z135) (y66_4).toNatClampNeg z166 from (by rw [sI_q, sI_p rfl, sI_q, sI_p rfl]))) p w hw) (by omega) ob; rw [(show (z172).toNatClampNeg = (y66_5).toNatClampNeg + 1 from (by show (z172).toInt.toNat = (y66_5).toInt.toNat + 1; have a0 := h2; unfold In at a0; have a1 := h1; unfold In at a1; have a2 := i70; unfold In at a2; have a3 := j66_4; unfold In at a3; have a4 := i86; unfold In at a4; have a5 := i172; unfold In at a5; have a6 := t_add e172 i70 (in_c 1 rfl) rfl; have a7 := (in_c 1 rfl); unfold In at a7; have a8 := j66_3; unfold In at a8; have a9 := i148; unfold In at a9; have a10 := t_add e148 i145 i86 rfl; have a11 := i145; unfold In at a11; have a12 := (t_mulc 32 (Or.inr e145) j66_4 rfl).1; have a13 := i116; unfold In at a13; have a14 := t_add e116 i113 j66_4 rfl; have a15 := i113; unfold In at a15; have a16 := (t_mulc 32 (Or.inr e113) i86 rfl).1; have a17 := i99; unfold In at a17; have a18 := t_add e99 i96 j66_4 rfl; have a19 := i96; unfold In at a19; have a20 := (t_mulc 32 (Or.inr e96) i86 rfl).1; have oc := oc_78_65; omega))]; refine psi_s (x := z103) (y := z152) g66_2 hd9 ne9 a3 mn ?_ ?_ ?_ ho9; (rw [iu, ← g66_1]; exact xv); (rw [iu, ← g66_1]; exact yv); (rw [iu, ← g66_1]; exact hl9)
            have n66c : ∃ n, PTH (s.1 66) (s.1 68) (x2).toNatClampNeg (y66_3).toInt n ∧ itv (s.1 68) (x2).toNatClampNeg n = (x1).toNatClampNeg ∧ ∀ d, DLB ((s).1 67) ((s).1 68) (x1).toNatClampNeg (x2).toNatClampNeg ((s).2.2.1 65 4) d → n ≤ d (x2).toNatClampNeg := by exact g66_3
            have n66d : 0 < (y66_3).toInt := by exact g66_4
            exact gg_w (by first | exact Nat.le_add_right _ _ | exact gw2 | exact gw3 | exact gwe rfl | exact gwf rfl | exact gwg rfl | exact gwh rfl | omega) (gg_f (gf_cons rfl (gf_cons rfl (gf_cons rfl (gf_cons rfl (gf_cons rfl (gf_cons rfl gf_nil)))))) (ih66 (sI (sI (sI (sI sc66 66 z99.toNatClampNeg z103) 67 z85.toNatClampNeg z135) 66 z148.toNatClampNeg z152) 67 y66_4.toNatClampNeg z166) y66_3 z85 z172 hI167 (fr_sI rfl (fr_sI rfl (fr_sI rfl (fr_sI rfl hFc66)))) (in_w (-2147483648) 160000000 j66_3 rfl) (in_w 0 31 i86 rfl) (in_w 0 32 i172 rfl) n66 n66a n66b n66c n66d (m_up mm66 (t_add e172 i70 (in_c 1 rfl) rfl) (in_w 1 1 (in_c 1 rfl) rfl))))
  have ct9 : ∀ (k9 : Nat) (sc9 : GS) (y9_3 : Int32) (y9_4 : Int32) (y9_5 : Int32), Inv sc9 → Fr fm_78_65 s sc9 → (In y9_3 (-2147483648) 160000000) → (In y9_4 0 31) → (In y9_5 0 32) → (bt u_65_4 (y9_4).toNatClampNeg = true) → ((y9_4).toNatClampNeg = itv (s.1 68) (x2).toNatClampNeg (y9_5).toNatClampNeg) → (PTH (s.1 66) (s.1 68) (x2).toNatClampNeg (y9_3).toInt (y9_5).toNatClampNeg) → (∀ d, DLB ((s).1 67) ((s).1 68) (x1).toNatClampNeg (x2).toNatClampNeg ((s).2.2.1 65 4) d → (y9_5).toNatClampNeg ≤ d (x2).toNatClampNeg) → (0 < (y9_3).toInt) → ((sc9).1 66 = s.1 66 ∧ (sc9).1 67 = s.1 67) → 32 - (y9_5).toInt < (k9 : Int) → GG Z (d - 1) 78 post (gx xp) (29702 + k9 * 900) 9 (fun j => xlook j [(0, .ref (A 65)), (1, .int x1), (2, .int x2), (3, .int y9_3), (4, .int y9_4), (5, .int y9_5)]) [] (WW Z A sc9 ++ ex) 0 0 := by
    intro k9
    induction k9 with
    | zero => intro sc9 y9_3 y9_4 y9_5 hIc9 hFc9 j9_3 j9_4 j9_5 g9_0 g9_1 g9_2 g9_3 g9_4 g9_5 mm9; exact m_no mm9 j9_5 rfl
    | succ k9 ih9 =>
      intro sc9 y9_3 y9_4 y9_5 hIc9 hFc9 j9_3 j9_4 j9_5 g9_0 g9_1 g9_2 g9_3 g9_4 g9_5 mm9
      refine gg_w (M := 29702 + k9 * 900 + 900) gws ?_
      refine g_iload 11 (gd rfl) rfl rfl ?_
      refine g_bipush 32 13 (gd rfl) rfl rfl ?_
      refine g_cmp_ge 16 60 (gd rfl) rfl rfl (fun c13 => ?_) (fun c13 => ?_)
      · skip
        have i13 := r_le2 32 32 c13 (in_c 32 rfl) j9_5 rfl
        refine g_iload_n 61 (gd rfl) rfl rfl ?_
        refine g_istore 63 (gd rfl) rfl (Nat.le_of_ble_eq_true rfl) ?_
        refine g_iconst 0 64 (gd rfl) rfl rfl ?_
        refine g_istore 66 (gd rfl) rfl (Nat.le_of_ble_eq_true rfl) ?_
        have n66 : bt u_65_4 (x2).toNatClampNeg = true := by first | (rw [e_65_4]; exact q_1) | (rw [e_65_4]; exact hr86.2)
        have n66a : (x2).toNatClampNeg = itv (s.1 68) (x2).toNatClampNeg ((Int32.ofInt 0)).toNatClampNeg := by exact (show (x2).toNatClampNeg = itv _ _ 0 from rfl)
        have n66b : PSI (s.1 66) (s.1 67) ((sc9).1 66) ((sc9).1 67) (s.1 68) (x1).toNatClampNeg (x2).toNatClampNeg (s.2.2.1 65 4) (y9_3).toInt ((Int32.ofInt 0)).toNatClampNeg := by exact (show PSI _ _ _ _ _ _ _ _ _ 0 from (by rw [g9_5.1, g9_5.2]; exact psi_0 q_2 q_3))
        have n66c : ∃ n, PTH (s.1 66) (s.1 68) (x2).toNatClampNeg (y9_3).toInt n ∧ itv (s.1 68) (x2).toNatClampNeg n = (x1).toNatClampNeg ∧ ∀ d, DLB ((s).1 67) ((s).1 68) (x1).toNatClampNeg (x2).toNatClampNeg ((s).2.2.1 65 4) d → n ≤ d (x2).toNatClampNeg := by exfalso; obtain ⟨d9, hd9⟩ := q_4; have h8 := g9_3 d9 hd9; have h7 := hd9.2.2.1; have h6 : (y9_5).toNatClampNeg = (y9_5).toInt.toNat := rfl; exact (have a0 := in_u h2; have a1 := in_u h1; have a2 := in_u i13; have a3 := in_u j9_4; have a4 := in_u ((in_c 0 rfl)); have a5 := in_u j9_3; have oc := oc_78_65; by omega)
        have n66d : 0 < (y9_3).toInt := by exact g9_4
        exact gg_w (by first | exact Nat.le_add_right _ _ | exact gw2 | exact gw3 | exact gwe rfl | exact gwf rfl | exact gwg rfl | exact gwh rfl | omega) (gg_f (gf_cons rfl (gf_cons rfl (gf_cons rfl (gf_cons rfl (gf_cons rfl (gf_cons rfl gf_nil)))))) (ct66 33 sc9 y9_3 x2 (Int32.ofInt 0) hIc9 hFc9 (in_w (-2147483648) 160000000 j9_3 rfl) (in_w 0 31 h2 rfl) (in_w 0 32 (in_c 0 rfl) rfl) n66 n66a n66b n66c n66d (m_in 33 (in_w 0 32 (in_c 0 rfl) rfl) rfl)))
      · skip
        have i13 := r_lt1 0 31 c13 j9_5 (in_c 32 rfl) rfl
        refine g_iload 18 (gd rfl) rfl rfl ?_
        refine g_iload_n 19 (gd rfl) rfl rfl ?_
        refine g_cmp_eq 22 60 (gd rfl) rfl rfl (fun c19 => ?_) (fun c19 => ?_)
        · skip
          refine g_iload_n 61 (gd rfl) rfl rfl ?_
          refine g_istore 63 (gd rfl) rfl (Nat.le_of_ble_eq_true rfl) ?_
          refine g_iconst 0 64 (gd rfl) rfl rfl ?_
          refine g_istore 66 (gd rfl) rfl (Nat.le_of_ble_eq_true rfl) ?_
          have n66 : bt u_65_4 (x2).toNatClampNeg = true := by first | (rw [e_65_4]; exact q_1) | (rw [e_65_4]; exact hr86.2)
          have n66a : (x2).toNatClampNeg = itv (s.1 68) (x2).toNatClampNeg ((Int32.ofInt 0)).toNatClampNeg := by exact (show (x2).toNatClampNeg = itv _ _ 0 from rfl)
          have n66b : PSI (s.1 66) (s.1 67) ((sc9).1 66) ((sc9).1 67) (s.1 68) (x1).toNatClampNeg (x2).toNatClampNeg (s.2.2.1 65 4) (y9_3).toInt ((Int32.ofInt 0)).toNatClampNeg := by exact (show PSI _ _ _ _ _ _ _ _ _ 0 from (by rw [g9_5.1, g9_5.2]; exact psi_0 q_2 q_3))
          have n66c : ∃ n, PTH (s.1 66) (s.1 68) (x2).toNatClampNeg (y9_3).toInt n ∧ itv (s.1 68) (x2).toNatClampNeg n = (x1).toNatClampNeg ∧ ∀ d, DLB ((s).1 67) ((s).1 68) (x1).toNatClampNeg (x2).toNatClampNeg ((s).2.2.1 65 4) d → n ≤ d (x2).toNatClampNeg := by exact ⟨_, g9_2, (show (itv (s.1 68) (x2).toNatClampNeg ((y9_5).toNatClampNeg)) = (x1).toNatClampNeg from (g9_1).symm.trans (congrArg Int.toNat c19)), g9_3⟩
          have n66d : 0 < (y9_3).toInt := by exact g9_4
          exact gg_w (by first | exact Nat.le_add_right _ _ | exact gw2 | exact gw3 | exact gwe rfl | exact gwf rfl | exact gwg rfl | exact gwh rfl | omega) (gg_f (gf_cons rfl (gf_cons rfl (gf_cons rfl (gf_cons rfl (gf_cons rfl (gf_cons rfl gf_nil)))))) (ct66 33 sc9 y9_3 x2 (Int32.ofInt 0) hIc9 hFc9 (in_w (-2147483648) 160000000 j9_3 rfl) (in_w 0 31 h2 rfl) (in_w 0 32 (in_c 0 rfl) rfl) n66 n66a n66b n66c n66d (m_in 33 (in_w 0 32 (in_c 0 rfl) rfl) rfl)))
        · skip
          refine g_iload_n 23 (gd rfl) rfl rfl ?_
          refine g_aload_n 24 (gd rfl) rfl rfl ?_
          refine g_getA (q2 := 66) 27 (gd rfl) rfl rfl rfl rfl ?_
          refine g_aload_n 28 (gd rfl) rfl rfl ?_
          refine g_getA (q2 := 68) 31 (gd rfl) rfl rfl rfl rfl ?_
          refine g_iload 33 (gd rfl) rfl rfl ?_
          refine g_iaload 34 (gd rfl) rfl (n := 32) rfl (in_ix j9_4 rfl) (fun z33 e33 => ?_)
          have i33 := inv_I hIc9 (n := 32) (t := 0) (-1) 319 rfl (in_ix j9_4 rfl) rfl e33
          have hr34 : In z33 0 31 ∧ bt (s.2.2.1 65 4) (z33).toNatClampNeg = true := by have hf := (hFc9 : Fr fm_78_65 s sc9).1 68 rfl; have hr := q_0 (y9_4).toNatClampNeg (by rw [← e_65_4]; exact g9_0) (by intro w; apply c19; have hq := j9_4; unfold In at hq; have hw : (((y9_4).toInt.toNat : Nat) : Int) = (x1).toInt := w; omega); rw [← hf, ← e33] at hr; exact hr
          have i34 : In z33 0 31 := by exact hr34.1
          refine g_bipush 32 36 (gd rfl) rfl rfl ?_
          refine g_imul 37 (gd rfl) rfl (fun z36 e36 => ?_)
          have i36 := in_mulc 32 0 992 (Or.inr e36) i34 rfl rfl
          refine g_iload 39 (gd rfl) rfl rfl ?_
          refine g_iadd 40 (gd rfl) rfl (fun z39 e39 => ?_)
          have i39 := in_add 0 1023 e39 i36 j9_4 rfl rfl
          refine g_iaload 41 (gd rfl) rfl (n := 1024) rfl (in_ix i39 rfl) (fun z40 e40 => ?_)
          refine g_calls (As := [.int y9_3, .int z40]) (r := []) 44 (gd rfl) rfl rfl rfl rfl rfl (Nat.le_of_ble_eq_true rfl) (mc := 0) (ms := 0) (Nat.zero_le _) (Nat.zero_le _) (P := fun v u => _) ?_ (fun v u h => h)
          intro po41 xx41 hp41 hx41
          refine g_enter2 (k := 424) (N := 300) (by first | exact dq1 hd rfl | exact dq0 hd rfl | exact dq2 hd rfl | exact dq3 hd rfl | omega) rfl (Nat.le_of_ble_eq_true rfl) ?_
          refine g_iload_n 1 (gd rfl) rfl rfl ?_
          refine g_iload_n 2 (gd rfl) rfl rfl ?_
          refine g_cmp_gt 5 9 (gd rfl) rfl rfl (fun c41x2 => ?_) (fun c41x2 => ?_)
          · skip
            have i41x2 := r_lt1 (-2147483648) 159999999 c41x2 (i_rng z40) j9_3 rfl
            have i41x2a := r_lt2 (-2147483647) 160000000 c41x2 (i_rng z40) j9_3 rfl
            refine g_iload_n 10 (gd rfl) rfl rfl ?_
            refine g_ireturn (gd rfl) rfl rfl (hp41 _ _ ?_)
            show GG _ _ _ _ _ _ _ _ [.int z40] _ _ _
            refine g_istore_n 45 (gd rfl) rfl (Nat.le_of_ble_eq_true rfl) ?_
            refine g_aload_n 46 (gd rfl) rfl rfl ?_
            refine g_getA (q2 := 68) 49 (gd rfl) rfl rfl rfl rfl ?_
            refine g_iload 51 (gd rfl) rfl rfl ?_
            refine g_iaload 52 (gd rfl) rfl (n := 32) rfl (in_ix j9_4 rfl) (fun z51 e51 => ?_)
            have q51 : z33 = z51 := (e33).trans e51.symm
            subst q51
            refine g_istore 54 (gd rfl) rfl (Nat.le_of_ble_eq_true rfl) ?_
            refine g_iinc 57 (gd rfl) rfl rfl (Nat.le_of_ble_eq_true rfl) (fun z54 e54 => ?_)
            have i54 := in_add 1 32 e54 i13 (in_c 1 rfl) rfl rfl
            refine g_goto 9 (gd rfl) rfl ?_
            have n9 : bt u_65_4 (z33).toNatClampNeg = true := by first | (rw [e_65_4]; exact q_1) | (rw [e_65_4]; exact hr34.2)
            have n9a : (z33).toNatClampNeg = itv (s.1 68) (x2).toNatClampNeg (z54).toNatClampNeg := by rw [(show (z54).toNatClampNeg = (y9_5).toNatClampNeg + 1 from (by show (z54).toInt.toNat = (y9_5).toInt.toNat + 1; exact (have a0 := in_u h2; have a1 := in_u h1; have a2 := in_u i13; have a3 := in_u j9_4; have a4 := in_u i54; have a5 := t_add e54 i13 (in_c 1 rfl) rfl; have a6 := in_u ((in_c 1 rfl)); have a7 := in_u i34; have a8 := in_u i41x2; have a9 := in_u i39; have a10 := t_add e39 i36 j9_4 rfl; have a11 := in_u i36; have a12 := (t_mulc 32 (Or.inr e36) i34 rfl).1; have oc := oc_78_65; by omega)))]; show z33.toNatClampNeg = (s.1 68 (itv (s.1 68) (x2).toNatClampNeg ((y9_5).toNatClampNeg))).toNatClampNeg; rw [← g9_1, ← (show z33 = s.1 68 (y9_4).toNatClampNeg from (e33.trans (congrFun (hFc9.1 68 rfl) _)))]
            have n9b : PTH (s.1 66) (s.1 68) (x2).toNatClampNeg (z40).toInt (z54).toNatClampNeg := by have v33 := (show z33 = s.1 68 (y9_4).toNatClampNeg from (e33.trans (congrFun (hFc9.1 68 rfl) _))); have e40x := (show (z40).toInt = edL (s.1 66) (s.1 68) (x2).toNatClampNeg (y9_5).toNatClampNeg from (by show (z40).toInt = (s.1 66 (32 * (s.1 68 (itv (s.1 68) (x2).toNatClampNeg ((y9_5).toNatClampNeg))).toNatClampNeg + (itv (s.1 68) (x2).toNatClampNeg ((y9_5).toNatClampNeg)))).toInt; rw [← g9_1, ← (show z33 = s.1 68 (y9_4).toNatClampNeg from (e33.trans (congrFun (hFc9.1 68 rfl) _))), e40, (show z39.toNatClampNeg = 32 * z33.toNatClampNeg + (y9_4).toNatClampNeg from (by show z39.toInt.toNat = 32 * z33.toInt.toNat + (y9_4).toInt.toNat; have h9 := hr34.1; unfold In at h9; exact (have a0 := in_u h2; have a1 := in_u h1; have a2 := in_u i13; have a3 := in_u j9_4; have a4 := in_u i54; have a5 := t_add e54 i13 (in_c 1 rfl) rfl; have a6 := in_u ((in_c 1 rfl)); have a7 := in_u i34; have a8 := in_u i41x2; have a9 := in_u i39; have a10 := t_add e39 i36 j9_4 rfl; have a11 := in_u i36; have a12 := (t_mulc 32 (Or.inr e36) i34 rfl).1; have oc := oc_78_65; by omega))), g9_5.1])); have u32 : z33.toNatClampNeg < 32 := (by show z33.toInt.toNat < 32; have h9 := hr34.1; unfold In at h9; omega); have v32 : (y9_4).toNatClampNeg < 32 := (by show (y9_4).toInt.toNat < 32; exact (have a0 := in_u h2; have a1 := in_u h1; have a2 := in_u i13; have a3 := in_u j9_4; have a4 := in_u i54; have a5 := t_add e54 i13 (in_c 1 rfl) rfl; have a6 := in_u ((in_c 1 rfl)); have a7 := in_u i34; have a8 := in_u i41x2; have a9 := in_u i39; have a10 := t_add e39 i36 j9_4 rfl; have a11 := in_u i36; have a12 := (t_mulc 32 (Or.inr e36) i34 rfl).1; have oc := oc_78_65; by omega)); have lb := q_2 z33.toNatClampNeg (y9_4).toNatClampNeg u32 v32; have lb2 := q_2 (y9_4).toNatClampNeg z33.toNatClampNeg v32 u32; have z40v : (s.1 66 (32 * z33.toNatClampNeg + (y9_4).toNatClampNeg)).toInt = (z40).toInt := (by rw [e40, (show z39.toNatClampNeg = 32 * z33.toNatClampNeg + (y9_4).toNatClampNeg from (by show z39.toInt.toNat = 32 * z33.toInt.toNat + (y9_4).toInt.toNat; have h9 := hr34.1; unfold In at h9; exact (have a0 := in_u h2; have a1 := in_u h1; have a2 := in_u i13; have a3 := in_u j9_4; have a4 := in_u i54; have a5 := t_add e54 i13 (in_c 1 rfl) rfl; have a6 := in_u ((in_c 1 rfl)); have a7 := in_u i34; have a8 := in_u i41x2; have a9 := in_u i39; have a10 := t_add e39 i36 j9_4 rfl; have a11 := in_u i36; have a12 := (t_mulc 32 (Or.inr e36) i34 rfl).1; have oc := oc_78_65; by omega))), g9_5.1]); rw [z40v] at lb; rw [(show (z54).toNatClampNeg = (y9_5).toNatClampNeg + 1 from (by show (z54).toInt.toNat = (y9_5).toInt.toNat + 1; exact (have a0 := in_u h2; have a1 := in_u h1; have a2 := in_u i13; have a3 := in_u j9_4; have a4 := in_u i54; have a5 := t_add e54 i13 (in_c 1 rfl) rfl; have a6 := in_u ((in_c 1 rfl)); have a7 := in_u i34; have a8 := in_u i41x2; have a9 := in_u i39; have a10 := t_add e39 i36 j9_4 rfl; have a11 := in_u i36; have a12 := (t_mulc 32 (Or.inr e36) i34 rfl).1; have oc := oc_78_65; by omega)))]; first | exact pth_k g9_2 (by rw [← e40x]; exact (have a0 := in_u h2; have a1 := in_u h1; have a2 := in_u i13; have a3 := in_u j9_4; have a4 := in_u i54; have a5 := t_add e54 i13 (in_c 1 rfl) rfl; have a6 := in_u ((in_c 1 rfl)); have a7 := in_u i34; have a8 := in_u i41x2; have a9 := in_u i39; have a10 := t_add e39 i36 j9_4 rfl; have a11 := in_u i36; have a12 := (t_mulc 32 (Or.inr e36) i34 rfl).1; have oc := oc_78_65; by omega)) (by rw [← e40x]; have h8 := lb.2; have h9 := lb2.1; omega) | exact pth_t g9_2 e40x (by exact (have a0 := in_u h2; have a1 := in_u h1; have a2 := in_u i13; have a3 := in_u j9_4; have a4 := in_u i54; have a5 := t_add e54 i13 (in_c 1 rfl) rfl; have a6 := in_u ((in_c 1 rfl)); have a7 := in_u i34; have a8 := in_u i41x2; have a9 := in_u i39; have a10 := t_add e39 i36 j9_4 rfl; have a11 := in_u i36; have a12 := (t_mulc 32 (Or.inr e36) i34 rfl).1; have oc := oc_78_65; by omega))
            have n9c : ∀ d, DLB ((s).1 67) ((s).1 68) (x1).toNatClampNeg (x2).toNatClampNeg ((s).2.2.1 65 4) d → (z54).toNatClampNeg ≤ d (x2).toNatClampNeg := by intro d hd; rw [(show (z54).toNatClampNeg = (y9_5).toNatClampNeg + 1 from (by show (z54).toInt.toNat = (y9_5).toInt.toNat + 1; exact (have a0 := in_u h2; have a1 := in_u h1; have a2 := in_u i13; have a3 := in_u j9_4; have a4 := in_u i54; have a5 := t_add e54 i13 (in_c 1 rfl) rfl; have a6 := in_u ((in_c 1 rfl)); have a7 := in_u i34; have a8 := in_u i41x2; have a9 := in_u i39; have a10 := t_add e39 i36 j9_4 rfl; have a11 := in_u i36; have a12 := (t_mulc 32 (Or.inr e36) i34 rfl).1; have oc := oc_78_65; by omega)))]; exact itv_l hd (g9_3 d hd) (show (itv (s.1 68) (x2).toNatClampNeg ((y9_5).toNatClampNeg)) ≠ (x1).toNatClampNeg from (by rw [← g9_1]; show (y9_4).toInt.toNat ≠ (x1).toInt.toNat; exact (have a0 := in_u h2; have a1 := in_u h1; have a2 := in_u i13; have a3 := in_u j9_4; have a4 := in_u i54; have a5 := t_add e54 i13 (in_c 1 rfl) rfl; have a6 := in_u ((in_c 1 rfl)); have a7 := in_u i34; have a8 := in_u i41x2; have a9 := in_u i39; have a10 := t_add e39 i36 j9_4 rfl; have a11 := in_u i36; have a12 := (t_mulc 32 (Or.inr e36) i34 rfl).1; have oc := oc_78_65; by omega)))
            have n9d : 0 < (z40).toInt := by first | exact g9_4 | (obtain ⟨d9, hd9⟩ := q_4; have ee := (itv_e hd9 (itv_l hd9 (g9_3 d9 hd9) (show (itv (s.1 68) (x2).toNatClampNeg ((y9_5).toNatClampNeg)) ≠ (x1).toNatClampNeg from (by rw [← g9_1]; show (y9_4).toInt.toNat ≠ (x1).toInt.toNat; exact (have a0 := in_u h2; have a1 := in_u h1; have a2 := in_u i13; have a3 := in_u j9_4; have a4 := in_u i54; have a5 := t_add e54 i13 (in_c 1 rfl) rfl; have a6 := in_u ((in_c 1 rfl)); have a7 := in_u i34; have a8 := in_u i41x2; have a9 := in_u i39; have a10 := t_add e39 i36 j9_4 rfl; have a11 := in_u i36; have a12 := (t_mulc 32 (Or.inr e36) i34 rfl).1; have oc := oc_78_65; by omega))))).1; have pp := (q_3 _ _ ee.1 ee.2.1).mp ee.2.2; have pp2 : 0 < edL (s.1 66) (s.1 68) (x2).toNatClampNeg (y9_5).toNatClampNeg := pp; rw [← (show (z40).toInt = edL (s.1 66) (s.1 68) (x2).toNatClampNeg (y9_5).toNatClampNeg from (by show (z40).toInt = (s.1 66 (32 * (s.1 68 (itv (s.1 68) (x2).toNatClampNeg ((y9_5).toNatClampNeg))).toNatClampNeg + (itv (s.1 68) (x2).toNatClampNeg ((y9_5).toNatClampNeg)))).toInt; rw [← g9_1, ← (show z33 = s.1 68 (y9_4).toNatClampNeg from (e33.trans (congrFun (hFc9.1 68 rfl) _))), e40, (show z39.toNatClampNeg = 32 * z33.toNatClampNeg + (y9_4).toNatClampNeg from (by show z39.toInt.toNat = 32 * z33.toInt.toNat + (y9_4).toInt.toNat; have h9 := hr34.1; unfold In at h9; exact (have a0 := in_u h2; have a1 := in_u h1; have a2 := in_u i13; have a3 := in_u j9_4; have a4 := in_u i54; have a5 := t_add e54 i13 (in_c 1 rfl) rfl; have a6 := in_u ((in_c 1 rfl)); have a7 := in_u i34; have a8 := in_u i41x2; have a9 := in_u i39; have a10 := t_add e39 i36 j9_4 rfl; have a11 := in_u i36; have a12 := (t_mulc 32 (Or.inr e36) i34 rfl).1; have oc := oc_78_65; by omega))), g9_5.1]))] at pp2; exact pp2)
            have n9e : (sc9).1 66 = s.1 66 ∧ (sc9).1 67 = s.1 67 := by exact g9_5
            exact gg_w (by first | exact Nat.le_add_right _ _ | exact gw2 | exact gw3 | exact gwe rfl | exact gwf rfl | exact gwg rfl | exact gwh rfl | omega) (gg_f (gf_cons rfl (gf_cons rfl (gf_cons rfl (gf_cons rfl (gf_cons rfl (gf_cons rfl gf_nil)))))) (ih9 sc9 z40 z33 z54 hIc9 hFc9 (in_w (-2147483648) 160000000 i41x2 rfl) (in_w 0 31 i34 rfl) (in_w 0 32 i54 rfl) n9 n9a n9b n9c n9d n9e (m_up mm9 (t_add e54 i13 (in_c 1 rfl) rfl) (in_w 1 1 (in_c 1 rfl) rfl))))
          · skip
            refine g_iload_n 6 (gd rfl) rfl rfl ?_
            refine g_goto 10 (gd rfl) rfl ?_
            refine g_ireturn (gd rfl) rfl rfl (hp41 _ _ ?_)
            show GG _ _ _ _ _ _ _ _ [.int y9_3] _ _ _
            refine g_istore_n 45 (gd rfl) rfl (Nat.le_of_ble_eq_true rfl) ?_
            refine g_aload_n 46 (gd rfl) rfl rfl ?_
            refine g_getA (q2 := 68) 49 (gd rfl) rfl rfl rfl rfl ?_
            refine g_iload 51 (gd rfl) rfl rfl ?_
            refine g_iaload 52 (gd rfl) rfl (n := 32) rfl (in_ix j9_4 rfl) (fun z51 e51 => ?_)
            have q51 : z33 = z51 := (e33).trans e51.symm
            subst q51
            refine g_istore 54 (gd rfl) rfl (Nat.le_of_ble_eq_true rfl) ?_
            refine g_iinc 57 (gd rfl) rfl rfl (Nat.le_of_ble_eq_true rfl) (fun z54 e54 => ?_)
            have i54 := in_add 1 32 e54 i13 (in_c 1 rfl) rfl rfl
            refine g_goto 9 (gd rfl) rfl ?_
            have n9 : bt u_65_4 (z33).toNatClampNeg = true := by first | (rw [e_65_4]; exact q_1) | (rw [e_65_4]; exact hr34.2)
            have n9a : (z33).toNatClampNeg = itv (s.1 68) (x2).toNatClampNeg (z54).toNatClampNeg := by rw [(show (z54).toNatClampNeg = (y9_5).toNatClampNeg + 1 from (by show (z54).toInt.toNat = (y9_5).toInt.toNat + 1; exact (have a0 := in_u h2; have a1 := in_u h1; have a2 := in_u i13; have a3 := in_u j9_4; have a4 := in_u i54; have a5 := t_add e54 i13 (in_c 1 rfl) rfl; have a6 := in_u ((in_c 1 rfl)); have a7 := in_u i34; have a8 := in_u j9_3; have a9 := in_u i39; have a10 := t_add e39 i36 j9_4 rfl; have a11 := in_u i36; have a12 := (t_mulc 32 (Or.inr e36) i34 rfl).1; have oc := oc_78_65; by omega)))]; show z33.toNatClampNeg = (s.1 68 (itv (s.1 68) (x2).toNatClampNeg ((y9_5).toNatClampNeg))).toNatClampNeg; rw [← g9_1, ← (show z33 = s.1 68 (y9_4).toNatClampNeg from (e33.trans (congrFun (hFc9.1 68 rfl) _)))]
            have n9b : PTH (s.1 66) (s.1 68) (x2).toNatClampNeg (y9_3).toInt (z54).toNatClampNeg := by have v33 := (show z33 = s.1 68 (y9_4).toNatClampNeg from (e33.trans (congrFun (hFc9.1 68 rfl) _))); have e40x := (show (z40).toInt = edL (s.1 66) (s.1 68) (x2).toNatClampNeg (y9_5).toNatClampNeg from (by show (z40).toInt = (s.1 66 (32 * (s.1 68 (itv (s.1 68) (x2).toNatClampNeg ((y9_5).toNatClampNeg))).toNatClampNeg + (itv (s.1 68) (x2).toNatClampNeg ((y9_5).toNatClampNeg)))).toInt; rw [← g9_1, ← (show z33 = s.1 68 (y9_4).toNatClampNeg from (e33.trans (congrFun (hFc9.1 68 rfl) _))), e40, (show z39.toNatClampNeg = 32 * z33.toNatClampNeg + (y9_4).toNatClampNeg from (by show z39.toInt.toNat = 32 * z33.toInt.toNat + (y9_4).toInt.toNat; have h9 := hr34.1; unfold In at h9; exact (have a0 := in_u h2; have a1 := in_u h1; have a2 := in_u i13; have a3 := in_u j9_4; have a4 := in_u i54; have a5 := t_add e54 i13 (in_c 1 rfl) rfl; have a6 := in_u ((in_c 1 rfl)); have a7 := in_u i34; have a8 := in_u j9_3; have a9 := in_u i39; have a10 := t_add e39 i36 j9_4 rfl; have a11 := in_u i36; have a12 := (t_mulc 32 (Or.inr e36) i34 rfl).1; have oc := oc_78_65; by omega))), g9_5.1])); have u32 : z33.toNatClampNeg < 32 := (by show z33.toInt.toNat < 32; have h9 := hr34.1; unfold In at h9; omega); have v32 : (y9_4).toNatClampNeg < 32 := (by show (y9_4).toInt.toNat < 32; exact (have a0 := in_u h2; have a1 := in_u h1; have a2 := in_u i13; have a3 := in_u j9_4; have a4 := in_u i54; have a5 := t_add e54 i13 (in_c 1 rfl) rfl; have a6 := in_u ((in_c 1 rfl)); have a7 := in_u i34; have a8 := in_u j9_3; have a9 := in_u i39; have a10 := t_add e39 i36 j9_4 rfl; have a11 := in_u i36; have a12 := (t_mulc 32 (Or.inr e36) i34 rfl).1; have oc := oc_78_65; by omega)); have lb := q_2 z33.toNatClampNeg (y9_4).toNatClampNeg u32 v32; have lb2 := q_2 (y9_4).toNatClampNeg z33.toNatClampNeg v32 u32; have z40v : (s.1 66 (32 * z33.toNatClampNeg + (y9_4).toNatClampNeg)).toInt = (z40).toInt := (by rw [e40, (show z39.toNatClampNeg = 32 * z33.toNatClampNeg + (y9_4).toNatClampNeg from (by show z39.toInt.toNat = 32 * z33.toInt.toNat + (y9_4).toInt.toNat; have h9 := hr34.1; unfold In at h9; exact (have a0 := in_u h2; have a1 := in_u h1; have a2 := in_u i13; have a3 := in_u j9_4; have a4 := in_u i54; have a5 := t_add e54 i13 (in_c 1 rfl) rfl; have a6 := in_u ((in_c 1 rfl)); have a7 := in_u i34; have a8 := in_u j9_3; have a9 := in_u i39; have a10 := t_add e39 i36 j9_4 rfl; have a11 := in_u i36; have a12 := (t_mulc 32 (Or.inr e36) i34 rfl).1; have oc := oc_78_65; by omega))), g9_5.1]); rw [z40v] at lb; rw [(show (z54).toNatClampNeg = (y9_5).toNatClampNeg + 1 from (by show (z54).toInt.toNat = (y9_5).toInt.toNat + 1; exact (have a0 := in_u h2; have a1 := in_u h1; have a2 := in_u i13; have a3 := in_u j9_4; have a4 := in_u i54; have a5 := t_add e54 i13 (in_c 1 rfl) rfl; have a6 := in_u ((in_c 1 rfl)); have a7 := in_u i34; have a8 := in_u j9_3; have a9 := in_u i39; have a10 := t_add e39 i36 j9_4 rfl; have a11 := in_u i36; have a12 := (t_mulc 32 (Or.inr e36) i34 rfl).1; have oc := oc_78_65; by omega)))]; first | exact pth_k g9_2 (by rw [← e40x]; exact (have a0 := in_u h2; have a1 := in_u h1; have a2 := in_u i13; have a3 := in_u j9_4; have a4 := in_u i54; have a5 := t_add e54 i13 (in_c 1 rfl) rfl; have a6 := in_u ((in_c 1 rfl)); have a7 := in_u i34; have a8 := in_u j9_3; have a9 := in_u i39; have a10 := t_add e39 i36 j9_4 rfl; have a11 := in_u i36; have a12 := (t_mulc 32 (Or.inr e36) i34 rfl).1; have oc := oc_78_65; by omega)) (by rw [← e40x]; have h8 := lb.2; have h9 := lb2.1; omega) | exact pth_t g9_2 e40x (by exact (have a0 := in_u h2; have a1 := in_u h1; have a2 := in_u i13; have a3 := in_u j9_4; have a4 := in_u i54; have a5 := t_add e54 i13 (in_c 1 rfl) rfl; have a6 := in_u ((in_c 1 rfl)); have a7 := in_u i34; have a8 := in_u j9_3; have a9 := in_u i39; have a10 := t_add e39 i36 j9_4 rfl; have a11 := in_u i36; have a12 := (t_mulc 32 (Or.inr e36) i34 rfl).1; have oc := oc_78_65; by omega))
            have n9c : ∀ d, DLB ((s).1 67) ((s).1 68) (x1).toNatClampNeg (x2).toNatClampNeg ((s).2.2.1 65 4) d → (z54).toNatClampNeg ≤ d (x2).toNatClampNeg := by intro d hd; rw [(show (z54).toNatClampNeg = (y9_5).toNatClampNeg + 1 from (by show (z54).toInt.toNat = (y9_5).toInt.toNat + 1; exact (have a0 := in_u h2; have a1 := in_u h1; have a2 := in_u i13; have a3 := in_u j9_4; have a4 := in_u i54; have a5 := t_add e54 i13 (in_c 1 rfl) rfl; have a6 := in_u ((in_c 1 rfl)); have a7 := in_u i34; have a8 := in_u j9_3; have a9 := in_u i39; have a10 := t_add e39 i36 j9_4 rfl; have a11 := in_u i36; have a12 := (t_mulc 32 (Or.inr e36) i34 rfl).1; have oc := oc_78_65; by omega)))]; exact itv_l hd (g9_3 d hd) (show (itv (s.1 68) (x2).toNatClampNeg ((y9_5).toNatClampNeg)) ≠ (x1).toNatClampNeg from (by rw [← g9_1]; show (y9_4).toInt.toNat ≠ (x1).toInt.toNat; exact (have a0 := in_u h2; have a1 := in_u h1; have a2 := in_u i13; have a3 := in_u j9_4; have a4 := in_u i54; have a5 := t_add e54 i13 (in_c 1 rfl) rfl; have a6 := in_u ((in_c 1 rfl)); have a7 := in_u i34; have a8 := in_u j9_3; have a9 := in_u i39; have a10 := t_add e39 i36 j9_4 rfl; have a11 := in_u i36; have a12 := (t_mulc 32 (Or.inr e36) i34 rfl).1; have oc := oc_78_65; by omega)))
            have n9d : 0 < (y9_3).toInt := by first | exact g9_4 | (first | exact g9_4 | (obtain ⟨d9, hd9⟩ := q_4; have ee := (itv_e hd9 (itv_l hd9 (g9_3 d9 hd9) (show (itv (s.1 68) (x2).toNatClampNeg ((y9_5).toNatClampNeg)) ≠ (x1).toNatClampNeg from (by rw [← g9_1]; show (y9_4).toInt.toNat ≠ (x1).toInt.toNat; exact (have a0 := in_u h2; have a1 := in_u h1; have a2 := in_u i13; have a3 := in_u j9_4; have a4 := in_u i54; have a5 := t_add e54 i13 (in_c 1 rfl) rfl; have a6 := in_u ((in_c 1 rfl)); have a7 := in_u i34; have a8 := in_u j9_3; have a9 := in_u i39; have a10 := t_add e39 i36 j9_4 rfl; have a11 := in_u i36; have a12 := (t_mulc 32 (Or.inr e36) i34 rfl).1; have oc := oc_78_65; by omega))))).1; have pp := (q_3 _ _ ee.1 ee.2.1).mp ee.2.2; have pp2 : 0 < edL (s.1 66) (s.1 68) (x2).toNatClampNeg (y9_5).toNatClampNeg := pp; rw [← (show (z40).toInt = edL (s.1 66) (s.1 68) (x2).toNatClampNeg (y9_5).toNatClampNeg from (by show (z40).toInt = (s.1 66 (32 * (s.1 68 (itv (s.1 68) (x2).toNatClampNeg ((y9_5).toNatClampNeg))).toNatClampNeg + (itv (s.1 68) (x2).toNatClampNeg ((y9_5).toNatClampNeg)))).toInt; rw [← g9_1, ← (show z33 = s.1 68 (y9_4).toNatClampNeg from (e33.trans (congrFun (hFc9.1 68 rfl) _))), e40, (show z39.toNatClampNeg = 32 * z33.toNatClampNeg + (y9_4).toNatClampNeg from (by show z39.toInt.toNat = 32 * z33.toInt.toNat + (y9_4).toInt.toNat; have h9 := hr34.1; unfold In at h9; exact (have a0 := in_u h2; have a1 := in_u h1; have a2 := in_u i13; have a3 := in_u j9_4; have a4 := in_u i54; have a5 := t_add e54 i13 (in_c 1 rfl) rfl; have a6 := in_u ((in_c 1 rfl)); have a7 := in_u i34; have a8 := in_u j9_3; have a9 := in_u i39; have a10 := t_add e39 i36 j9_4 rfl; have a11 := in_u i36; have a12 := (t_mulc 32 (Or.inr e36) i34 rfl).1; have oc := oc_78_65; by omega))), g9_5.1]))] at pp2; exact pp2))
            have n9e : (sc9).1 66 = s.1 66 ∧ (sc9).1 67 = s.1 67 := by exact g9_5
            exact gg_w (by first | exact Nat.le_add_right _ _ | exact gw2 | exact gw3 | exact gwe rfl | exact gwf rfl | exact gwg rfl | exact gwh rfl | omega) (gg_f (gf_cons rfl (gf_cons rfl (gf_cons rfl (gf_cons rfl (gf_cons rfl (gf_cons rfl gf_nil)))))) (ih9 sc9 y9_3 z33 z54 hIc9 hFc9 (in_w (-2147483648) 160000000 j9_3 rfl) (in_w 0 31 i34 rfl) (in_w 0 32 i54 rfl) n9 n9a n9b n9c n9d n9e (m_up mm9 (t_add e54 i13 (in_c 1 rfl) rfl) (in_w 1 1 (in_c 1 rfl) rfl))))
  refine g_enter2 (k := 78) (N := 60302) (by first | exact dq1 hd rfl | exact dq0 hd rfl | exact dq2 hd rfl | exact dq3 hd rfl | omega) rfl (Nat.le_of_ble_eq_true rfl) ?_
  refine g_ldc 160000000 2 (gd rfl) rfl rfl ?_
  refine g_istore_n 3 (gd rfl) rfl (Nat.le_of_ble_eq_true rfl) ?_
  refine g_iload_n 4 (gd rfl) rfl rfl ?_
  refine g_istore 6 (gd rfl) rfl (Nat.le_of_ble_eq_true rfl) ?_
  refine g_iconst 0 7 (gd rfl) rfl rfl ?_
  refine g_istore 9 (gd rfl) rfl (Nat.le_of_ble_eq_true rfl) ?_
  have n9 : bt u_65_4 (x2).toNatClampNeg = true := by first | (rw [e_65_4]; exact q_1) | (rw [e_65_4]; exact hr34.2)
  have n9a : (x2).toNatClampNeg = itv (s.1 68) (x2).toNatClampNeg ((Int32.ofInt 0)).toNatClampNeg := by exact (show (x2).toNatClampNeg = itv _ _ 0 from rfl)
  have n9b : PTH (s.1 66) (s.1 68) (x2).toNatClampNeg ((Int32.ofInt 160000000)).toInt ((Int32.ofInt 0)).toNatClampNeg := by exact (show PTH _ _ _ 160000000 0 from pth_0)
  have n9c : ∀ d, DLB ((s).1 67) ((s).1 68) (x1).toNatClampNeg (x2).toNatClampNeg ((s).2.2.1 65 4) d → ((Int32.ofInt 0)).toNatClampNeg ≤ d (x2).toNatClampNeg := by intro d hd; exact (show 0 ≤ d _ from Nat.zero_le _)
  have n9d : 0 < ((Int32.ofInt 160000000)).toInt := by decide
  have n9e : (s).1 66 = s.1 66 ∧ (s).1 67 = s.1 67 := by exact ⟨rfl, rfl⟩
  exact gg_w (by first | exact Nat.le_of_ble_eq_true rfl | omega) (gg_f (gf_cons rfl (gf_cons rfl (gf_cons rfl (gf_cons rfl (gf_cons rfl (gf_cons rfl gf_nil)))))) (ct9 33 s (Int32.ofInt 160000000) x2 (Int32.ofInt 0) hI fr_rf (in_w (-2147483648) 160000000 (in_c 160000000 rfl) rfl) (in_w 0 31 h2 rfl) (in_w 0 32 (in_c 0 rfl) rfl) n9 n9a n9b n9c n9d n9e (m_in 33 (in_w 0 32 (in_c 0 rfl) rfl) rfl)))

theorem oc_75_65_2 : (Int32.ofInt (-1)).toInt = (-1) ∧ (Int32.ofInt 0).toInt = 0 ∧ (Int32.ofInt 1).toInt = 1 ∧ (Int32.ofInt 1000000).toInt = 1000000 ∧ (Int64.ofInt 0).toInt = 0 := ⟨rfl, rfl, rfl, rfl, rfl⟩
/-- GraphHouse$Flows.greatest -/
theorem f_75_65_2 {Z : AmZ} {A : Nat → Nat} {s : GS} {ex : va_W} {d : Nat} {X : AmX} {x2 : Int32} {x3 : Int32} (hd : 5 ≤ d) (hI : Inv s) (h2 : In x2 0 31) (h3 : In x3 0 31) (q_0 : TQ s) (q_1 : FLB (gvC s) s) (q_2 : (x2).toInt ≠ (x3).toInt) : GC Z d 75 [.ref (A 65), .ref (A 2), .int x2, .int x3] (WW Z A s ++ ex) 0 0 (fun v u => ∃ t : GS, Inv t ∧ Fr fm_75_65_2 s t ∧ ∃ z : Int64, v = some (.long z) ∧ u = WW Z A t ++ ex ∧ (FLQ (gvC s) t ∧ FLA t x2 x3) ∧ ((z).toInt = ((t).2.2.2.1 65 3).toInt)) X := by
  intro post xp hP hX
  obtain ⟨u_2_0, e_2_0⟩ : ∃ w, w = s.2.2.1 2 0 := ⟨_, rfl⟩
  have ro_2_0 := inv_F hI 0 4000 rfl e_2_0
  have ct63 : ∀ (k63 : Nat) (sc63 : GS) (y63_4 : Int32), Inv sc63 → Fr fm_75_65_2 s sc63 → (In y63_4 0 2147483647) → (CFL (gvC s) (x2).toNatClampNeg (x3).toNatClampNeg ((sc63).1 66) ((sc63).1 67) ((sc63).2.2.2.1 65 3).toInt ∧ EKI ((sc63).1 67) (x2).toNatClampNeg (x3).toNatClampNeg (y63_4).toNatClampNeg ∧ 0 ≤ ((sc63).2.2.2.1 65 3).toInt) → ((sc63).2.2.1 65 0 = s.2.2.1 2 0 ∧ (sc63).2.2.1 65 1 = x2 ∧ (sc63).2.2.1 65 2 = x3) → 2147483647 - (y63_4).toInt < (k63 : Int) → GG Z (d - 1) 75 post (gx xp) (1 + k63 * 900) 63 (fun j => xlook j [(0, .ref (A 65)), (1, .ref (A 2)), (2, .int x2), (3, .int x3), (4, .int y63_4)]) [] (WW Z A sc63 ++ ex) 0 0 := by
    intro k63
    induction k63 with
    | zero => intro sc63 y63_4 hIc63 hFc63 j63_4 g63_0 g63_1 mm63; exact m_no mm63 j63_4 rfl
    | succ k63 ih63 =>
      intro sc63 y63_4 hIc63 hFc63 j63_4 g63_0 g63_1 mm63
      refine gg_w (M := 1 + k63 * 900 + 900) gws ?_
      refine g_iload 65 (gd rfl) rfl rfl ?_
      refine g_ldc 1000000 67 (gd rfl) rfl rfl ?_
      refine g_cmp_ge 70 101 (gd rfl) rfl rfl (fun c67 => ?_) (fun c67 => ?_)
      · skip
        have i67 := r_le2 1000000 2147483647 c67 (in_c 1000000 rfl) j63_4 rfl
        refine g_aload_n 102 (gd rfl) rfl rfl ?_
        refine g_getL 105 (gd rfl) rfl rfl rfl (fun z102 e102 => ?_)
        have n105 : FLQ (gvC s) sc63 ∧ FLA sc63 x2 x3 := by exfalso; have h9 := eki_b g63_0.2.1; have h8 : (y63_4).toNatClampNeg = (y63_4).toInt.toNat := rfl; exact (have a0 := in_u h3; have a1 := in_u h2; have a2 := in_u ro_2_0; have a3 := in_u i67; have oc := oc_75_65_2; by omega)
        have n105a : (z102).toInt = ((sc63).2.2.2.1 65 3).toInt := by exfalso; have h9 := eki_b g63_0.2.1; have h8 : (y63_4).toNatClampNeg = (y63_4).toInt.toNat := rfl; exact (have a0 := in_u h3; have a1 := in_u h2; have a2 := in_u ro_2_0; have a3 := in_u i67; have oc := oc_75_65_2; by omega)
        exact g_lreturn (gd rfl) rfl (hP _ _ ⟨sc63, hIc63, hFc63, z102, rfl, rfl, n105, n105a⟩)
      · skip
        have i67 := r_lt1 0 999999 c67 j63_4 (in_c 1000000 rfl) rfl
        refine g_aload_n 71 (gd rfl) rfl rfl ?_
        refine g_iload_n 72 (gd rfl) rfl rfl ?_
        refine g_iload_n 73 (gd rfl) rfl rfl ?_
        refine g_callv (X := _) (As := [.int x2, .int x3]) (r := []) (b := A 65) (q := 65) 76 (gd rfl) rfl rfl rfl rfl rfl (ww_o rfl) (Nat.le_of_ble_eq_true rfl) (Nat.zero_le _) (Nat.zero_le _) (f_77_65 (by first | exact dq1 hd rfl | exact dq0 hd rfl | exact dq2 hd rfl | exact dq3 hd rfl | omega) hIc63 (in_w 0 31 h2 rfl) (in_w 0 31 h3 rfl)) (fun e u h => h) (fun v u h => ?_)
        obtain ⟨s73, hI73, hF73, z73, rfl, rfl, i73, p73, p73a, p73b, p73c⟩ := h
        show GG _ _ _ _ _ _ _ _ [.int z73] _ _ _
        refine g_if_eq 79 101 (gd rfl) rfl rfl (fun c76 => ?_) (fun c76 => ?_)
        · skip
          have i76 := z_eq 0 0 c76 i73 rfl
          refine g_aload_n 102 (gd rfl) rfl rfl ?_
          refine g_getL 105 (gd rfl) rfl rfl rfl (fun z102 e102 => ?_)
          have n105 : FLQ (gvC s) s73 ∧ FLA s73 x2 x3 := by refine flq_e (show (s73.2.2.1 65 0).toInt = (gvC s).2.2.2.2.2.2.2 from (by show (s73.2.2.1 65 0).toInt = (s.2.2.1 2 0).toInt; rw [hF73.2.2.1 65 0 rfl, g63_1.1])) ((hF73.2.2.1 65 1 rfl).trans g63_1.2.1) ((hF73.2.2.1 65 2 rfl).trans g63_1.2.2) ?_; rw [hF73.2.2.2 65 3 rfl]; have w9 := p73c c76; exact cfl_fl (X := fun v => bt (s73.2.2.1 65 4) v) g63_0.1 w9.2.1 w9.1 w9.2.2.2 (fun v _ hv => w9.2.2.1 v hv)
          have n105a : (z102).toInt = ((s73).2.2.2.1 65 3).toInt := by rw [e102]
          exact g_lreturn (gd rfl) rfl (hP _ _ ⟨s73, hI73, (fr_tr rfl hFc63 hF73), z102, rfl, rfl, n105, n105a⟩)
        · skip
          have i76 := z_ne 1 1 c76 i73 rfl
          refine g_aload_n 80 (gd rfl) rfl rfl ?_
          refine g_dup 81 (gd rfl) rfl rfl ?_
          refine g_getL 84 (gd rfl) rfl rfl rfl (fun z81 e81 => ?_)
          refine g_aload_n 85 (gd rfl) rfl rfl ?_
          refine g_iload_n 86 (gd rfl) rfl rfl ?_
          refine g_iload_n 87 (gd rfl) rfl rfl ?_
          have p87 : RV (s73.1 68) (s73.2.2.1 65 4) x2 := by exact p73
          have p87a : bt (s73.2.2.1 65 4) (x3).toNatClampNeg = true := by exact p73a c76
          have p87b : LNN ((s73).1 66) 160000000 := by rw [hF73.1 66 rfl]; exact g63_0.1.1
          have p87c : OPQ ((s73).1 66) ((s73).1 67) := by rw [hF73.1 66 rfl, hF73.1 67 rfl]; exact g63_0.1.2.1
          have p87d : ∃ d, DLB ((s73).1 67) ((s73).1 68) (x2).toNatClampNeg (x3).toNatClampNeg ((s73).2.2.1 65 4) d := by rw [hF73.1 67 rfl]; exact p73b c76
          refine g_callv (X := _) (As := [.int x2, .int x3]) (r := [.long z81, .ref (A 65)]) (b := A 65) (q := 65) 90 (gd rfl) rfl rfl rfl rfl rfl (ww_o rfl) (Nat.le_of_ble_eq_true rfl) (Nat.zero_le _) (Nat.zero_le _) (f_78_65 (by first | exact dq1 hd rfl | exact dq0 hd rfl | exact dq2 hd rfl | exact dq3 hd rfl | omega) hI73 (in_w 0 31 h2 rfl) (in_w 0 31 h3 rfl) rfl p87 p87a p87b p87c p87d) (fun e u h => h) (fun v u h => ?_)
          obtain ⟨s87, hI87, hF87, z87, rfl, rfl, i87, p87e, p87f⟩ := h
          show GG _ _ _ _ _ _ _ _ [.int z87, .long z81, .ref (A 65)] _ _ _
          refine g_i2l 91 (gd rfl) rfl (fun z90 e90 => ?_)
          have i90 := l_i e90 i87
          refine g_ladd 92 (gd rfl) rfl (fun z91 e91 => ?_)
          refine g_putL 95 (gd rfl) rfl rfl rfl rfl ?_
          have hI92 := inv_sG (q := 65) (j := 3) (x := z91) hI87 rfl (l_rng z91)
          refine g_iinc 98 (gd rfl) rfl rfl (Nat.le_of_ble_eq_true rfl) (fun z95 e95 => ?_)
          have i95 := in_add 1 1000000 e95 i67 (in_c 1 rfl) rfl rfl
          refine g_goto 63 (gd rfl) rfl ?_
          have n63 : CFL (gvC s) (x2).toNatClampNeg (x3).toNatClampNeg (((sG s87 65 3 z91)).1 66) (((sG s87 65 3 z91)).1 67) (((sG s87 65 3 z91)).2.2.2.1 65 3).toInt ∧ EKI (((sG s87 65 3 z91)).1 67) (x2).toNatClampNeg (x3).toNatClampNeg (z95).toNatClampNeg ∧ 0 ≤ (((sG s87 65 3 z91)).2.2.2.1 65 3).toInt := by rw [(show (z95).toNatClampNeg = (y63_4).toNatClampNeg + 1 from (by show (z95).toInt.toNat = (y63_4).toInt.toNat + 1; exact (have a0 := in_u h3; have a1 := in_u h2; have a2 := in_u ro_2_0; have a3 := in_u i67; have a4 := in_u i95; have a5 := t_add e95 i67 (in_c 1 rfl) rfl; have a6 := in_u ((in_c 1 rfl)); have a7 := tx_i2l e90; have a8 := in_u i87; have oc := oc_75_65_2; by omega)))]; obtain ⟨d9, hd9⟩ := p73b c76; obtain ⟨n9, p9, ps9, it9⟩ := p87e; have lf : s73.1 66 = sc63.1 66 := hF73.1 66 rfl; have of9 : s73.1 67 = sc63.1 67 := hF73.1 67 rfl; have vf : s73.2.2.2.1 65 3 = sc63.2.2.2.1 65 3 := hF73.2.2.2 65 3 rfl; have wz : (z81).toInt = (sc63.2.2.2.1 65 3).toInt := (by rw [e81, vf]); rw [lf] at p9 ps9; rw [of9] at ps9; have ne9 := (show (x2).toNatClampNeg ≠ (x3).toNatClampNeg from (by show (x2).toInt.toNat ≠ (x3).toInt.toNat; have h9 := q_2; exact (have a0 := in_u h3; have a1 := in_u h2; have a2 := in_u ro_2_0; have a3 := in_u i67; have a4 := in_u i95; have a5 := t_add e95 i67 (in_c 1 rfl) rfl; have a6 := in_u ((in_c 1 rfl)); have a7 := tx_i2l e90; have a8 := in_u i87; have oc := oc_75_65_2; by omega))); have pe := psi_e g63_0.1 hd9 p9 ps9 it9 ne9 g63_0.2.1; have vs := cfl_n g63_0.1 ne9 (rm_C hI) g63_0.2.2 p87f e90 wz e91; have gz : ((sG s87 65 3 z91).2.2.2.1 65 3).toInt = (sc63.2.2.2.1 65 3).toInt + (z87).toInt := vs; rw [gz]; exact ⟨pe.1, pe.2, by have h8 := p87f; have h9 := g63_0.2.2; omega⟩
          have n63a : ((sG s87 65 3 z91)).2.2.1 65 0 = s.2.2.1 2 0 ∧ ((sG s87 65 3 z91)).2.2.1 65 1 = x2 ∧ ((sG s87 65 3 z91)).2.2.1 65 2 = x3 := by exact ⟨(hF87.2.2.1 65 0 rfl).trans ((hF73.2.2.1 65 0 rfl).trans g63_1.1), (hF87.2.2.1 65 1 rfl).trans ((hF73.2.2.1 65 1 rfl).trans g63_1.2.1), (hF87.2.2.1 65 2 rfl).trans ((hF73.2.2.1 65 2 rfl).trans g63_1.2.2)⟩
          exact gg_w (by first | exact Nat.le_add_right _ _ | exact gw2 | exact gw3 | exact gwe rfl | exact gwf rfl | exact gwg rfl | exact gwh rfl | omega) (gg_f (gf_cons rfl (gf_cons rfl (gf_cons rfl (gf_cons rfl (gf_cons rfl gf_nil))))) (ih63 (sG s87 65 3 z91) z95 hI92 (fr_sG rfl (fr_tr rfl (fr_tr rfl hFc63 hF73) hF87)) (in_w 0 2147483647 i95 rfl) n63 n63a (m_up mm63 (t_add e95 i67 (in_c 1 rfl) rfl) (in_w 1 1 (in_c 1 rfl) rfl))))
  refine g_enter2 (k := 75) (N := 1932735284101) (by first | exact dq1 hd rfl | exact dq0 hd rfl | exact dq2 hd rfl | exact dq3 hd rfl | omega) rfl (Nat.le_of_ble_eq_true rfl) ?_
  refine g_aload_n 1 (gd rfl) rfl rfl ?_
  refine g_getI 4 (gd rfl) rfl rfl rfl (fun z1 e1 => ?_)
  have i1 := inv_F hI (-1) 4000 rfl e1
  refine g_aload_n 5 (gd rfl) rfl rfl ?_
  refine g_getI 8 (gd rfl) rfl rfl rfl (fun z5 e5 => ?_)
  have q5 : u_2_0 = z5 := (e_2_0).trans e5.symm
  subst q5
  refine g_cmp_ne 11 32 (gd rfl) rfl rfl (fun c8 => ?_) (fun c8 => ?_)
  · skip
    refine g_aload_n 33 (gd rfl) rfl rfl ?_
    refine g_aload_n 34 (gd rfl) rfl rfl ?_
    refine g_getI 37 (gd rfl) rfl rfl rfl (fun z34 e34 => ?_)
    have q34 : u_2_0 = z34 := (e_2_0).trans e34.symm
    subst q34
    refine g_putI 40 (gd rfl) rfl rfl rfl rfl ?_
    have hI37 := inv_sF (q := 65) (j := 0) hI rfl (in_w (-1) 4000 ro_2_0 rfl)
    refine g_aload_n 41 (gd rfl) rfl rfl ?_
    refine g_iload_n 42 (gd rfl) rfl rfl ?_
    refine g_putI 45 (gd rfl) rfl rfl rfl rfl ?_
    have hI42 := inv_sF (q := 65) (j := 1) hI37 rfl (in_w 0 31 h2 rfl)
    refine g_aload_n 46 (gd rfl) rfl rfl ?_
    refine g_iload_n 47 (gd rfl) rfl rfl ?_
    refine g_putI 50 (gd rfl) rfl rfl rfl rfl ?_
    have hI47 := inv_sF (q := 65) (j := 2) hI42 rfl (in_w 0 31 h3 rfl)
    refine g_aload_n 51 (gd rfl) rfl rfl ?_
    refine g_lconst 0 52 (gd rfl) rfl rfl ?_
    refine g_putL 55 (gd rfl) rfl rfl rfl rfl ?_
    have hI52 := inv_sG (q := 65) (j := 3) (x := (Int64.ofInt 0)) hI47 rfl (l_rng (Int64.ofInt 0))
    refine g_aload_n 56 (gd rfl) rfl rfl ?_
    refine g_aload_n 57 (gd rfl) rfl rfl ?_
    have p57 : TQ (sG (sF (sF (sF s 65 0 u_2_0) 65 1 x2) 65 2 x3) 65 3 (Int64.ofInt 0)) := by exact tq_fr (L := ([], [], [(65, 0), (65, 1), (65, 2)], [(65, 3)])) q_0 (fr_sG rfl (fr_sF rfl (fr_sF rfl (fr_sF rfl fr_rf)))) rfl
    refine g_callv (X := _) (As := [.ref (A 2)]) (r := []) (b := A 65) (q := 65) 60 (gd rfl) rfl rfl rfl rfl rfl (ww_o rfl) (Nat.le_of_ble_eq_true rfl) (Nat.zero_le _) (Nat.zero_le _) (f_76_65_2 (by first | exact dq1 hd rfl | exact dq0 hd rfl | exact dq2 hd rfl | exact dq3 hd rfl | omega) hI52 p57) (fun e u h => h) (fun v u h => ?_)
    obtain ⟨s57, hI57, hF57, rfl, rfl, p57a⟩ := h
    show GG _ _ _ _ _ _ _ _ [] _ _ _
    refine g_iconst 0 61 (gd rfl) rfl rfl ?_
    refine g_istore 63 (gd rfl) rfl (Nat.le_of_ble_eq_true rfl) ?_
    have n63 : CFL (gvC s) (x2).toNatClampNeg (x3).toNatClampNeg ((s57).1 66) ((s57).1 67) ((s57).2.2.2.1 65 3).toInt ∧ EKI ((s57).1 67) (x2).toNatClampNeg (x3).toNatClampNeg ((Int32.ofInt 0)).toNatClampNeg ∧ 0 ≤ ((s57).2.2.2.1 65 3).toInt := by have h9 := p57a (x2).toNatClampNeg (x3).toNatClampNeg; rw [(show gvC (sG (sF (sF (sF s 65 0 u_2_0) 65 1 x2) 65 2 x3) 65 3 (Int64.ofInt 0)) = gvC s from gvC_cg (L := ([], [], [(65, 0), (65, 1), (65, 2)], [(65, 3)])) (fr_sG rfl (fr_sF rfl (fr_sF rfl (fr_sF rfl fr_rf)))) rfl)] at h9; have e3 : (s57.2.2.2.1 65 3) = Int64.ofInt 0 := hF57.2.2.2 65 3 rfl; have z0 : (Int64.ofInt 0).toInt = 0 := rfl; rw [e3, z0]; exact ⟨h9, (show EKI _ _ _ 0 from eki_0 (show (x2).toNatClampNeg ≠ (x3).toNatClampNeg from (by show (x2).toInt.toNat ≠ (x3).toInt.toNat; have h9 := q_2; exact (have a0 := in_u ro_2_0; have a1 := in_u h3; have a2 := in_u h2; have a3 := in_u ((in_c 0 rfl)); have oc := oc_75_65_2; by omega)))), Int.le_refl _⟩
    have n63a : (s57).2.2.1 65 0 = s.2.2.1 2 0 ∧ (s57).2.2.1 65 1 = x2 ∧ (s57).2.2.1 65 2 = x3 := by refine ⟨?_, ?_, ?_⟩; (rw [hF57.2.2.1 65 0 rfl]; exact e_2_0); (rw [hF57.2.2.1 65 1 rfl]; rfl); (rw [hF57.2.2.1 65 2 rfl]; rfl)
    exact gg_w (by first | exact Nat.le_of_ble_eq_true rfl | omega) (gg_f (gf_cons rfl (gf_cons rfl (gf_cons rfl (gf_cons rfl (gf_cons rfl gf_nil))))) (ct63 2147483648 s57 (Int32.ofInt 0) hI57 (fr_tr rfl (fr_sG rfl (fr_sF rfl (fr_sF rfl (fr_sF rfl fr_rf)))) hF57) (in_w 0 2147483647 (in_c 0 rfl) rfl) n63 n63a (m_in 2147483648 (in_w 0 2147483647 (in_c 0 rfl) rfl) rfl)))
  · skip
    have i8 := r_eq1 0 4000 c8 i1 ro_2_0 rfl
    refine g_aload_n 12 (gd rfl) rfl rfl ?_
    refine g_getI 15 (gd rfl) rfl rfl rfl (fun z12 e12 => ?_)
    have i12 := inv_F hI 0 31 rfl e12
    refine g_iload_n 16 (gd rfl) rfl rfl ?_
    refine g_cmp_ne 19 32 (gd rfl) rfl rfl (fun c16 => ?_) (fun c16 => ?_)
    · skip
      refine g_aload_n 33 (gd rfl) rfl rfl ?_
      refine g_aload_n 34 (gd rfl) rfl rfl ?_
      refine g_getI 37 (gd rfl) rfl rfl rfl (fun z34 e34 => ?_)
      have q34 : u_2_0 = z34 := (e_2_0).trans e34.symm
      subst q34
      refine g_putI 40 (gd rfl) rfl rfl rfl rfl ?_
      have hI37 := inv_sF (q := 65) (j := 0) hI rfl (in_w (-1) 4000 ro_2_0 rfl)
      refine g_aload_n 41 (gd rfl) rfl rfl ?_
      refine g_iload_n 42 (gd rfl) rfl rfl ?_
      refine g_putI 45 (gd rfl) rfl rfl rfl rfl ?_
      have hI42 := inv_sF (q := 65) (j := 1) hI37 rfl (in_w 0 31 h2 rfl)
      refine g_aload_n 46 (gd rfl) rfl rfl ?_
      refine g_iload_n 47 (gd rfl) rfl rfl ?_
      refine g_putI 50 (gd rfl) rfl rfl rfl rfl ?_
      have hI47 := inv_sF (q := 65) (j := 2) hI42 rfl (in_w 0 31 h3 rfl)
      refine g_aload_n 51 (gd rfl) rfl rfl ?_
      refine g_lconst 0 52 (gd rfl) rfl rfl ?_
      refine g_putL 55 (gd rfl) rfl rfl rfl rfl ?_
      have hI52 := inv_sG (q := 65) (j := 3) (x := (Int64.ofInt 0)) hI47 rfl (l_rng (Int64.ofInt 0))
      refine g_aload_n 56 (gd rfl) rfl rfl ?_
      refine g_aload_n 57 (gd rfl) rfl rfl ?_
      have p57 : TQ (sG (sF (sF (sF s 65 0 u_2_0) 65 1 x2) 65 2 x3) 65 3 (Int64.ofInt 0)) := by exact tq_fr (L := ([], [], [(65, 0), (65, 1), (65, 2)], [(65, 3)])) q_0 (fr_sG rfl (fr_sF rfl (fr_sF rfl (fr_sF rfl fr_rf)))) rfl
      refine g_callv (X := _) (As := [.ref (A 2)]) (r := []) (b := A 65) (q := 65) 60 (gd rfl) rfl rfl rfl rfl rfl (ww_o rfl) (Nat.le_of_ble_eq_true rfl) (Nat.zero_le _) (Nat.zero_le _) (f_76_65_2 (by first | exact dq1 hd rfl | exact dq0 hd rfl | exact dq2 hd rfl | exact dq3 hd rfl | omega) hI52 p57) (fun e u h => h) (fun v u h => ?_)
      obtain ⟨s57, hI57, hF57, rfl, rfl, p57a⟩ := h
      show GG _ _ _ _ _ _ _ _ [] _ _ _
      refine g_iconst 0 61 (gd rfl) rfl rfl ?_
      refine g_istore 63 (gd rfl) rfl (Nat.le_of_ble_eq_true rfl) ?_
      have n63 : CFL (gvC s) (x2).toNatClampNeg (x3).toNatClampNeg ((s57).1 66) ((s57).1 67) ((s57).2.2.2.1 65 3).toInt ∧ EKI ((s57).1 67) (x2).toNatClampNeg (x3).toNatClampNeg ((Int32.ofInt 0)).toNatClampNeg ∧ 0 ≤ ((s57).2.2.2.1 65 3).toInt := by have h9 := p57a (x2).toNatClampNeg (x3).toNatClampNeg; rw [(show gvC (sG (sF (sF (sF s 65 0 u_2_0) 65 1 x2) 65 2 x3) 65 3 (Int64.ofInt 0)) = gvC s from gvC_cg (L := ([], [], [(65, 0), (65, 1), (65, 2)], [(65, 3)])) (fr_sG rfl (fr_sF rfl (fr_sF rfl (fr_sF rfl fr_rf)))) rfl)] at h9; have e3 : (s57.2.2.2.1 65 3) = Int64.ofInt 0 := hF57.2.2.2 65 3 rfl; have z0 : (Int64.ofInt 0).toInt = 0 := rfl; rw [e3, z0]; exact ⟨h9, (show EKI _ _ _ 0 from eki_0 (show (x2).toNatClampNeg ≠ (x3).toNatClampNeg from (by show (x2).toInt.toNat ≠ (x3).toInt.toNat; have h9 := q_2; exact (have a0 := in_u ro_2_0; have a1 := in_u h3; have a2 := in_u h2; have a3 := in_u ((in_c 0 rfl)); have oc := oc_75_65_2; by omega)))), Int.le_refl _⟩
      have n63a : (s57).2.2.1 65 0 = s.2.2.1 2 0 ∧ (s57).2.2.1 65 1 = x2 ∧ (s57).2.2.1 65 2 = x3 := by refine ⟨?_, ?_, ?_⟩; (rw [hF57.2.2.1 65 0 rfl]; exact e_2_0); (rw [hF57.2.2.1 65 1 rfl]; rfl); (rw [hF57.2.2.1 65 2 rfl]; rfl)
      exact gg_w (by first | exact Nat.le_of_ble_eq_true rfl | omega) (gg_f (gf_cons rfl (gf_cons rfl (gf_cons rfl (gf_cons rfl (gf_cons rfl gf_nil))))) (ct63 2147483648 s57 (Int32.ofInt 0) hI57 (fr_tr rfl (fr_sG rfl (fr_sF rfl (fr_sF rfl (fr_sF rfl fr_rf)))) hF57) (in_w 0 2147483647 (in_c 0 rfl) rfl) n63 n63a (m_in 2147483648 (in_w 0 2147483647 (in_c 0 rfl) rfl) rfl)))
    · skip
      refine g_aload_n 20 (gd rfl) rfl rfl ?_
      refine g_getI 23 (gd rfl) rfl rfl rfl (fun z20 e20 => ?_)
      have i20 := inv_F hI 0 31 rfl e20
      refine g_iload_n 24 (gd rfl) rfl rfl ?_
      refine g_cmp_ne 27 32 (gd rfl) rfl rfl (fun c24 => ?_) (fun c24 => ?_)
      · skip
        refine g_aload_n 33 (gd rfl) rfl rfl ?_
        refine g_aload_n 34 (gd rfl) rfl rfl ?_
        refine g_getI 37 (gd rfl) rfl rfl rfl (fun z34 e34 => ?_)
        have q34 : u_2_0 = z34 := (e_2_0).trans e34.symm
        subst q34
        refine g_putI 40 (gd rfl) rfl rfl rfl rfl ?_
        have hI37 := inv_sF (q := 65) (j := 0) hI rfl (in_w (-1) 4000 ro_2_0 rfl)
        refine g_aload_n 41 (gd rfl) rfl rfl ?_
        refine g_iload_n 42 (gd rfl) rfl rfl ?_
        refine g_putI 45 (gd rfl) rfl rfl rfl rfl ?_
        have hI42 := inv_sF (q := 65) (j := 1) hI37 rfl (in_w 0 31 h2 rfl)
        refine g_aload_n 46 (gd rfl) rfl rfl ?_
        refine g_iload_n 47 (gd rfl) rfl rfl ?_
        refine g_putI 50 (gd rfl) rfl rfl rfl rfl ?_
        have hI47 := inv_sF (q := 65) (j := 2) hI42 rfl (in_w 0 31 h3 rfl)
        refine g_aload_n 51 (gd rfl) rfl rfl ?_
        refine g_lconst 0 52 (gd rfl) rfl rfl ?_
        refine g_putL 55 (gd rfl) rfl rfl rfl rfl ?_
        have hI52 := inv_sG (q := 65) (j := 3) (x := (Int64.ofInt 0)) hI47 rfl (l_rng (Int64.ofInt 0))
        refine g_aload_n 56 (gd rfl) rfl rfl ?_
        refine g_aload_n 57 (gd rfl) rfl rfl ?_
        have p57 : TQ (sG (sF (sF (sF s 65 0 u_2_0) 65 1 x2) 65 2 x3) 65 3 (Int64.ofInt 0)) := by exact tq_fr (L := ([], [], [(65, 0), (65, 1), (65, 2)], [(65, 3)])) q_0 (fr_sG rfl (fr_sF rfl (fr_sF rfl (fr_sF rfl fr_rf)))) rfl
        refine g_callv (X := _) (As := [.ref (A 2)]) (r := []) (b := A 65) (q := 65) 60 (gd rfl) rfl rfl rfl rfl rfl (ww_o rfl) (Nat.le_of_ble_eq_true rfl) (Nat.zero_le _) (Nat.zero_le _) (f_76_65_2 (by first | exact dq1 hd rfl | exact dq0 hd rfl | exact dq2 hd rfl | exact dq3 hd rfl | omega) hI52 p57) (fun e u h => h) (fun v u h => ?_)
        obtain ⟨s57, hI57, hF57, rfl, rfl, p57a⟩ := h
        show GG _ _ _ _ _ _ _ _ [] _ _ _
        refine g_iconst 0 61 (gd rfl) rfl rfl ?_
        refine g_istore 63 (gd rfl) rfl (Nat.le_of_ble_eq_true rfl) ?_
        have n63 : CFL (gvC s) (x2).toNatClampNeg (x3).toNatClampNeg ((s57).1 66) ((s57).1 67) ((s57).2.2.2.1 65 3).toInt ∧ EKI ((s57).1 67) (x2).toNatClampNeg (x3).toNatClampNeg ((Int32.ofInt 0)).toNatClampNeg ∧ 0 ≤ ((s57).2.2.2.1 65 3).toInt := by have h9 := p57a (x2).toNatClampNeg (x3).toNatClampNeg; rw [(show gvC (sG (sF (sF (sF s 65 0 u_2_0) 65 1 x2) 65 2 x3) 65 3 (Int64.ofInt 0)) = gvC s from gvC_cg (L := ([], [], [(65, 0), (65, 1), (65, 2)], [(65, 3)])) (fr_sG rfl (fr_sF rfl (fr_sF rfl (fr_sF rfl fr_rf)))) rfl)] at h9; have e3 : (s57.2.2.2.1 65 3) = Int64.ofInt 0 := hF57.2.2.2 65 3 rfl; have z0 : (Int64.ofInt 0).toInt = 0 := rfl; rw [e3, z0]; exact ⟨h9, (show EKI _ _ _ 0 from eki_0 (show (x2).toNatClampNeg ≠ (x3).toNatClampNeg from (by show (x2).toInt.toNat ≠ (x3).toInt.toNat; have h9 := q_2; exact (have a0 := in_u ro_2_0; have a1 := in_u h3; have a2 := in_u h2; have a3 := in_u ((in_c 0 rfl)); have oc := oc_75_65_2; by omega)))), Int.le_refl _⟩
        have n63a : (s57).2.2.1 65 0 = s.2.2.1 2 0 ∧ (s57).2.2.1 65 1 = x2 ∧ (s57).2.2.1 65 2 = x3 := by refine ⟨?_, ?_, ?_⟩; (rw [hF57.2.2.1 65 0 rfl]; exact e_2_0); (rw [hF57.2.2.1 65 1 rfl]; rfl); (rw [hF57.2.2.1 65 2 rfl]; rfl)
        exact gg_w (by first | exact Nat.le_of_ble_eq_true rfl | omega) (gg_f (gf_cons rfl (gf_cons rfl (gf_cons rfl (gf_cons rfl (gf_cons rfl gf_nil))))) (ct63 2147483648 s57 (Int32.ofInt 0) hI57 (fr_tr rfl (fr_sG rfl (fr_sF rfl (fr_sF rfl (fr_sF rfl fr_rf)))) hF57) (in_w 0 2147483647 (in_c 0 rfl) rfl) n63 n63a (m_in 2147483648 (in_w 0 2147483647 (in_c 0 rfl) rfl) rfl)))
      · skip
        refine g_aload_n 28 (gd rfl) rfl rfl ?_
        refine g_getL 31 (gd rfl) rfl rfl rfl (fun z28 e28 => ?_)
        have n31 : FLQ (gvC s) s ∧ FLA s x2 x3 := by have c9 : (s.2.2.1 65 0).toInt = (gvC s).2.2.2.2.2.2.2 := (by show (s.2.2.1 65 0).toInt = (s.2.2.1 2 0).toInt; rw [← e1, ← e_2_0]; first | exact c8 | exact c8.symm); have k9 := q_1 c9; have a1 : s.2.2.1 65 1 = x2 := Int32.toInt_inj.mp (by rw [← e12]; first | exact c16 | exact c16.symm); have a2 : s.2.2.1 65 2 = x3 := Int32.toInt_inj.mp (by rw [← e20]; first | exact c24 | exact c24.symm); rw [a1, a2] at k9; exact flq_e c9 a1 a2 k9
        have n31a : (z28).toInt = ((s).2.2.2.1 65 3).toInt := by rw [e28]
        exact g_lreturn (gd rfl) rfl (hP _ _ ⟨s, hI, fr_rf, z28, rfl, rfl, n31, n31a⟩)

theorem oc_75_65_32 : (Int32.ofInt (-1)).toInt = (-1) ∧ (Int32.ofInt 0).toInt = 0 ∧ (Int32.ofInt 1).toInt = 1 ∧ (Int32.ofInt 1000000).toInt = 1000000 ∧ (Int64.ofInt 0).toInt = 0 := ⟨rfl, rfl, rfl, rfl, rfl⟩
/-- GraphHouse$Flows.greatest -/
theorem f_75_65_32 {Z : AmZ} {A : Nat → Nat} {s : GS} {ex : va_W} {d : Nat} {X : AmX} {x2 : Int32} {x3 : Int32} (hd : 5 ≤ d) (hI : Inv s) (h2 : In x2 0 31) (h3 : In x3 0 31) (q_0 : TQD s) (q_1 : FLB (gvD s) s) (q_2 : (x2).toInt ≠ (x3).toInt) : GC Z d 75 [.ref (A 65), .ref (A 32), .int x2, .int x3] (WW Z A s ++ ex) 0 0 (fun v u => ∃ t : GS, Inv t ∧ Fr fm_75_65_32 s t ∧ ∃ z : Int64, v = some (.long z) ∧ u = WW Z A t ++ ex ∧ (FLQ (gvD s) t ∧ FLA t x2 x3) ∧ ((z).toInt = ((t).2.2.2.1 65 3).toInt)) X := by
  intro post xp hP hX
  obtain ⟨u_32_0, e_32_0⟩ : ∃ w, w = s.2.2.1 32 0 := ⟨_, rfl⟩
  have ro_32_0 := inv_F hI 0 4000 rfl e_32_0
  have ct63 : ∀ (k63 : Nat) (sc63 : GS) (y63_4 : Int32), Inv sc63 → Fr fm_75_65_32 s sc63 → (In y63_4 0 2147483647) → (CFL (gvD s) (x2).toNatClampNeg (x3).toNatClampNeg ((sc63).1 66) ((sc63).1 67) ((sc63).2.2.2.1 65 3).toInt ∧ EKI ((sc63).1 67) (x2).toNatClampNeg (x3).toNatClampNeg (y63_4).toNatClampNeg ∧ 0 ≤ ((sc63).2.2.2.1 65 3).toInt) → ((sc63).2.2.1 65 0 = s.2.2.1 32 0 ∧ (sc63).2.2.1 65 1 = x2 ∧ (sc63).2.2.1 65 2 = x3) → 2147483647 - (y63_4).toInt < (k63 : Int) → GG Z (d - 1) 75 post (gx xp) (1 + k63 * 900) 63 (fun j => xlook j [(0, .ref (A 65)), (1, .ref (A 32)), (2, .int x2), (3, .int x3), (4, .int y63_4)]) [] (WW Z A sc63 ++ ex) 0 0 := by
    intro k63
    induction k63 with
    | zero => intro sc63 y63_4 hIc63 hFc63 j63_4 g63_0 g63_1 mm63; exact m_no mm63 j63_4 rfl
    | succ k63 ih63 =>
      intro sc63 y63_4 hIc63 hFc63 j63_4 g63_0 g63_1 mm63
      refine gg_w (M := 1 + k63 * 900 + 900) gws ?_
      refine g_iload 65 (gd rfl) rfl rfl ?_
      refine g_ldc 1000000 67 (gd rfl) rfl rfl ?_
      refine g_cmp_ge 70 101 (gd rfl) rfl rfl (fun c67 => ?_) (fun c67 => ?_)
      · skip
        have i67 := r_le2 1000000 2147483647 c67 (in_c 1000000 rfl) j63_4 rfl
        refine g_aload_n 102 (gd rfl) rfl rfl ?_
        refine g_getL 105 (gd rfl) rfl rfl rfl (fun z102 e102 => ?_)
        have n105 : FLQ (gvD s) sc63 ∧ FLA sc63 x2 x3 := by exfalso; have h9 := eki_b g63_0.2.1; have h8 : (y63_4).toNatClampNeg = (y63_4).toInt.toNat := rfl; exact (have a0 := in_u h3; have a1 := in_u h2; have a2 := in_u ro_32_0; have a3 := in_u i67; have oc := oc_75_65_32; by omega)
        have n105a : (z102).toInt = ((sc63).2.2.2.1 65 3).toInt := by exfalso; have h9 := eki_b g63_0.2.1; have h8 : (y63_4).toNatClampNeg = (y63_4).toInt.toNat := rfl; exact (have a0 := in_u h3; have a1 := in_u h2; have a2 := in_u ro_32_0; have a3 := in_u i67; have oc := oc_75_65_32; by omega)
        exact g_lreturn (gd rfl) rfl (hP _ _ ⟨sc63, hIc63, hFc63, z102, rfl, rfl, n105, n105a⟩)
      · skip
        have i67 := r_lt1 0 999999 c67 j63_4 (in_c 1000000 rfl) rfl
        refine g_aload_n 71 (gd rfl) rfl rfl ?_
        refine g_iload_n 72 (gd rfl) rfl rfl ?_
        refine g_iload_n 73 (gd rfl) rfl rfl ?_
        refine g_callv (X := _) (As := [.int x2, .int x3]) (r := []) (b := A 65) (q := 65) 76 (gd rfl) rfl rfl rfl rfl rfl (ww_o rfl) (Nat.le_of_ble_eq_true rfl) (Nat.zero_le _) (Nat.zero_le _) (f_77_65 (by first | exact dq1 hd rfl | exact dq0 hd rfl | exact dq2 hd rfl | exact dq3 hd rfl | omega) hIc63 (in_w 0 31 h2 rfl) (in_w 0 31 h3 rfl)) (fun e u h => h) (fun v u h => ?_)
        obtain ⟨s73, hI73, hF73, z73, rfl, rfl, i73, p73, p73a, p73b, p73c⟩ := h
        show GG _ _ _ _ _ _ _ _ [.int z73] _ _ _
        refine g_if_eq 79 101 (gd rfl) rfl rfl (fun c76 => ?_) (fun c76 => ?_)
        · skip
          have i76 := z_eq 0 0 c76 i73 rfl
          refine g_aload_n 102 (gd rfl) rfl rfl ?_
          refine g_getL 105 (gd rfl) rfl rfl rfl (fun z102 e102 => ?_)
          have n105 : FLQ (gvD s) s73 ∧ FLA s73 x2 x3 := by refine flq_e (show (s73.2.2.1 65 0).toInt = (gvD s).2.2.2.2.2.2.2 from (by show (s73.2.2.1 65 0).toInt = (s.2.2.1 32 0).toInt; rw [hF73.2.2.1 65 0 rfl, g63_1.1])) ((hF73.2.2.1 65 1 rfl).trans g63_1.2.1) ((hF73.2.2.1 65 2 rfl).trans g63_1.2.2) ?_; rw [hF73.2.2.2 65 3 rfl]; have w9 := p73c c76; exact cfl_fl (X := fun v => bt (s73.2.2.1 65 4) v) g63_0.1 w9.2.1 w9.1 w9.2.2.2 (fun v _ hv => w9.2.2.1 v hv)
          have n105a : (z102).toInt = ((s73).2.2.2.1 65 3).toInt := by rw [e102]
          exact g_lreturn (gd rfl) rfl (hP _ _ ⟨s73, hI73, (fr_tr rfl hFc63 hF73), z102, rfl, rfl, n105, n105a⟩)
        · skip
          have i76 := z_ne 1 1 c76 i73 rfl
          refine g_aload_n 80 (gd rfl) rfl rfl ?_
          refine g_dup 81 (gd rfl) rfl rfl ?_
          refine g_getL 84 (gd rfl) rfl rfl rfl (fun z81 e81 => ?_)
          refine g_aload_n 85 (gd rfl) rfl rfl ?_
          refine g_iload_n 86 (gd rfl) rfl rfl ?_
          refine g_iload_n 87 (gd rfl) rfl rfl ?_
          have p87 : RV (s73.1 68) (s73.2.2.1 65 4) x2 := by exact p73
          have p87a : bt (s73.2.2.1 65 4) (x3).toNatClampNeg = true := by exact p73a c76
          have p87b : LNN ((s73).1 66) 160000000 := by rw [hF73.1 66 rfl]; exact g63_0.1.1
          have p87c : OPQ ((s73).1 66) ((s73).1 67) := by rw [hF73.1 66 rfl, hF73.1 67 rfl]; exact g63_0.1.2.1
          have p87d : ∃ d, DLB ((s73).1 67) ((s73).1 68) (x2).toNatClampNeg (x3).toNatClampNeg ((s73).2.2.1 65 4) d := by rw [hF73.1 67 rfl]; exact p73b c76
          refine g_callv (X := _) (As := [.int x2, .int x3]) (r := [.long z81, .ref (A 65)]) (b := A 65) (q := 65) 90 (gd rfl) rfl rfl rfl rfl rfl (ww_o rfl) (Nat.le_of_ble_eq_true rfl) (Nat.zero_le _) (Nat.zero_le _) (f_78_65 (by first | exact dq1 hd rfl | exact dq0 hd rfl | exact dq2 hd rfl | exact dq3 hd rfl | omega) hI73 (in_w 0 31 h2 rfl) (in_w 0 31 h3 rfl) rfl p87 p87a p87b p87c p87d) (fun e u h => h) (fun v u h => ?_)
          obtain ⟨s87, hI87, hF87, z87, rfl, rfl, i87, p87e, p87f⟩ := h
          show GG _ _ _ _ _ _ _ _ [.int z87, .long z81, .ref (A 65)] _ _ _
          refine g_i2l 91 (gd rfl) rfl (fun z90 e90 => ?_)
          have i90 := l_i e90 i87
          refine g_ladd 92 (gd rfl) rfl (fun z91 e91 => ?_)
          refine g_putL 95 (gd rfl) rfl rfl rfl rfl ?_
          have hI92 := inv_sG (q := 65) (j := 3) (x := z91) hI87 rfl (l_rng z91)
          refine g_iinc 98 (gd rfl) rfl rfl (Nat.le_of_ble_eq_true rfl) (fun z95 e95 => ?_)
          have i95 := in_add 1 1000000 e95 i67 (in_c 1 rfl) rfl rfl
          refine g_goto 63 (gd rfl) rfl ?_
          have n63 : CFL (gvD s) (x2).toNatClampNeg (x3).toNatClampNeg (((sG s87 65 3 z91)).1 66) (((sG s87 65 3 z91)).1 67) (((sG s87 65 3 z91)).2.2.2.1 65 3).toInt ∧ EKI (((sG s87 65 3 z91)).1 67) (x2).toNatClampNeg (x3).toNatClampNeg (z95).toNatClampNeg ∧ 0 ≤ (((sG s87 65 3 z91)).2.2.2.1 65 3).toInt := by rw [(show (z95).toNatClampNeg = (y63_4).toNatClampNeg + 1 from (by show (z95).toInt.toNat = (y63_4).toInt.toNat + 1; exact (have a0 := in_u h3; have a1 := in_u h2; have a2 := in_u ro_32_0; have a3 := in_u i67; have a4 := in_u i95; have a5 := t_add e95 i67 (in_c 1 rfl) rfl; have a6 := in_u ((in_c 1 rfl)); have a7 := tx_i2l e90; have a8 := in_u i87; have oc := oc_75_65_32; by omega)))]; obtain ⟨d9, hd9⟩ := p73b c76; obtain ⟨n9, p9, ps9, it9⟩ := p87e; have lf : s73.1 66 = sc63.1 66 := hF73.1 66 rfl; have of9 : s73.1 67 = sc63.1 67 := hF73.1 67 rfl; have vf : s73.2.2.2.1 65 3 = sc63.2.2.2.1 65 3 := hF73.2.2.2 65 3 rfl; have wz : (z81).toInt = (sc63.2.2.2.1 65 3).toInt := (by rw [e81, vf]); rw [lf] at p9 ps9; rw [of9] at ps9; have ne9 := (show (x2).toNatClampNeg ≠ (x3).toNatClampNeg from (by show (x2).toInt.toNat ≠ (x3).toInt.toNat; have h9 := q_2; exact (have a0 := in_u h3; have a1 := in_u h2; have a2 := in_u ro_32_0; have a3 := in_u i67; have a4 := in_u i95; have a5 := t_add e95 i67 (in_c 1 rfl) rfl; have a6 := in_u ((in_c 1 rfl)); have a7 := tx_i2l e90; have a8 := in_u i87; have oc := oc_75_65_32; by omega))); have pe := psi_e g63_0.1 hd9 p9 ps9 it9 ne9 g63_0.2.1; have vs := cfl_n g63_0.1 ne9 (rm_D hI) g63_0.2.2 p87f e90 wz e91; have gz : ((sG s87 65 3 z91).2.2.2.1 65 3).toInt = (sc63.2.2.2.1 65 3).toInt + (z87).toInt := vs; rw [gz]; exact ⟨pe.1, pe.2, by have h8 := p87f; have h9 := g63_0.2.2; omega⟩
          have n63a : ((sG s87 65 3 z91)).2.2.1 65 0 = s.2.2.1 32 0 ∧ ((sG s87 65 3 z91)).2.2.1 65 1 = x2 ∧ ((sG s87 65 3 z91)).2.2.1 65 2 = x3 := by exact ⟨(hF87.2.2.1 65 0 rfl).trans ((hF73.2.2.1 65 0 rfl).trans g63_1.1), (hF87.2.2.1 65 1 rfl).trans ((hF73.2.2.1 65 1 rfl).trans g63_1.2.1), (hF87.2.2.1 65 2 rfl).trans ((hF73.2.2.1 65 2 rfl).trans g63_1.2.2)⟩
          exact gg_w (by first | exact Nat.le_add_right _ _ | exact gw2 | exact gw3 | exact gwe rfl | exact gwf rfl | exact gwg rfl | exact gwh rfl | omega) (gg_f (gf_cons rfl (gf_cons rfl (gf_cons rfl (gf_cons rfl (gf_cons rfl gf_nil))))) (ih63 (sG s87 65 3 z91) z95 hI92 (fr_sG rfl (fr_tr rfl (fr_tr rfl hFc63 hF73) hF87)) (in_w 0 2147483647 i95 rfl) n63 n63a (m_up mm63 (t_add e95 i67 (in_c 1 rfl) rfl) (in_w 1 1 (in_c 1 rfl) rfl))))
  refine g_enter2 (k := 75) (N := 1932735284101) (by first | exact dq1 hd rfl | exact dq0 hd rfl | exact dq2 hd rfl | exact dq3 hd rfl | omega) rfl (Nat.le_of_ble_eq_true rfl) ?_
  refine g_aload_n 1 (gd rfl) rfl rfl ?_
  refine g_getI 4 (gd rfl) rfl rfl rfl (fun z1 e1 => ?_)
  have i1 := inv_F hI (-1) 4000 rfl e1
  refine g_aload_n 5 (gd rfl) rfl rfl ?_
  refine g_getI 8 (gd rfl) rfl rfl rfl (fun z5 e5 => ?_)
  have q5 : u_32_0 = z5 := (e_32_0).trans e5.symm
  subst q5
  refine g_cmp_ne 11 32 (gd rfl) rfl rfl (fun c8 => ?_) (fun c8 => ?_)
  · skip
    refine g_aload_n 33 (gd rfl) rfl rfl ?_
    refine g_aload_n 34 (gd rfl) rfl rfl ?_
    refine g_getI 37 (gd rfl) rfl rfl rfl (fun z34 e34 => ?_)
    have q34 : u_32_0 = z34 := (e_32_0).trans e34.symm
    subst q34
    refine g_putI 40 (gd rfl) rfl rfl rfl rfl ?_
    have hI37 := inv_sF (q := 65) (j := 0) hI rfl (in_w (-1) 4000 ro_32_0 rfl)
    refine g_aload_n 41 (gd rfl) rfl rfl ?_
    refine g_iload_n 42 (gd rfl) rfl rfl ?_
    refine g_putI 45 (gd rfl) rfl rfl rfl rfl ?_
    have hI42 := inv_sF (q := 65) (j := 1) hI37 rfl (in_w 0 31 h2 rfl)
    refine g_aload_n 46 (gd rfl) rfl rfl ?_
    refine g_iload_n 47 (gd rfl) rfl rfl ?_
    refine g_putI 50 (gd rfl) rfl rfl rfl rfl ?_
    have hI47 := inv_sF (q := 65) (j := 2) hI42 rfl (in_w 0 31 h3 rfl)
    refine g_aload_n 51 (gd rfl) rfl rfl ?_
    refine g_lconst 0 52 (gd rfl) rfl rfl ?_
    refine g_putL 55 (gd rfl) rfl rfl rfl rfl ?_
    have hI52 := inv_sG (q := 65) (j := 3) (x := (Int64.ofInt 0)) hI47 rfl (l_rng (Int64.ofInt 0))
    refine g_aload_n 56 (gd rfl) rfl rfl ?_
    refine g_aload_n 57 (gd rfl) rfl rfl ?_
    have p57 : TQD (sG (sF (sF (sF s 65 0 u_32_0) 65 1 x2) 65 2 x3) 65 3 (Int64.ofInt 0)) := by exact tqd_fr (L := ([], [], [(65, 0), (65, 1), (65, 2)], [(65, 3)])) q_0 (fr_sG rfl (fr_sF rfl (fr_sF rfl (fr_sF rfl fr_rf)))) rfl
    refine g_callv (X := _) (As := [.ref (A 32)]) (r := []) (b := A 65) (q := 65) 60 (gd rfl) rfl rfl rfl rfl rfl (ww_o rfl) (Nat.le_of_ble_eq_true rfl) (Nat.zero_le _) (Nat.zero_le _) (f_76_65_32 (by first | exact dq1 hd rfl | exact dq0 hd rfl | exact dq2 hd rfl | exact dq3 hd rfl | omega) hI52 p57) (fun e u h => h) (fun v u h => ?_)
    obtain ⟨s57, hI57, hF57, rfl, rfl, p57a⟩ := h
    show GG _ _ _ _ _ _ _ _ [] _ _ _
    refine g_iconst 0 61 (gd rfl) rfl rfl ?_
    refine g_istore 63 (gd rfl) rfl (Nat.le_of_ble_eq_true rfl) ?_
    have n63 : CFL (gvD s) (x2).toNatClampNeg (x3).toNatClampNeg ((s57).1 66) ((s57).1 67) ((s57).2.2.2.1 65 3).toInt ∧ EKI ((s57).1 67) (x2).toNatClampNeg (x3).toNatClampNeg ((Int32.ofInt 0)).toNatClampNeg ∧ 0 ≤ ((s57).2.2.2.1 65 3).toInt := by have h9 := p57a (x2).toNatClampNeg (x3).toNatClampNeg; rw [(show gvD (sG (sF (sF (sF s 65 0 u_32_0) 65 1 x2) 65 2 x3) 65 3 (Int64.ofInt 0)) = gvD s from gvD_fr (L := ([], [], [(65, 0), (65, 1), (65, 2)], [(65, 3)])) (fr_sG rfl (fr_sF rfl (fr_sF rfl (fr_sF rfl fr_rf)))) rfl)] at h9; have e3 : (s57.2.2.2.1 65 3) = Int64.ofInt 0 := hF57.2.2.2 65 3 rfl; have z0 : (Int64.ofInt 0).toInt = 0 := rfl; rw [e3, z0]; exact ⟨h9, (show EKI _ _ _ 0 from eki_0 (show (x2).toNatClampNeg ≠ (x3).toNatClampNeg from (by show (x2).toInt.toNat ≠ (x3).toInt.toNat; have h9 := q_2; exact (have a0 := in_u ro_32_0; have a1 := in_u h3; have a2 := in_u h2; have a3 := in_u ((in_c 0 rfl)); have oc := oc_75_65_32; by omega)))), Int.le_refl _⟩
    have n63a : (s57).2.2.1 65 0 = s.2.2.1 32 0 ∧ (s57).2.2.1 65 1 = x2 ∧ (s57).2.2.1 65 2 = x3 := by refine ⟨?_, ?_, ?_⟩; (rw [hF57.2.2.1 65 0 rfl]; exact e_32_0); (rw [hF57.2.2.1 65 1 rfl]; rfl); (rw [hF57.2.2.1 65 2 rfl]; rfl)
    exact gg_w (by first | exact Nat.le_of_ble_eq_true rfl | omega) (gg_f (gf_cons rfl (gf_cons rfl (gf_cons rfl (gf_cons rfl (gf_cons rfl gf_nil))))) (ct63 2147483648 s57 (Int32.ofInt 0) hI57 (fr_tr rfl (fr_sG rfl (fr_sF rfl (fr_sF rfl (fr_sF rfl fr_rf)))) hF57) (in_w 0 2147483647 (in_c 0 rfl) rfl) n63 n63a (m_in 2147483648 (in_w 0 2147483647 (in_c 0 rfl) rfl) rfl)))
  · skip
    have i8 := r_eq1 0 4000 c8 i1 ro_32_0 rfl
    refine g_aload_n 12 (gd rfl) rfl rfl ?_
    refine g_getI 15 (gd rfl) rfl rfl rfl (fun z12 e12 => ?_)
    have i12 := inv_F hI 0 31 rfl e12
    refine g_iload_n 16 (gd rfl) rfl rfl ?_
    refine g_cmp_ne 19 32 (gd rfl) rfl rfl (fun c16 => ?_) (fun c16 => ?_)
    · skip
      refine g_aload_n 33 (gd rfl) rfl rfl ?_
      refine g_aload_n 34 (gd rfl) rfl rfl ?_
      refine g_getI 37 (gd rfl) rfl rfl rfl (fun z34 e34 => ?_)
      have q34 : u_32_0 = z34 := (e_32_0).trans e34.symm
      subst q34
      refine g_putI 40 (gd rfl) rfl rfl rfl rfl ?_
      have hI37 := inv_sF (q := 65) (j := 0) hI rfl (in_w (-1) 4000 ro_32_0 rfl)
      refine g_aload_n 41 (gd rfl) rfl rfl ?_
      refine g_iload_n 42 (gd rfl) rfl rfl ?_
      refine g_putI 45 (gd rfl) rfl rfl rfl rfl ?_
      have hI42 := inv_sF (q := 65) (j := 1) hI37 rfl (in_w 0 31 h2 rfl)
      refine g_aload_n 46 (gd rfl) rfl rfl ?_
      refine g_iload_n 47 (gd rfl) rfl rfl ?_
      refine g_putI 50 (gd rfl) rfl rfl rfl rfl ?_
      have hI47 := inv_sF (q := 65) (j := 2) hI42 rfl (in_w 0 31 h3 rfl)
      refine g_aload_n 51 (gd rfl) rfl rfl ?_
      refine g_lconst 0 52 (gd rfl) rfl rfl ?_
      refine g_putL 55 (gd rfl) rfl rfl rfl rfl ?_
      have hI52 := inv_sG (q := 65) (j := 3) (x := (Int64.ofInt 0)) hI47 rfl (l_rng (Int64.ofInt 0))
      refine g_aload_n 56 (gd rfl) rfl rfl ?_
      refine g_aload_n 57 (gd rfl) rfl rfl ?_
      have p57 : TQD (sG (sF (sF (sF s 65 0 u_32_0) 65 1 x2) 65 2 x3) 65 3 (Int64.ofInt 0)) := by exact tqd_fr (L := ([], [], [(65, 0), (65, 1), (65, 2)], [(65, 3)])) q_0 (fr_sG rfl (fr_sF rfl (fr_sF rfl (fr_sF rfl fr_rf)))) rfl
      refine g_callv (X := _) (As := [.ref (A 32)]) (r := []) (b := A 65) (q := 65) 60 (gd rfl) rfl rfl rfl rfl rfl (ww_o rfl) (Nat.le_of_ble_eq_true rfl) (Nat.zero_le _) (Nat.zero_le _) (f_76_65_32 (by first | exact dq1 hd rfl | exact dq0 hd rfl | exact dq2 hd rfl | exact dq3 hd rfl | omega) hI52 p57) (fun e u h => h) (fun v u h => ?_)
      obtain ⟨s57, hI57, hF57, rfl, rfl, p57a⟩ := h
      show GG _ _ _ _ _ _ _ _ [] _ _ _
      refine g_iconst 0 61 (gd rfl) rfl rfl ?_
      refine g_istore 63 (gd rfl) rfl (Nat.le_of_ble_eq_true rfl) ?_
      have n63 : CFL (gvD s) (x2).toNatClampNeg (x3).toNatClampNeg ((s57).1 66) ((s57).1 67) ((s57).2.2.2.1 65 3).toInt ∧ EKI ((s57).1 67) (x2).toNatClampNeg (x3).toNatClampNeg ((Int32.ofInt 0)).toNatClampNeg ∧ 0 ≤ ((s57).2.2.2.1 65 3).toInt := by have h9 := p57a (x2).toNatClampNeg (x3).toNatClampNeg; rw [(show gvD (sG (sF (sF (sF s 65 0 u_32_0) 65 1 x2) 65 2 x3) 65 3 (Int64.ofInt 0)) = gvD s from gvD_fr (L := ([], [], [(65, 0), (65, 1), (65, 2)], [(65, 3)])) (fr_sG rfl (fr_sF rfl (fr_sF rfl (fr_sF rfl fr_rf)))) rfl)] at h9; have e3 : (s57.2.2.2.1 65 3) = Int64.ofInt 0 := hF57.2.2.2 65 3 rfl; have z0 : (Int64.ofInt 0).toInt = 0 := rfl; rw [e3, z0]; exact ⟨h9, (show EKI _ _ _ 0 from eki_0 (show (x2).toNatClampNeg ≠ (x3).toNatClampNeg from (by show (x2).toInt.toNat ≠ (x3).toInt.toNat; have h9 := q_2; exact (have a0 := in_u ro_32_0; have a1 := in_u h3; have a2 := in_u h2; have a3 := in_u ((in_c 0 rfl)); have oc := oc_75_65_32; by omega)))), Int.le_refl _⟩
      have n63a : (s57).2.2.1 65 0 = s.2.2.1 32 0 ∧ (s57).2.2.1 65 1 = x2 ∧ (s57).2.2.1 65 2 = x3 := by refine ⟨?_, ?_, ?_⟩; (rw [hF57.2.2.1 65 0 rfl]; exact e_32_0); (rw [hF57.2.2.1 65 1 rfl]; rfl); (rw [hF57.2.2.1 65 2 rfl]; rfl)
      exact gg_w (by first | exact Nat.le_of_ble_eq_true rfl | omega) (gg_f (gf_cons rfl (gf_cons rfl (gf_cons rfl (gf_cons rfl (gf_cons rfl gf_nil))))) (ct63 2147483648 s57 (Int32.ofInt 0) hI57 (fr_tr rfl (fr_sG rfl (fr_sF rfl (fr_sF rfl (fr_sF rfl fr_rf)))) hF57) (in_w 0 2147483647 (in_c 0 rfl) rfl) n63 n63a (m_in 2147483648 (in_w 0 2147483647 (in_c 0 rfl) rfl) rfl)))
    · skip
      refine g_aload_n 20 (gd rfl) rfl rfl ?_
      refine g_getI 23 (gd rfl) rfl rfl rfl (fun z20 e20 => ?_)
      have i20 := inv_F hI 0 31 rfl e20
      refine g_iload_n 24 (gd rfl) rfl rfl ?_
      refine g_cmp_ne 27 32 (gd rfl) rfl rfl (fun c24 => ?_) (fun c24 => ?_)
      · skip
        refine g_aload_n 33 (gd rfl) rfl rfl ?_
        refine g_aload_n 34 (gd rfl) rfl rfl ?_
        refine g_getI 37 (gd rfl) rfl rfl rfl (fun z34 e34 => ?_)
        have q34 : u_32_0 = z34 := (e_32_0).trans e34.symm
        subst q34
        refine g_putI 40 (gd rfl) rfl rfl rfl rfl ?_
        have hI37 := inv_sF (q := 65) (j := 0) hI rfl (in_w (-1) 4000 ro_32_0 rfl)
        refine g_aload_n 41 (gd rfl) rfl rfl ?_
        refine g_iload_n 42 (gd rfl) rfl rfl ?_
        refine g_putI 45 (gd rfl) rfl rfl rfl rfl ?_
        have hI42 := inv_sF (q := 65) (j := 1) hI37 rfl (in_w 0 31 h2 rfl)
        refine g_aload_n 46 (gd rfl) rfl rfl ?_
        refine g_iload_n 47 (gd rfl) rfl rfl ?_
        refine g_putI 50 (gd rfl) rfl rfl rfl rfl ?_
        have hI47 := inv_sF (q := 65) (j := 2) hI42 rfl (in_w 0 31 h3 rfl)
        refine g_aload_n 51 (gd rfl) rfl rfl ?_
        refine g_lconst 0 52 (gd rfl) rfl rfl ?_
        refine g_putL 55 (gd rfl) rfl rfl rfl rfl ?_
        have hI52 := inv_sG (q := 65) (j := 3) (x := (Int64.ofInt 0)) hI47 rfl (l_rng (Int64.ofInt 0))
        refine g_aload_n 56 (gd rfl) rfl rfl ?_
        refine g_aload_n 57 (gd rfl) rfl rfl ?_
        have p57 : TQD (sG (sF (sF (sF s 65 0 u_32_0) 65 1 x2) 65 2 x3) 65 3 (Int64.ofInt 0)) := by exact tqd_fr (L := ([], [], [(65, 0), (65, 1), (65, 2)], [(65, 3)])) q_0 (fr_sG rfl (fr_sF rfl (fr_sF rfl (fr_sF rfl fr_rf)))) rfl
        refine g_callv (X := _) (As := [.ref (A 32)]) (r := []) (b := A 65) (q := 65) 60 (gd rfl) rfl rfl rfl rfl rfl (ww_o rfl) (Nat.le_of_ble_eq_true rfl) (Nat.zero_le _) (Nat.zero_le _) (f_76_65_32 (by first | exact dq1 hd rfl | exact dq0 hd rfl | exact dq2 hd rfl | exact dq3 hd rfl | omega) hI52 p57) (fun e u h => h) (fun v u h => ?_)
        obtain ⟨s57, hI57, hF57, rfl, rfl, p57a⟩ := h
        show GG _ _ _ _ _ _ _ _ [] _ _ _
        refine g_iconst 0 61 (gd rfl) rfl rfl ?_
        refine g_istore 63 (gd rfl) rfl (Nat.le_of_ble_eq_true rfl) ?_
        have n63 : CFL (gvD s) (x2).toNatClampNeg (x3).toNatClampNeg ((s57).1 66) ((s57).1 67) ((s57).2.2.2.1 65 3).toInt ∧ EKI ((s57).1 67) (x2).toNatClampNeg (x3).toNatClampNeg ((Int32.ofInt 0)).toNatClampNeg ∧ 0 ≤ ((s57).2.2.2.1 65 3).toInt := by have h9 := p57a (x2).toNatClampNeg (x3).toNatClampNeg; rw [(show gvD (sG (sF (sF (sF s 65 0 u_32_0) 65 1 x2) 65 2 x3) 65 3 (Int64.ofInt 0)) = gvD s from gvD_fr (L := ([], [], [(65, 0), (65, 1), (65, 2)], [(65, 3)])) (fr_sG rfl (fr_sF rfl (fr_sF rfl (fr_sF rfl fr_rf)))) rfl)] at h9; have e3 : (s57.2.2.2.1 65 3) = Int64.ofInt 0 := hF57.2.2.2 65 3 rfl; have z0 : (Int64.ofInt 0).toInt = 0 := rfl; rw [e3, z0]; exact ⟨h9, (show EKI _ _ _ 0 from eki_0 (show (x2).toNatClampNeg ≠ (x3).toNatClampNeg from (by show (x2).toInt.toNat ≠ (x3).toInt.toNat; have h9 := q_2; exact (have a0 := in_u ro_32_0; have a1 := in_u h3; have a2 := in_u h2; have a3 := in_u ((in_c 0 rfl)); have oc := oc_75_65_32; by omega)))), Int.le_refl _⟩
        have n63a : (s57).2.2.1 65 0 = s.2.2.1 32 0 ∧ (s57).2.2.1 65 1 = x2 ∧ (s57).2.2.1 65 2 = x3 := by refine ⟨?_, ?_, ?_⟩; (rw [hF57.2.2.1 65 0 rfl]; exact e_32_0); (rw [hF57.2.2.1 65 1 rfl]; rfl); (rw [hF57.2.2.1 65 2 rfl]; rfl)
        exact gg_w (by first | exact Nat.le_of_ble_eq_true rfl | omega) (gg_f (gf_cons rfl (gf_cons rfl (gf_cons rfl (gf_cons rfl (gf_cons rfl gf_nil))))) (ct63 2147483648 s57 (Int32.ofInt 0) hI57 (fr_tr rfl (fr_sG rfl (fr_sF rfl (fr_sF rfl (fr_sF rfl fr_rf)))) hF57) (in_w 0 2147483647 (in_c 0 rfl) rfl) n63 n63a (m_in 2147483648 (in_w 0 2147483647 (in_c 0 rfl) rfl) rfl)))
      · skip
        refine g_aload_n 28 (gd rfl) rfl rfl ?_
        refine g_getL 31 (gd rfl) rfl rfl rfl (fun z28 e28 => ?_)
        have n31 : FLQ (gvD s) s ∧ FLA s x2 x3 := by have c9 : (s.2.2.1 65 0).toInt = (gvD s).2.2.2.2.2.2.2 := (by show (s.2.2.1 65 0).toInt = (s.2.2.1 32 0).toInt; rw [← e1, ← e_32_0]; first | exact c8 | exact c8.symm); have k9 := q_1 c9; have a1 : s.2.2.1 65 1 = x2 := Int32.toInt_inj.mp (by rw [← e12]; first | exact c16 | exact c16.symm); have a2 : s.2.2.1 65 2 = x3 := Int32.toInt_inj.mp (by rw [← e20]; first | exact c24 | exact c24.symm); rw [a1, a2] at k9; exact flq_e c9 a1 a2 k9
        have n31a : (z28).toInt = ((s).2.2.2.1 65 3).toInt := by rw [e28]
        exact g_lreturn (gd rfl) rfl (hP _ _ ⟨s, hI, fr_rf, z28, rfl, rfl, n31, n31a⟩)

theorem oc_241_0 : (Int32.ofInt (-1)).toInt = (-1) ∧ (Int32.ofInt 0).toInt = 0 ∧ (Int32.ofInt 1).toInt = 1 := ⟨rfl, rfl, rfl⟩
/-- GraphHouse.flow -/
theorem f_241_0 {Z : AmZ} {A : Nat → Nat} {s : GS} {ex : va_W} {d : Nat} {x1 : Int32} {x2 : Int32} (hd : 7 ≤ d) (hI : Inv s) (q_0 : TQ s) (q_1 : TQD s) (q_2 : FLC s) : GC Z d 241 [.ref (A 0), .int x1, .int x2] (WW Z A s ++ ex) 3 18 (fun v u => ∃ t : GS, Inv t ∧ Fr fm_241_0 s t ∧ ∃ z : Int64, v = some (.long z) ∧ u = WW Z A t ++ ex ∧ ((TWO (shC s).2.2.2.2.2.2.1 x1 x2) ∧ FLV (shC s) x1.toNatClampNeg x2.toNatClampNeg (z).toInt) ∧ (FLQ (shC s) t)) (gEx Z A ex ([], [], [], []) s (¬ (TWO (shC s).2.2.2.2.2.2.1 x1 x2)) (False)) := by
  intro post xp hP hX
  obtain ⟨u_0_2, e_0_2⟩ : ∃ w, w = s.2.2.1 0 2 := ⟨_, rfl⟩
  have ro_0_2 := inv_F hI (-1) 4000 rfl e_0_2
  obtain ⟨u_2_1, e_2_1⟩ : ∃ w, w = s.2.2.1 2 1 := ⟨_, rfl⟩
  have ro_2_1 := inv_F hI 0 32 rfl e_2_1
  obtain ⟨u_32_1, e_32_1⟩ : ∃ w, w = s.2.2.1 32 1 := ⟨_, rfl⟩
  have ro_32_1 := inv_F hI 0 32 rfl e_32_1
  refine g_enter2 (k := 241) (N := 900) (by first | exact dq1 hd rfl | exact dq0 hd rfl | exact dq2 hd rfl | exact dq3 hd rfl | omega) rfl (Nat.le_of_ble_eq_true rfl) ?_
  refine g_aload_n 1 (gd rfl) rfl rfl ?_
  refine g_callv (X := _) (As := []) (r := []) (b := A 0) (q := 0) 4 (gd rfl) rfl rfl rfl rfl rfl (ww_o rfl) (Nat.le_of_ble_eq_true rfl) (mc := 0) (ms := 0) (Nat.zero_le _) (Nat.zero_le _) (P := fun v u => _) ?_ (fun e u h => h) (fun v u h => h)
  intro po1 xx1 hp1 hx1
  refine g_enter2 (k := 259) (N := 300) (by first | exact dq1 hd rfl | exact dq0 hd rfl | exact dq2 hd rfl | exact dq3 hd rfl | omega) rfl (Nat.le_of_ble_eq_true rfl) ?_
  refine g_aload_n 1 (gd rfl) rfl rfl ?_
  refine g_getI 4 (gd rfl) rfl rfl rfl (fun z1x1 e1x1 => ?_)
  have q1x1 : u_0_2 = z1x1 := (e_0_2).trans e1x1.symm
  subst q1x1
  refine g_iconst (-1) 5 (gd rfl) rfl rfl ?_
  refine g_cmp_ne 8 18 (gd rfl) rfl rfl (fun c1x5 => ?_) (fun c1x5 => ?_)
  · skip
    have i1x5 := r_ne1 0 4000 c1x5 ro_0_2 (in_c (-1) rfl) rfl
    refine g_aload_n 19 (gd rfl) rfl rfl ?_
    refine g_getA (q2 := 32) 22 (gd rfl) rfl rfl rfl rfl ?_
    refine g_areturn (gd rfl) rfl (hp1 _ _ ?_)
    show GG _ _ _ _ _ _ _ _ [.ref (A 32)] _ _ _
    refine g_astore_n 5 (gd rfl) rfl (Nat.le_of_ble_eq_true rfl) ?_
    refine g_aload_n 6 (gd rfl) rfl rfl ?_
    refine g_iload_n 7 (gd rfl) rfl rfl ?_
    refine g_iload_n 8 (gd rfl) rfl rfl ?_
    refine g_callv (X := _) (As := [.int x1, .int x2]) (r := []) (b := A 32) (q := 32) 11 (gd rfl) rfl rfl rfl rfl rfl (ww_o rfl) (Nat.le_of_ble_eq_true rfl) (mc := 0) (ms := 0) (Nat.zero_le _) (Nat.zero_le _) (P := fun v u => _) ?_ (fun e u h => h) (fun v u h => h)
    intro po8 xx8 hp8 hx8
    refine g_enter2 (k := 95) (N := 300) (by first | exact dq1 hd rfl | exact dq0 hd rfl | exact dq2 hd rfl | exact dq3 hd rfl | omega) rfl (Nat.le_of_ble_eq_true rfl) ?_
    refine g_aload_n 1 (gd rfl) rfl rfl ?_
    refine g_iload_n 2 (gd rfl) rfl rfl ?_
    refine g_callv (X := _) (As := [.int x1]) (r := []) (b := A 32) (q := 32) 5 (gd rfl) rfl rfl rfl rfl rfl (ww_o rfl) (Nat.le_of_ble_eq_true rfl) (mc := 0) (ms := 0) (Nat.zero_le _) (Nat.zero_le _) (P := fun v u => _) ?_ (fun e u h => h) (fun v u h => h)
    intro po8x2 xx8x2 hp8x2 hx8x2
    refine g_enter2 (k := 94) (N := 300) (by first | exact dq1 hd rfl | exact dq0 hd rfl | exact dq2 hd rfl | exact dq3 hd rfl | omega) rfl (Nat.le_of_ble_eq_true rfl) ?_
    refine g_iload_n 1 (gd rfl) rfl rfl ?_
    refine g_if_lt 4 16 (gd rfl) rfl rfl (fun c8x2x1 => ?_) (fun c8x2x1 => ?_)
    · skip
      have i8x2x1 := z_lt (-2147483648) (-1) c8x2x1 (i_rng x1) rfl
      refine g_iconst 0 17 (gd rfl) rfl rfl ?_
      refine g_ireturn (gd rfl) rfl (nb01 (in_w 0 1 (in_c 0 rfl) rfl)) (hp8x2 _ _ ?_)
      show GG _ _ _ _ _ _ _ _ [.int (Int32.ofInt 0)] _ _ _
      refine g_if_eq 8 25 (gd rfl) rfl rfl (fun c8x5 => ?_) (fun c8x5 => ?_)
      · skip
        refine g_iconst 0 26 (gd rfl) rfl rfl ?_
        refine g_ireturn (gd rfl) rfl (nb01 (in_w 0 1 (in_c 0 rfl) rfl)) (hp8 _ _ ?_)
        show GG _ _ _ _ _ _ _ _ [.int (Int32.ofInt 0)] _ _ _
        refine g_thr (E := am_IA) (y := yX11_allow) 14 (gd rfl) rfl rfl (Or.inl ⟨rfl, rfl, rfl⟩) (by first | exact dq1 hd rfl | exact dq0 hd rfl | exact dq2 hd rfl | exact dq3 hd rfl | omega) (Nat.le_of_ble_eq_true rfl) (Nat.le_of_ble_eq_true rfl) (Nat.le_of_ble_eq_true rfl) (fun c11 => ?_) (fun c11 => ?_)
        · skip
          exact zn_ne c11 (in_c 0 rfl) rfl
        · skip
          have n11 : ¬ (TWO (shC s).2.2.2.2.2.2.1 x1 x2) := by first | (rw [shC_n (by rw [← e1x1]; exact c1x5)]; show ¬ TWO (s.2.2.1 2 1).toInt x1 x2; rw [← e_2_1]; exact (have a0 := in_u ro_32_1; have a1 := in_u ro_2_1; have a2 := in_u i1x5; have a3 := in_u i8x2x1; have oc := oc_241_0; by omega)) | (rw [shC_d (by rw [← e1x1]; exact c1x5)]; show ¬ TWO (s.2.2.1 32 1).toInt x1 x2; rw [← e_32_1]; exact (have a0 := in_u ro_32_1; have a1 := in_u ro_2_1; have a2 := in_u i1x5; have a3 := in_u i8x2x1; have oc := oc_241_0; by omega))
          exact (hX _ _ ⟨Or.inl ⟨rfl, n11⟩, s, hI, fr_rf, rfl⟩)
      · skip
        exact zn_ne c8x5 (in_c 0 rfl) rfl
    · skip
      have i8x2x1 := z_ge 0 2147483647 c8x2x1 (i_rng x1) rfl
      refine g_iload_n 5 (gd rfl) rfl rfl ?_
      refine g_aload_n 6 (gd rfl) rfl rfl ?_
      refine g_getI 9 (gd rfl) rfl rfl rfl (fun z8x2x6 e8x2x6 => ?_)
      have q8x2x6 : u_32_1 = z8x2x6 := (e_32_1).trans e8x2x6.symm
      subst q8x2x6
      refine g_cmp_ge 12 16 (gd rfl) rfl rfl (fun c8x2x9 => ?_) (fun c8x2x9 => ?_)
      · skip
        refine g_iconst 0 17 (gd rfl) rfl rfl ?_
        refine g_ireturn (gd rfl) rfl (nb01 (in_w 0 1 (in_c 0 rfl) rfl)) (hp8x2 _ _ ?_)
        show GG _ _ _ _ _ _ _ _ [.int (Int32.ofInt 0)] _ _ _
        refine g_if_eq 8 25 (gd rfl) rfl rfl (fun c8x5 => ?_) (fun c8x5 => ?_)
        · skip
          refine g_iconst 0 26 (gd rfl) rfl rfl ?_
          refine g_ireturn (gd rfl) rfl (nb01 (in_w 0 1 (in_c 0 rfl) rfl)) (hp8 _ _ ?_)
          show GG _ _ _ _ _ _ _ _ [.int (Int32.ofInt 0)] _ _ _
          refine g_thr (E := am_IA) (y := yX11_allow) 14 (gd rfl) rfl rfl (Or.inl ⟨rfl, rfl, rfl⟩) (by first | exact dq1 hd rfl | exact dq0 hd rfl | exact dq2 hd rfl | exact dq3 hd rfl | omega) (Nat.le_of_ble_eq_true rfl) (Nat.le_of_ble_eq_true rfl) (Nat.le_of_ble_eq_true rfl) (fun c11 => ?_) (fun c11 => ?_)
          · skip
            exact zn_ne c11 (in_c 0 rfl) rfl
          · skip
            have n11 : ¬ (TWO (shC s).2.2.2.2.2.2.1 x1 x2) := by first | (rw [shC_n (by rw [← e1x1]; exact c1x5)]; show ¬ TWO (s.2.2.1 2 1).toInt x1 x2; rw [← e_2_1]; exact (have a0 := in_u ro_32_1; have a1 := in_u ro_2_1; have a2 := in_u i1x5; have a3 := in_u i8x2x1; have oc := oc_241_0; by omega)) | (rw [shC_d (by rw [← e1x1]; exact c1x5)]; show ¬ TWO (s.2.2.1 32 1).toInt x1 x2; rw [← e_32_1]; exact (have a0 := in_u ro_32_1; have a1 := in_u ro_2_1; have a2 := in_u i1x5; have a3 := in_u i8x2x1; have oc := oc_241_0; by omega))
            exact (hX _ _ ⟨Or.inl ⟨rfl, n11⟩, s, hI, fr_rf, rfl⟩)
        · skip
          exact zn_ne c8x5 (in_c 0 rfl) rfl
      · skip
        have i8x2x9 := r_lt1 0 31 c8x2x9 i8x2x1 ro_32_1 rfl
        have i8x2x9a := r_lt2 1 32 c8x2x9 i8x2x1 ro_32_1 rfl
        refine g_iconst 1 13 (gd rfl) rfl rfl ?_
        refine g_goto 17 (gd rfl) rfl ?_
        refine g_ireturn (gd rfl) rfl (nb01 (in_w 0 1 (in_c 1 rfl) rfl)) (hp8x2 _ _ ?_)
        show GG _ _ _ _ _ _ _ _ [.int (Int32.ofInt 1)] _ _ _
        refine g_if_eq 8 25 (gd rfl) rfl rfl (fun c8x5 => ?_) (fun c8x5 => ?_)
        · skip
          exact zn_eq c8x5 (in_c 1 rfl) rfl
        · skip
          refine g_aload_n 9 (gd rfl) rfl rfl ?_
          refine g_iload_n 10 (gd rfl) rfl rfl ?_
          refine g_callv (X := _) (As := [.int x2]) (r := []) (b := A 32) (q := 32) 13 (gd rfl) rfl rfl rfl rfl rfl (ww_o rfl) (Nat.le_of_ble_eq_true rfl) (mc := 0) (ms := 0) (Nat.zero_le _) (Nat.zero_le _) (P := fun v u => _) ?_ (fun e u h => h) (fun v u h => h)
          intro po8x10 xx8x10 hp8x10 hx8x10
          refine g_enter2 (k := 94) (N := 300) (by first | exact dq1 hd rfl | exact dq0 hd rfl | exact dq2 hd rfl | exact dq3 hd rfl | omega) rfl (Nat.le_of_ble_eq_true rfl) ?_
          refine g_iload_n 1 (gd rfl) rfl rfl ?_
          refine g_if_lt 4 16 (gd rfl) rfl rfl (fun c8x10x1 => ?_) (fun c8x10x1 => ?_)
          · skip
            have i8x10x1 := z_lt (-2147483648) (-1) c8x10x1 (i_rng x2) rfl
            refine g_iconst 0 17 (gd rfl) rfl rfl ?_
            refine g_ireturn (gd rfl) rfl (nb01 (in_w 0 1 (in_c 0 rfl) rfl)) (hp8x10 _ _ ?_)
            show GG _ _ _ _ _ _ _ _ [.int (Int32.ofInt 0)] _ _ _
            refine g_if_eq 16 25 (gd rfl) rfl rfl (fun c8x13 => ?_) (fun c8x13 => ?_)
            · skip
              refine g_iconst 0 26 (gd rfl) rfl rfl ?_
              refine g_ireturn (gd rfl) rfl (nb01 (in_w 0 1 (in_c 0 rfl) rfl)) (hp8 _ _ ?_)
              show GG _ _ _ _ _ _ _ _ [.int (Int32.ofInt 0)] _ _ _
              refine g_thr (E := am_IA) (y := yX11_allow) 14 (gd rfl) rfl rfl (Or.inl ⟨rfl, rfl, rfl⟩) (by first | exact dq1 hd rfl | exact dq0 hd rfl | exact dq2 hd rfl | exact dq3 hd rfl | omega) (Nat.le_of_ble_eq_true rfl) (Nat.le_of_ble_eq_true rfl) (Nat.le_of_ble_eq_true rfl) (fun c11 => ?_) (fun c11 => ?_)
              · skip
                exact zn_ne c11 (in_c 0 rfl) rfl
              · skip
                have n11 : ¬ (TWO (shC s).2.2.2.2.2.2.1 x1 x2) := by first | (rw [shC_n (by rw [← e1x1]; exact c1x5)]; show ¬ TWO (s.2.2.1 2 1).toInt x1 x2; rw [← e_2_1]; exact (have a0 := in_u i8x2x9; have a1 := in_u i8x2x9a; have a2 := in_u ro_2_1; have a3 := in_u i1x5; have a4 := in_u i8x10x1; have oc := oc_241_0; by omega)) | (rw [shC_d (by rw [← e1x1]; exact c1x5)]; show ¬ TWO (s.2.2.1 32 1).toInt x1 x2; rw [← e_32_1]; exact (have a0 := in_u i8x2x9; have a1 := in_u i8x2x9a; have a2 := in_u ro_2_1; have a3 := in_u i1x5; have a4 := in_u i8x10x1; have oc := oc_241_0; by omega))
                exact (hX _ _ ⟨Or.inl ⟨rfl, n11⟩, s, hI, fr_rf, rfl⟩)
            · skip
              exact zn_ne c8x13 (in_c 0 rfl) rfl
          · skip
            have i8x10x1 := z_ge 0 2147483647 c8x10x1 (i_rng x2) rfl
            refine g_iload_n 5 (gd rfl) rfl rfl ?_
            refine g_aload_n 6 (gd rfl) rfl rfl ?_
            refine g_getI 9 (gd rfl) rfl rfl rfl (fun z8x10x6 e8x10x6 => ?_)
            have q8x10x6 : u_32_1 = z8x10x6 := (e_32_1).trans e8x10x6.symm
            subst q8x10x6
            refine g_cmp_ge 12 16 (gd rfl) rfl rfl (fun c8x10x9 => ?_) (fun c8x10x9 => ?_)
            · skip
              have i8x10x9 := r_le2 1 2147483647 c8x10x9 i8x2x9a i8x10x1 rfl
              refine g_iconst 0 17 (gd rfl) rfl rfl ?_
              refine g_ireturn (gd rfl) rfl (nb01 (in_w 0 1 (in_c 0 rfl) rfl)) (hp8x10 _ _ ?_)
              show GG _ _ _ _ _ _ _ _ [.int (Int32.ofInt 0)] _ _ _
              refine g_if_eq 16 25 (gd rfl) rfl rfl (fun c8x13 => ?_) (fun c8x13 => ?_)
              · skip
                refine g_iconst 0 26 (gd rfl) rfl rfl ?_
                refine g_ireturn (gd rfl) rfl (nb01 (in_w 0 1 (in_c 0 rfl) rfl)) (hp8 _ _ ?_)
                show GG _ _ _ _ _ _ _ _ [.int (Int32.ofInt 0)] _ _ _
                refine g_thr (E := am_IA) (y := yX11_allow) 14 (gd rfl) rfl rfl (Or.inl ⟨rfl, rfl, rfl⟩) (by first | exact dq1 hd rfl | exact dq0 hd rfl | exact dq2 hd rfl | exact dq3 hd rfl | omega) (Nat.le_of_ble_eq_true rfl) (Nat.le_of_ble_eq_true rfl) (Nat.le_of_ble_eq_true rfl) (fun c11 => ?_) (fun c11 => ?_)
                · skip
                  exact zn_ne c11 (in_c 0 rfl) rfl
                · skip
                  have n11 : ¬ (TWO (shC s).2.2.2.2.2.2.1 x1 x2) := by first | (rw [shC_n (by rw [← e1x1]; exact c1x5)]; show ¬ TWO (s.2.2.1 2 1).toInt x1 x2; rw [← e_2_1]; exact (have a0 := in_u i8x2x9; have a1 := in_u i8x2x9a; have a2 := in_u ro_2_1; have a3 := in_u i1x5; have a4 := in_u i8x10x9; have oc := oc_241_0; by omega)) | (rw [shC_d (by rw [← e1x1]; exact c1x5)]; show ¬ TWO (s.2.2.1 32 1).toInt x1 x2; rw [← e_32_1]; exact (have a0 := in_u i8x2x9; have a1 := in_u i8x2x9a; have a2 := in_u ro_2_1; have a3 := in_u i1x5; have a4 := in_u i8x10x9; have oc := oc_241_0; by omega))
                  exact (hX _ _ ⟨Or.inl ⟨rfl, n11⟩, s, hI, fr_rf, rfl⟩)
              · skip
                exact zn_ne c8x13 (in_c 0 rfl) rfl
            · skip
              have i8x10x9 := r_lt1 0 31 c8x10x9 i8x10x1 i8x2x9a rfl
              refine g_iconst 1 13 (gd rfl) rfl rfl ?_
              refine g_goto 17 (gd rfl) rfl ?_
              refine g_ireturn (gd rfl) rfl (nb01 (in_w 0 1 (in_c 1 rfl) rfl)) (hp8x10 _ _ ?_)
              show GG _ _ _ _ _ _ _ _ [.int (Int32.ofInt 1)] _ _ _
              refine g_if_eq 16 25 (gd rfl) rfl rfl (fun c8x13 => ?_) (fun c8x13 => ?_)
              · skip
                exact zn_eq c8x13 (in_c 1 rfl) rfl
              · skip
                refine g_iload_n 17 (gd rfl) rfl rfl ?_
                refine g_iload_n 18 (gd rfl) rfl rfl ?_
                refine g_cmp_eq 21 25 (gd rfl) rfl rfl (fun c8x18 => ?_) (fun c8x18 => ?_)
                · skip
                  refine g_iconst 0 26 (gd rfl) rfl rfl ?_
                  refine g_ireturn (gd rfl) rfl (nb01 (in_w 0 1 (in_c 0 rfl) rfl)) (hp8 _ _ ?_)
                  show GG _ _ _ _ _ _ _ _ [.int (Int32.ofInt 0)] _ _ _
                  refine g_thr (E := am_IA) (y := yX11_allow) 14 (gd rfl) rfl rfl (Or.inl ⟨rfl, rfl, rfl⟩) (by first | exact dq1 hd rfl | exact dq0 hd rfl | exact dq2 hd rfl | exact dq3 hd rfl | omega) (Nat.le_of_ble_eq_true rfl) (Nat.le_of_ble_eq_true rfl) (Nat.le_of_ble_eq_true rfl) (fun c11 => ?_) (fun c11 => ?_)
                  · skip
                    exact zn_ne c11 (in_c 0 rfl) rfl
                  · skip
                    have n11 : ¬ (TWO (shC s).2.2.2.2.2.2.1 x1 x2) := by first | (rw [shC_n (by rw [← e1x1]; exact c1x5)]; show ¬ TWO (s.2.2.1 2 1).toInt x1 x2; rw [← e_2_1]; exact (have a0 := in_u i8x10x9; have a1 := in_u i8x2x9; have a2 := in_u i8x2x9a; have a3 := in_u ro_2_1; have a4 := in_u i1x5; have oc := oc_241_0; by omega)) | (rw [shC_d (by rw [← e1x1]; exact c1x5)]; show ¬ TWO (s.2.2.1 32 1).toInt x1 x2; rw [← e_32_1]; exact (have a0 := in_u i8x10x9; have a1 := in_u i8x2x9; have a2 := in_u i8x2x9a; have a3 := in_u ro_2_1; have a4 := in_u i1x5; have oc := oc_241_0; by omega))
                    exact (hX _ _ ⟨Or.inl ⟨rfl, n11⟩, s, hI, fr_rf, rfl⟩)
                · skip
                  refine g_iconst 1 22 (gd rfl) rfl rfl ?_
                  refine g_goto 26 (gd rfl) rfl ?_
                  refine g_ireturn (gd rfl) rfl (nb01 (in_w 0 1 (in_c 1 rfl) rfl)) (hp8 _ _ ?_)
                  show GG _ _ _ _ _ _ _ _ [.int (Int32.ofInt 1)] _ _ _
                  refine g_thr (E := am_IA) (y := yX11_allow) 14 (gd rfl) rfl rfl (Or.inl ⟨rfl, rfl, rfl⟩) (by first | exact dq1 hd rfl | exact dq0 hd rfl | exact dq2 hd rfl | exact dq3 hd rfl | omega) (Nat.le_of_ble_eq_true rfl) (Nat.le_of_ble_eq_true rfl) (Nat.le_of_ble_eq_true rfl) (fun c11 => ?_) (fun c11 => ?_)
                  · skip
                    refine g_aload_n 15 (gd rfl) rfl rfl ?_
                    refine g_getA (q2 := 65) 18 (gd rfl) rfl rfl rfl rfl ?_
                    refine g_aload_n 19 (gd rfl) rfl rfl ?_
                    refine g_iload_n 20 (gd rfl) rfl rfl ?_
                    refine g_iload_n 21 (gd rfl) rfl rfl ?_
                    have p21 : TQD s := by first | exact q_0 | exact q_1
                    have p21a : FLB (gvD s) s := by first | (rw [← shC_n (by rw [← e1x1]; exact c1x5)]; exact q_2) | (rw [← shC_d (by rw [← e1x1]; exact c1x5)]; exact q_2)
                    have p21b : (x1).toInt ≠ (x2).toInt := by exact (have a0 := in_u i8x10x9; have a1 := in_u i8x2x9; have a2 := in_u i8x2x9a; have a3 := in_u ro_2_1; have a4 := in_u i1x5; have oc := oc_241_0; by omega)
                    refine g_callv (X := _) (As := [.ref (A 32), .int x1, .int x2]) (r := []) (b := A 65) (q := 65) 24 (gd rfl) rfl rfl rfl rfl rfl (ww_o rfl) (Nat.le_of_ble_eq_true rfl) (Nat.zero_le _) (Nat.zero_le _) (f_75_65_32 (by first | exact dq1 hd rfl | exact dq0 hd rfl | exact dq2 hd rfl | exact dq3 hd rfl | omega) hI (in_w 0 31 i8x2x9 rfl) (in_w 0 31 i8x10x9 rfl) p21 p21a p21b) (fun e u h => h) (fun v u h => ?_)
                    obtain ⟨s21, hI21, hF21, z21, rfl, rfl, p21c, p21d⟩ := h
                    show GG _ _ _ _ _ _ _ _ [.long z21] _ _ _
                    have n24 : (TWO (shC s).2.2.2.2.2.2.1 x1 x2) ∧ FLV (shC s) x1.toNatClampNeg x2.toNatClampNeg (z21).toInt := by first | (rw [shC_n (by rw [← e1x1]; exact c1x5)]; exact ⟨⟨⟨by exact (have a0 := in_u i8x10x9; have a1 := in_u i8x2x9; have a2 := in_u i8x2x9a; have a3 := in_u ro_2_1; have a4 := in_u i1x5; have oc := oc_241_0; by omega), by show x1.toInt < (s.2.2.1 2 1).toInt; rw [← e_2_1]; exact (have a0 := in_u i8x10x9; have a1 := in_u i8x2x9; have a2 := in_u i8x2x9a; have a3 := in_u ro_2_1; have a4 := in_u i1x5; have oc := oc_241_0; by omega)⟩, ⟨by exact (have a0 := in_u i8x10x9; have a1 := in_u i8x2x9; have a2 := in_u i8x2x9a; have a3 := in_u ro_2_1; have a4 := in_u i1x5; have oc := oc_241_0; by omega), by show x2.toInt < (s.2.2.1 2 1).toInt; rw [← e_2_1]; exact (have a0 := in_u i8x10x9; have a1 := in_u i8x2x9; have a2 := in_u i8x2x9a; have a3 := in_u ro_2_1; have a4 := in_u i1x5; have oc := oc_241_0; by omega)⟩, by exact (have a0 := in_u i8x10x9; have a1 := in_u i8x2x9; have a2 := in_u i8x2x9a; have a3 := in_u ro_2_1; have a4 := in_u i1x5; have oc := oc_241_0; by omega)⟩, flv_of p21c p21d⟩) | (rw [shC_d (by rw [← e1x1]; exact c1x5)]; exact ⟨⟨⟨by exact (have a0 := in_u i8x10x9; have a1 := in_u i8x2x9; have a2 := in_u i8x2x9a; have a3 := in_u ro_2_1; have a4 := in_u i1x5; have oc := oc_241_0; by omega), by show x1.toInt < (s.2.2.1 32 1).toInt; rw [← e_32_1]; exact (have a0 := in_u i8x10x9; have a1 := in_u i8x2x9; have a2 := in_u i8x2x9a; have a3 := in_u ro_2_1; have a4 := in_u i1x5; have oc := oc_241_0; by omega)⟩, ⟨by exact (have a0 := in_u i8x10x9; have a1 := in_u i8x2x9; have a2 := in_u i8x2x9a; have a3 := in_u ro_2_1; have a4 := in_u i1x5; have oc := oc_241_0; by omega), by show x2.toInt < (s.2.2.1 32 1).toInt; rw [← e_32_1]; exact (have a0 := in_u i8x10x9; have a1 := in_u i8x2x9; have a2 := in_u i8x2x9a; have a3 := in_u ro_2_1; have a4 := in_u i1x5; have oc := oc_241_0; by omega)⟩, by exact (have a0 := in_u i8x10x9; have a1 := in_u i8x2x9; have a2 := in_u i8x2x9a; have a3 := in_u ro_2_1; have a4 := in_u i1x5; have oc := oc_241_0; by omega)⟩, flv_of p21c p21d⟩)
                    have n24a : FLQ (shC s) s21 := by first | (rw [shC_n (by rw [← e1x1]; exact c1x5)]; exact p21c.1) | (rw [shC_d (by rw [← e1x1]; exact c1x5)]; exact p21c.1)
                    exact g_lreturn (gd rfl) rfl (hP _ _ ⟨s21, hI21, (fr_tr rfl fr_rf hF21), z21, rfl, rfl, n24, n24a⟩)
                  · skip
                    exact zn_eq c11 (in_c 1 rfl) rfl
  · skip
    have i1x5 := r_eq1 (-1) (-1) c1x5 ro_0_2 (in_c (-1) rfl) rfl
    refine g_aload_n 9 (gd rfl) rfl rfl ?_
    refine g_getA (q2 := 1) 12 (gd rfl) rfl rfl rfl rfl ?_
    refine g_getA (q2 := 2) 15 (gd rfl) rfl rfl rfl rfl ?_
    refine g_goto 22 (gd rfl) rfl ?_
    refine g_areturn (gd rfl) rfl (hp1 _ _ ?_)
    show GG _ _ _ _ _ _ _ _ [.ref (A 2)] _ _ _
    refine g_astore_n 5 (gd rfl) rfl (Nat.le_of_ble_eq_true rfl) ?_
    refine g_aload_n 6 (gd rfl) rfl rfl ?_
    refine g_iload_n 7 (gd rfl) rfl rfl ?_
    refine g_iload_n 8 (gd rfl) rfl rfl ?_
    refine g_callv (X := _) (As := [.int x1, .int x2]) (r := []) (b := A 2) (q := 2) 11 (gd rfl) rfl rfl rfl rfl rfl (ww_o rfl) (Nat.le_of_ble_eq_true rfl) (mc := 0) (ms := 0) (Nat.zero_le _) (Nat.zero_le _) (P := fun v u => _) ?_ (fun e u h => h) (fun v u h => h)
    intro po8 xx8 hp8 hx8
    refine g_enter2 (k := 95) (N := 300) (by first | exact dq1 hd rfl | exact dq0 hd rfl | exact dq2 hd rfl | exact dq3 hd rfl | omega) rfl (Nat.le_of_ble_eq_true rfl) ?_
    refine g_aload_n 1 (gd rfl) rfl rfl ?_
    refine g_iload_n 2 (gd rfl) rfl rfl ?_
    refine g_callv (X := _) (As := [.int x1]) (r := []) (b := A 2) (q := 2) 5 (gd rfl) rfl rfl rfl rfl rfl (ww_o rfl) (Nat.le_of_ble_eq_true rfl) (mc := 0) (ms := 0) (Nat.zero_le _) (Nat.zero_le _) (P := fun v u => _) ?_ (fun e u h => h) (fun v u h => h)
    intro po8x2 xx8x2 hp8x2 hx8x2
    refine g_enter2 (k := 94) (N := 300) (by first | exact dq1 hd rfl | exact dq0 hd rfl | exact dq2 hd rfl | exact dq3 hd rfl | omega) rfl (Nat.le_of_ble_eq_true rfl) ?_
    refine g_iload_n 1 (gd rfl) rfl rfl ?_
    refine g_if_lt 4 16 (gd rfl) rfl rfl (fun c8x2x1 => ?_) (fun c8x2x1 => ?_)
    · skip
      have i8x2x1 := z_lt (-2147483648) (-1) c8x2x1 (i_rng x1) rfl
      refine g_iconst 0 17 (gd rfl) rfl rfl ?_
      refine g_ireturn (gd rfl) rfl (nb01 (in_w 0 1 (in_c 0 rfl) rfl)) (hp8x2 _ _ ?_)
      show GG _ _ _ _ _ _ _ _ [.int (Int32.ofInt 0)] _ _ _
      refine g_if_eq 8 25 (gd rfl) rfl rfl (fun c8x5 => ?_) (fun c8x5 => ?_)
      · skip
        refine g_iconst 0 26 (gd rfl) rfl rfl ?_
        refine g_ireturn (gd rfl) rfl (nb01 (in_w 0 1 (in_c 0 rfl) rfl)) (hp8 _ _ ?_)
        show GG _ _ _ _ _ _ _ _ [.int (Int32.ofInt 0)] _ _ _
        refine g_thr (E := am_IA) (y := yX11_allow) 14 (gd rfl) rfl rfl (Or.inl ⟨rfl, rfl, rfl⟩) (by first | exact dq1 hd rfl | exact dq0 hd rfl | exact dq2 hd rfl | exact dq3 hd rfl | omega) (Nat.le_of_ble_eq_true rfl) (Nat.le_of_ble_eq_true rfl) (Nat.le_of_ble_eq_true rfl) (fun c11 => ?_) (fun c11 => ?_)
        · skip
          exact zn_ne c11 (in_c 0 rfl) rfl
        · skip
          have n11 : ¬ (TWO (shC s).2.2.2.2.2.2.1 x1 x2) := by first | (rw [shC_n (by rw [← e1x1]; exact c1x5)]; show ¬ TWO (s.2.2.1 2 1).toInt x1 x2; rw [← e_2_1]; exact (have a0 := in_u ro_32_1; have a1 := in_u ro_2_1; have a2 := in_u i1x5; have a3 := in_u i8x2x1; have oc := oc_241_0; by omega)) | (rw [shC_d (by rw [← e1x1]; exact c1x5)]; show ¬ TWO (s.2.2.1 32 1).toInt x1 x2; rw [← e_32_1]; exact (have a0 := in_u ro_32_1; have a1 := in_u ro_2_1; have a2 := in_u i1x5; have a3 := in_u i8x2x1; have oc := oc_241_0; by omega))
          exact (hX _ _ ⟨Or.inl ⟨rfl, n11⟩, s, hI, fr_rf, rfl⟩)
      · skip
        exact zn_ne c8x5 (in_c 0 rfl) rfl
    · skip
      have i8x2x1 := z_ge 0 2147483647 c8x2x1 (i_rng x1) rfl
      refine g_iload_n 5 (gd rfl) rfl rfl ?_
      refine g_aload_n 6 (gd rfl) rfl rfl ?_
      refine g_getI 9 (gd rfl) rfl rfl rfl (fun z8x2x6 e8x2x6 => ?_)
      have q8x2x6 : u_2_1 = z8x2x6 := (e_2_1).trans e8x2x6.symm
      subst q8x2x6
      refine g_cmp_ge 12 16 (gd rfl) rfl rfl (fun c8x2x9 => ?_) (fun c8x2x9 => ?_)
      · skip
        refine g_iconst 0 17 (gd rfl) rfl rfl ?_
        refine g_ireturn (gd rfl) rfl (nb01 (in_w 0 1 (in_c 0 rfl) rfl)) (hp8x2 _ _ ?_)
        show GG _ _ _ _ _ _ _ _ [.int (Int32.ofInt 0)] _ _ _
        refine g_if_eq 8 25 (gd rfl) rfl rfl (fun c8x5 => ?_) (fun c8x5 => ?_)
        · skip
          refine g_iconst 0 26 (gd rfl) rfl rfl ?_
          refine g_ireturn (gd rfl) rfl (nb01 (in_w 0 1 (in_c 0 rfl) rfl)) (hp8 _ _ ?_)
          show GG _ _ _ _ _ _ _ _ [.int (Int32.ofInt 0)] _ _ _
          refine g_thr (E := am_IA) (y := yX11_allow) 14 (gd rfl) rfl rfl (Or.inl ⟨rfl, rfl, rfl⟩) (by first | exact dq1 hd rfl | exact dq0 hd rfl | exact dq2 hd rfl | exact dq3 hd rfl | omega) (Nat.le_of_ble_eq_true rfl) (Nat.le_of_ble_eq_true rfl) (Nat.le_of_ble_eq_true rfl) (fun c11 => ?_) (fun c11 => ?_)
          · skip
            exact zn_ne c11 (in_c 0 rfl) rfl
          · skip
            have n11 : ¬ (TWO (shC s).2.2.2.2.2.2.1 x1 x2) := by first | (rw [shC_n (by rw [← e1x1]; exact c1x5)]; show ¬ TWO (s.2.2.1 2 1).toInt x1 x2; rw [← e_2_1]; exact (have a0 := in_u ro_32_1; have a1 := in_u ro_2_1; have a2 := in_u i1x5; have a3 := in_u i8x2x1; have oc := oc_241_0; by omega)) | (rw [shC_d (by rw [← e1x1]; exact c1x5)]; show ¬ TWO (s.2.2.1 32 1).toInt x1 x2; rw [← e_32_1]; exact (have a0 := in_u ro_32_1; have a1 := in_u ro_2_1; have a2 := in_u i1x5; have a3 := in_u i8x2x1; have oc := oc_241_0; by omega))
            exact (hX _ _ ⟨Or.inl ⟨rfl, n11⟩, s, hI, fr_rf, rfl⟩)
        · skip
          exact zn_ne c8x5 (in_c 0 rfl) rfl
      · skip
        have i8x2x9 := r_lt1 0 31 c8x2x9 i8x2x1 ro_2_1 rfl
        have i8x2x9a := r_lt2 1 32 c8x2x9 i8x2x1 ro_2_1 rfl
        refine g_iconst 1 13 (gd rfl) rfl rfl ?_
        refine g_goto 17 (gd rfl) rfl ?_
        refine g_ireturn (gd rfl) rfl (nb01 (in_w 0 1 (in_c 1 rfl) rfl)) (hp8x2 _ _ ?_)
        show GG _ _ _ _ _ _ _ _ [.int (Int32.ofInt 1)] _ _ _
        refine g_if_eq 8 25 (gd rfl) rfl rfl (fun c8x5 => ?_) (fun c8x5 => ?_)
        · skip
          exact zn_eq c8x5 (in_c 1 rfl) rfl
        · skip
          refine g_aload_n 9 (gd rfl) rfl rfl ?_
          refine g_iload_n 10 (gd rfl) rfl rfl ?_
          refine g_callv (X := _) (As := [.int x2]) (r := []) (b := A 2) (q := 2) 13 (gd rfl) rfl rfl rfl rfl rfl (ww_o rfl) (Nat.le_of_ble_eq_true rfl) (mc := 0) (ms := 0) (Nat.zero_le _) (Nat.zero_le _) (P := fun v u => _) ?_ (fun e u h => h) (fun v u h => h)
          intro po8x10 xx8x10 hp8x10 hx8x10
          refine g_enter2 (k := 94) (N := 300) (by first | exact dq1 hd rfl | exact dq0 hd rfl | exact dq2 hd rfl | exact dq3 hd rfl | omega) rfl (Nat.le_of_ble_eq_true rfl) ?_
          refine g_iload_n 1 (gd rfl) rfl rfl ?_
          refine g_if_lt 4 16 (gd rfl) rfl rfl (fun c8x10x1 => ?_) (fun c8x10x1 => ?_)
          · skip
            have i8x10x1 := z_lt (-2147483648) (-1) c8x10x1 (i_rng x2) rfl
            refine g_iconst 0 17 (gd rfl) rfl rfl ?_
            refine g_ireturn (gd rfl) rfl (nb01 (in_w 0 1 (in_c 0 rfl) rfl)) (hp8x10 _ _ ?_)
            show GG _ _ _ _ _ _ _ _ [.int (Int32.ofInt 0)] _ _ _
            refine g_if_eq 16 25 (gd rfl) rfl rfl (fun c8x13 => ?_) (fun c8x13 => ?_)
            · skip
              refine g_iconst 0 26 (gd rfl) rfl rfl ?_
              refine g_ireturn (gd rfl) rfl (nb01 (in_w 0 1 (in_c 0 rfl) rfl)) (hp8 _ _ ?_)
              show GG _ _ _ _ _ _ _ _ [.int (Int32.ofInt 0)] _ _ _
              refine g_thr (E := am_IA) (y := yX11_allow) 14 (gd rfl) rfl rfl (Or.inl ⟨rfl, rfl, rfl⟩) (by first | exact dq1 hd rfl | exact dq0 hd rfl | exact dq2 hd rfl | exact dq3 hd rfl | omega) (Nat.le_of_ble_eq_true rfl) (Nat.le_of_ble_eq_true rfl) (Nat.le_of_ble_eq_true rfl) (fun c11 => ?_) (fun c11 => ?_)
              · skip
                exact zn_ne c11 (in_c 0 rfl) rfl
              · skip
                have n11 : ¬ (TWO (shC s).2.2.2.2.2.2.1 x1 x2) := by first | (rw [shC_n (by rw [← e1x1]; exact c1x5)]; show ¬ TWO (s.2.2.1 2 1).toInt x1 x2; rw [← e_2_1]; exact (have a0 := in_u i8x2x9; have a1 := in_u ro_32_1; have a2 := in_u i8x2x9a; have a3 := in_u i1x5; have a4 := in_u i8x10x1; have oc := oc_241_0; by omega)) | (rw [shC_d (by rw [← e1x1]; exact c1x5)]; show ¬ TWO (s.2.2.1 32 1).toInt x1 x2; rw [← e_32_1]; exact (have a0 := in_u i8x2x9; have a1 := in_u ro_32_1; have a2 := in_u i8x2x9a; have a3 := in_u i1x5; have a4 := in_u i8x10x1; have oc := oc_241_0; by omega))
                exact (hX _ _ ⟨Or.inl ⟨rfl, n11⟩, s, hI, fr_rf, rfl⟩)
            · skip
              exact zn_ne c8x13 (in_c 0 rfl) rfl
          · skip
            have i8x10x1 := z_ge 0 2147483647 c8x10x1 (i_rng x2) rfl
            refine g_iload_n 5 (gd rfl) rfl rfl ?_
            refine g_aload_n 6 (gd rfl) rfl rfl ?_
            refine g_getI 9 (gd rfl) rfl rfl rfl (fun z8x10x6 e8x10x6 => ?_)
            have q8x10x6 : u_2_1 = z8x10x6 := (e_2_1).trans e8x10x6.symm
            subst q8x10x6
            refine g_cmp_ge 12 16 (gd rfl) rfl rfl (fun c8x10x9 => ?_) (fun c8x10x9 => ?_)
            · skip
              have i8x10x9 := r_le2 1 2147483647 c8x10x9 i8x2x9a i8x10x1 rfl
              refine g_iconst 0 17 (gd rfl) rfl rfl ?_
              refine g_ireturn (gd rfl) rfl (nb01 (in_w 0 1 (in_c 0 rfl) rfl)) (hp8x10 _ _ ?_)
              show GG _ _ _ _ _ _ _ _ [.int (Int32.ofInt 0)] _ _ _
              refine g_if_eq 16 25 (gd rfl) rfl rfl (fun c8x13 => ?_) (fun c8x13 => ?_)
              · skip
                refine g_iconst 0 26 (gd rfl) rfl rfl ?_
                refine g_ireturn (gd rfl) rfl (nb01 (in_w 0 1 (in_c 0 rfl) rfl)) (hp8 _ _ ?_)
                show GG _ _ _ _ _ _ _ _ [.int (Int32.ofInt 0)] _ _ _
                refine g_thr (E := am_IA) (y := yX11_allow) 14 (gd rfl) rfl rfl (Or.inl ⟨rfl, rfl, rfl⟩) (by first | exact dq1 hd rfl | exact dq0 hd rfl | exact dq2 hd rfl | exact dq3 hd rfl | omega) (Nat.le_of_ble_eq_true rfl) (Nat.le_of_ble_eq_true rfl) (Nat.le_of_ble_eq_true rfl) (fun c11 => ?_) (fun c11 => ?_)
                · skip
                  exact zn_ne c11 (in_c 0 rfl) rfl
                · skip
                  have n11 : ¬ (TWO (shC s).2.2.2.2.2.2.1 x1 x2) := by first | (rw [shC_n (by rw [← e1x1]; exact c1x5)]; show ¬ TWO (s.2.2.1 2 1).toInt x1 x2; rw [← e_2_1]; exact (have a0 := in_u i8x2x9; have a1 := in_u ro_32_1; have a2 := in_u i8x2x9a; have a3 := in_u i1x5; have a4 := in_u i8x10x9; have oc := oc_241_0; by omega)) | (rw [shC_d (by rw [← e1x1]; exact c1x5)]; show ¬ TWO (s.2.2.1 32 1).toInt x1 x2; rw [← e_32_1]; exact (have a0 := in_u i8x2x9; have a1 := in_u ro_32_1; have a2 := in_u i8x2x9a; have a3 := in_u i1x5; have a4 := in_u i8x10x9; have oc := oc_241_0; by omega))
                  exact (hX _ _ ⟨Or.inl ⟨rfl, n11⟩, s, hI, fr_rf, rfl⟩)
              · skip
                exact zn_ne c8x13 (in_c 0 rfl) rfl
            · skip
              have i8x10x9 := r_lt1 0 31 c8x10x9 i8x10x1 i8x2x9a rfl
              refine g_iconst 1 13 (gd rfl) rfl rfl ?_
              refine g_goto 17 (gd rfl) rfl ?_
              refine g_ireturn (gd rfl) rfl (nb01 (in_w 0 1 (in_c 1 rfl) rfl)) (hp8x10 _ _ ?_)
              show GG _ _ _ _ _ _ _ _ [.int (Int32.ofInt 1)] _ _ _
              refine g_if_eq 16 25 (gd rfl) rfl rfl (fun c8x13 => ?_) (fun c8x13 => ?_)
              · skip
                exact zn_eq c8x13 (in_c 1 rfl) rfl
              · skip
                refine g_iload_n 17 (gd rfl) rfl rfl ?_
                refine g_iload_n 18 (gd rfl) rfl rfl ?_
                refine g_cmp_eq 21 25 (gd rfl) rfl rfl (fun c8x18 => ?_) (fun c8x18 => ?_)
                · skip
                  refine g_iconst 0 26 (gd rfl) rfl rfl ?_
                  refine g_ireturn (gd rfl) rfl (nb01 (in_w 0 1 (in_c 0 rfl) rfl)) (hp8 _ _ ?_)
                  show GG _ _ _ _ _ _ _ _ [.int (Int32.ofInt 0)] _ _ _
                  refine g_thr (E := am_IA) (y := yX11_allow) 14 (gd rfl) rfl rfl (Or.inl ⟨rfl, rfl, rfl⟩) (by first | exact dq1 hd rfl | exact dq0 hd rfl | exact dq2 hd rfl | exact dq3 hd rfl | omega) (Nat.le_of_ble_eq_true rfl) (Nat.le_of_ble_eq_true rfl) (Nat.le_of_ble_eq_true rfl) (fun c11 => ?_) (fun c11 => ?_)
                  · skip
                    exact zn_ne c11 (in_c 0 rfl) rfl
                  · skip
                    have n11 : ¬ (TWO (shC s).2.2.2.2.2.2.1 x1 x2) := by first | (rw [shC_n (by rw [← e1x1]; exact c1x5)]; show ¬ TWO (s.2.2.1 2 1).toInt x1 x2; rw [← e_2_1]; exact (have a0 := in_u i8x10x9; have a1 := in_u i8x2x9; have a2 := in_u ro_32_1; have a3 := in_u i8x2x9a; have a4 := in_u i1x5; have oc := oc_241_0; by omega)) | (rw [shC_d (by rw [← e1x1]; exact c1x5)]; show ¬ TWO (s.2.2.1 32 1).toInt x1 x2; rw [← e_32_1]; exact (have a0 := in_u i8x10x9; have a1 := in_u i8x2x9; have a2 := in_u ro_32_1; have a3 := in_u i8x2x9a; have a4 := in_u i1x5; have oc := oc_241_0; by omega))
                    exact (hX _ _ ⟨Or.inl ⟨rfl, n11⟩, s, hI, fr_rf, rfl⟩)
                · skip
                  refine g_iconst 1 22 (gd rfl) rfl rfl ?_
                  refine g_goto 26 (gd rfl) rfl ?_
                  refine g_ireturn (gd rfl) rfl (nb01 (in_w 0 1 (in_c 1 rfl) rfl)) (hp8 _ _ ?_)
                  show GG _ _ _ _ _ _ _ _ [.int (Int32.ofInt 1)] _ _ _
                  refine g_thr (E := am_IA) (y := yX11_allow) 14 (gd rfl) rfl rfl (Or.inl ⟨rfl, rfl, rfl⟩) (by first | exact dq1 hd rfl | exact dq0 hd rfl | exact dq2 hd rfl | exact dq3 hd rfl | omega) (Nat.le_of_ble_eq_true rfl) (Nat.le_of_ble_eq_true rfl) (Nat.le_of_ble_eq_true rfl) (fun c11 => ?_) (fun c11 => ?_)
                  · skip
                    refine g_aload_n 15 (gd rfl) rfl rfl ?_
                    refine g_getA (q2 := 65) 18 (gd rfl) rfl rfl rfl rfl ?_
                    refine g_aload_n 19 (gd rfl) rfl rfl ?_
                    refine g_iload_n 20 (gd rfl) rfl rfl ?_
                    refine g_iload_n 21 (gd rfl) rfl rfl ?_
                    have p21 : TQ s := by first | exact q_0 | exact q_1
                    have p21a : FLB (gvC s) s := by first | (rw [← shC_n (by rw [← e1x1]; exact c1x5)]; exact q_2) | (rw [← shC_d (by rw [← e1x1]; exact c1x5)]; exact q_2)
                    have p21b : (x1).toInt ≠ (x2).toInt := by exact (have a0 := in_u i8x10x9; have a1 := in_u i8x2x9; have a2 := in_u ro_32_1; have a3 := in_u i8x2x9a; have a4 := in_u i1x5; have oc := oc_241_0; by omega)
                    refine g_callv (X := _) (As := [.ref (A 2), .int x1, .int x2]) (r := []) (b := A 65) (q := 65) 24 (gd rfl) rfl rfl rfl rfl rfl (ww_o rfl) (Nat.le_of_ble_eq_true rfl) (Nat.zero_le _) (Nat.zero_le _) (f_75_65_2 (by first | exact dq1 hd rfl | exact dq0 hd rfl | exact dq2 hd rfl | exact dq3 hd rfl | omega) hI (in_w 0 31 i8x2x9 rfl) (in_w 0 31 i8x10x9 rfl) p21 p21a p21b) (fun e u h => h) (fun v u h => ?_)
                    obtain ⟨s21, hI21, hF21, z21, rfl, rfl, p21c, p21d⟩ := h
                    show GG _ _ _ _ _ _ _ _ [.long z21] _ _ _
                    have n24 : (TWO (shC s).2.2.2.2.2.2.1 x1 x2) ∧ FLV (shC s) x1.toNatClampNeg x2.toNatClampNeg (z21).toInt := by first | (rw [shC_n (by rw [← e1x1]; exact c1x5)]; exact ⟨⟨⟨by exact (have a0 := in_u i8x10x9; have a1 := in_u i8x2x9; have a2 := in_u ro_32_1; have a3 := in_u i8x2x9a; have a4 := in_u i1x5; have oc := oc_241_0; by omega), by show x1.toInt < (s.2.2.1 2 1).toInt; rw [← e_2_1]; exact (have a0 := in_u i8x10x9; have a1 := in_u i8x2x9; have a2 := in_u ro_32_1; have a3 := in_u i8x2x9a; have a4 := in_u i1x5; have oc := oc_241_0; by omega)⟩, ⟨by exact (have a0 := in_u i8x10x9; have a1 := in_u i8x2x9; have a2 := in_u ro_32_1; have a3 := in_u i8x2x9a; have a4 := in_u i1x5; have oc := oc_241_0; by omega), by show x2.toInt < (s.2.2.1 2 1).toInt; rw [← e_2_1]; exact (have a0 := in_u i8x10x9; have a1 := in_u i8x2x9; have a2 := in_u ro_32_1; have a3 := in_u i8x2x9a; have a4 := in_u i1x5; have oc := oc_241_0; by omega)⟩, by exact (have a0 := in_u i8x10x9; have a1 := in_u i8x2x9; have a2 := in_u ro_32_1; have a3 := in_u i8x2x9a; have a4 := in_u i1x5; have oc := oc_241_0; by omega)⟩, flv_of p21c p21d⟩) | (rw [shC_d (by rw [← e1x1]; exact c1x5)]; exact ⟨⟨⟨by exact (have a0 := in_u i8x10x9; have a1 := in_u i8x2x9; have a2 := in_u ro_32_1; have a3 := in_u i8x2x9a; have a4 := in_u i1x5; have oc := oc_241_0; by omega), by show x1.toInt < (s.2.2.1 32 1).toInt; rw [← e_32_1]; exact (have a0 := in_u i8x10x9; have a1 := in_u i8x2x9; have a2 := in_u ro_32_1; have a3 := in_u i8x2x9a; have a4 := in_u i1x5; have oc := oc_241_0; by omega)⟩, ⟨by exact (have a0 := in_u i8x10x9; have a1 := in_u i8x2x9; have a2 := in_u ro_32_1; have a3 := in_u i8x2x9a; have a4 := in_u i1x5; have oc := oc_241_0; by omega), by show x2.toInt < (s.2.2.1 32 1).toInt; rw [← e_32_1]; exact (have a0 := in_u i8x10x9; have a1 := in_u i8x2x9; have a2 := in_u ro_32_1; have a3 := in_u i8x2x9a; have a4 := in_u i1x5; have oc := oc_241_0; by omega)⟩, by exact (have a0 := in_u i8x10x9; have a1 := in_u i8x2x9; have a2 := in_u ro_32_1; have a3 := in_u i8x2x9a; have a4 := in_u i1x5; have oc := oc_241_0; by omega)⟩, flv_of p21c p21d⟩)
                    have n24a : FLQ (shC s) s21 := by first | (rw [shC_n (by rw [← e1x1]; exact c1x5)]; exact p21c.1) | (rw [shC_d (by rw [← e1x1]; exact c1x5)]; exact p21c.1)
                    exact g_lreturn (gd rfl) rfl (hP _ _ ⟨s21, hI21, (fr_tr rfl fr_rf hF21), z21, rfl, rfl, n24, n24a⟩)
                  · skip
                    exact zn_eq c11 (in_c 1 rfl) rfl

theorem oc_242_0 : (Int32.ofInt (-1)).toInt = (-1) ∧ (Int32.ofInt 0).toInt = 0 ∧ (Int32.ofInt 1).toInt = 1 := ⟨rfl, rfl, rfl⟩
/-- GraphHouse.side -/
theorem f_242_0 {Z : AmZ} {A : Nat → Nat} {s : GS} {ex : va_W} {d : Nat} {x1 : Int32} {x2 : Int32} {x3 : Int32} (hd : 7 ≤ d) (hI : Inv s) (q_0 : TQ s) (q_1 : TQD s) (q_2 : FLC s) : GC Z d 242 [.ref (A 0), .int x1, .int x2, .int x3] (WW Z A s ++ ex) 3 18 (fun v u => ∃ t : GS, Inv t ∧ Fr fm_242_0 s t ∧ ∃ z : Int32, v = some (.int z) ∧ u = WW Z A t ++ ex ∧ In z 0 1 ∧ (((TWO (shC s).2.2.2.2.2.2.1 x1 x2) ∧ 0 ≤ x3.toInt ∧ x3.toInt < (shC s).2.2.2.2.2.2.1) ∧ SDV (shC s) x1.toNatClampNeg x2.toNatClampNeg x3.toNatClampNeg (z).toInt) ∧ (FLQ (shC s) t)) (gEx Z A ex ([], [], [], []) s (¬ ((TWO (shC s).2.2.2.2.2.2.1 x1 x2) ∧ 0 ≤ x3.toInt ∧ x3.toInt < (shC s).2.2.2.2.2.2.1)) (False)) := by
  intro post xp hP hX
  obtain ⟨u_0_2, e_0_2⟩ : ∃ w, w = s.2.2.1 0 2 := ⟨_, rfl⟩
  have ro_0_2 := inv_F hI (-1) 4000 rfl e_0_2
  obtain ⟨u_2_1, e_2_1⟩ : ∃ w, w = s.2.2.1 2 1 := ⟨_, rfl⟩
  have ro_2_1 := inv_F hI 0 32 rfl e_2_1
  obtain ⟨u_32_1, e_32_1⟩ : ∃ w, w = s.2.2.1 32 1 := ⟨_, rfl⟩
  have ro_32_1 := inv_F hI 0 32 rfl e_32_1
  refine g_enter2 (k := 242) (N := 900) (by first | exact dq1 hd rfl | exact dq0 hd rfl | exact dq2 hd rfl | exact dq3 hd rfl | omega) rfl (Nat.le_of_ble_eq_true rfl) ?_
  refine g_aload_n 1 (gd rfl) rfl rfl ?_
  refine g_callv (X := _) (As := []) (r := []) (b := A 0) (q := 0) 4 (gd rfl) rfl rfl rfl rfl rfl (ww_o rfl) (Nat.le_of_ble_eq_true rfl) (mc := 0) (ms := 0) (Nat.zero_le _) (Nat.zero_le _) (P := fun v u => _) ?_ (fun e u h => h) (fun v u h => h)
  intro po1 xx1 hp1 hx1
  refine g_enter2 (k := 259) (N := 300) (by first | exact dq1 hd rfl | exact dq0 hd rfl | exact dq2 hd rfl | exact dq3 hd rfl | omega) rfl (Nat.le_of_ble_eq_true rfl) ?_
  refine g_aload_n 1 (gd rfl) rfl rfl ?_
  refine g_getI 4 (gd rfl) rfl rfl rfl (fun z1x1 e1x1 => ?_)
  have q1x1 : u_0_2 = z1x1 := (e_0_2).trans e1x1.symm
  subst q1x1
  refine g_iconst (-1) 5 (gd rfl) rfl rfl ?_
  refine g_cmp_ne 8 18 (gd rfl) rfl rfl (fun c1x5 => ?_) (fun c1x5 => ?_)
  · skip
    have i1x5 := r_ne1 0 4000 c1x5 ro_0_2 (in_c (-1) rfl) rfl
    refine g_aload_n 19 (gd rfl) rfl rfl ?_
    refine g_getA (q2 := 32) 22 (gd rfl) rfl rfl rfl rfl ?_
    refine g_areturn (gd rfl) rfl (hp1 _ _ ?_)
    show GG _ _ _ _ _ _ _ _ [.ref (A 32)] _ _ _
    refine g_astore 6 (gd rfl) rfl (Nat.le_of_ble_eq_true rfl) ?_
    refine g_aload 8 (gd rfl) rfl rfl ?_
    refine g_iload_n 9 (gd rfl) rfl rfl ?_
    refine g_iload_n 10 (gd rfl) rfl rfl ?_
    refine g_callv (X := _) (As := [.int x1, .int x2]) (r := []) (b := A 32) (q := 32) 13 (gd rfl) rfl rfl rfl rfl rfl (ww_o rfl) (Nat.le_of_ble_eq_true rfl) (mc := 0) (ms := 0) (Nat.zero_le _) (Nat.zero_le _) (P := fun v u => _) ?_ (fun e u h => h) (fun v u h => h)
    intro po10 xx10 hp10 hx10
    refine g_enter2 (k := 95) (N := 300) (by first | exact dq1 hd rfl | exact dq0 hd rfl | exact dq2 hd rfl | exact dq3 hd rfl | omega) rfl (Nat.le_of_ble_eq_true rfl) ?_
    refine g_aload_n 1 (gd rfl) rfl rfl ?_
    refine g_iload_n 2 (gd rfl) rfl rfl ?_
    refine g_callv (X := _) (As := [.int x1]) (r := []) (b := A 32) (q := 32) 5 (gd rfl) rfl rfl rfl rfl rfl (ww_o rfl) (Nat.le_of_ble_eq_true rfl) (mc := 0) (ms := 0) (Nat.zero_le _) (Nat.zero_le _) (P := fun v u => _) ?_ (fun e u h => h) (fun v u h => h)
    intro po10x2 xx10x2 hp10x2 hx10x2
    refine g_enter2 (k := 94) (N := 300) (by first | exact dq1 hd rfl | exact dq0 hd rfl | exact dq2 hd rfl | exact dq3 hd rfl | omega) rfl (Nat.le_of_ble_eq_true rfl) ?_
    refine g_iload_n 1 (gd rfl) rfl rfl ?_
    refine g_if_lt 4 16 (gd rfl) rfl rfl (fun c10x2x1 => ?_) (fun c10x2x1 => ?_)
    · skip
      have i10x2x1 := z_lt (-2147483648) (-1) c10x2x1 (i_rng x1) rfl
      refine g_iconst 0 17 (gd rfl) rfl rfl ?_
      refine g_ireturn (gd rfl) rfl (nb01 (in_w 0 1 (in_c 0 rfl) rfl)) (hp10x2 _ _ ?_)
      show GG _ _ _ _ _ _ _ _ [.int (Int32.ofInt 0)] _ _ _
      refine g_if_eq 8 25 (gd rfl) rfl rfl (fun c10x5 => ?_) (fun c10x5 => ?_)
      · skip
        refine g_iconst 0 26 (gd rfl) rfl rfl ?_
        refine g_ireturn (gd rfl) rfl (nb01 (in_w 0 1 (in_c 0 rfl) rfl)) (hp10 _ _ ?_)
        show GG _ _ _ _ _ _ _ _ [.int (Int32.ofInt 0)] _ _ _
        refine g_if_eq 16 29 (gd rfl) rfl rfl (fun c13 => ?_) (fun c13 => ?_)
        · skip
          refine g_iconst 0 30 (gd rfl) rfl rfl ?_
          refine g_thr (E := am_IA) (y := yX11_allow) 33 (gd rfl) rfl rfl (Or.inl ⟨rfl, rfl, rfl⟩) (by first | exact dq1 hd rfl | exact dq0 hd rfl | exact dq2 hd rfl | exact dq3 hd rfl | omega) (Nat.le_of_ble_eq_true rfl) (Nat.le_of_ble_eq_true rfl) (Nat.le_of_ble_eq_true rfl) (fun c30 => ?_) (fun c30 => ?_)
          · skip
            exact zn_ne c30 (in_c 0 rfl) rfl
          · skip
            have n30 : ¬ ((TWO (shC s).2.2.2.2.2.2.1 x1 x2) ∧ 0 ≤ x3.toInt ∧ x3.toInt < (shC s).2.2.2.2.2.2.1) := by first | (rw [shC_n (by rw [← e1x1]; exact c1x5)]; show ¬ (TWO (s.2.2.1 2 1).toInt x1 x2 ∧ 0 ≤ x3.toInt ∧ x3.toInt < (s.2.2.1 2 1).toInt); rw [← e_2_1]; exact (have a0 := in_u ro_32_1; have a1 := in_u ro_2_1; have a2 := in_u i1x5; have a3 := in_u i10x2x1; have oc := oc_242_0; by omega)) | (rw [shC_d (by rw [← e1x1]; exact c1x5)]; show ¬ (TWO (s.2.2.1 32 1).toInt x1 x2 ∧ 0 ≤ x3.toInt ∧ x3.toInt < (s.2.2.1 32 1).toInt); rw [← e_32_1]; exact (have a0 := in_u ro_32_1; have a1 := in_u ro_2_1; have a2 := in_u i1x5; have a3 := in_u i10x2x1; have oc := oc_242_0; by omega))
            exact (hX _ _ ⟨Or.inl ⟨rfl, n30⟩, s, hI, fr_rf, rfl⟩)
        · skip
          exact zn_ne c13 (in_c 0 rfl) rfl
      · skip
        exact zn_ne c10x5 (in_c 0 rfl) rfl
    · skip
      have i10x2x1 := z_ge 0 2147483647 c10x2x1 (i_rng x1) rfl
      refine g_iload_n 5 (gd rfl) rfl rfl ?_
      refine g_aload_n 6 (gd rfl) rfl rfl ?_
      refine g_getI 9 (gd rfl) rfl rfl rfl (fun z10x2x6 e10x2x6 => ?_)
      have q10x2x6 : u_32_1 = z10x2x6 := (e_32_1).trans e10x2x6.symm
      subst q10x2x6
      refine g_cmp_ge 12 16 (gd rfl) rfl rfl (fun c10x2x9 => ?_) (fun c10x2x9 => ?_)
      · skip
        refine g_iconst 0 17 (gd rfl) rfl rfl ?_
        refine g_ireturn (gd rfl) rfl (nb01 (in_w 0 1 (in_c 0 rfl) rfl)) (hp10x2 _ _ ?_)
        show GG _ _ _ _ _ _ _ _ [.int (Int32.ofInt 0)] _ _ _
        refine g_if_eq 8 25 (gd rfl) rfl rfl (fun c10x5 => ?_) (fun c10x5 => ?_)
        · skip
          refine g_iconst 0 26 (gd rfl) rfl rfl ?_
          refine g_ireturn (gd rfl) rfl (nb01 (in_w 0 1 (in_c 0 rfl) rfl)) (hp10 _ _ ?_)
          show GG _ _ _ _ _ _ _ _ [.int (Int32.ofInt 0)] _ _ _
          refine g_if_eq 16 29 (gd rfl) rfl rfl (fun c13 => ?_) (fun c13 => ?_)
          · skip
            refine g_iconst 0 30 (gd rfl) rfl rfl ?_
            refine g_thr (E := am_IA) (y := yX11_allow) 33 (gd rfl) rfl rfl (Or.inl ⟨rfl, rfl, rfl⟩) (by first | exact dq1 hd rfl | exact dq0 hd rfl | exact dq2 hd rfl | exact dq3 hd rfl | omega) (Nat.le_of_ble_eq_true rfl) (Nat.le_of_ble_eq_true rfl) (Nat.le_of_ble_eq_true rfl) (fun c30 => ?_) (fun c30 => ?_)
            · skip
              exact zn_ne c30 (in_c 0 rfl) rfl
            · skip
              have n30 : ¬ ((TWO (shC s).2.2.2.2.2.2.1 x1 x2) ∧ 0 ≤ x3.toInt ∧ x3.toInt < (shC s).2.2.2.2.2.2.1) := by first | (rw [shC_n (by rw [← e1x1]; exact c1x5)]; show ¬ (TWO (s.2.2.1 2 1).toInt x1 x2 ∧ 0 ≤ x3.toInt ∧ x3.toInt < (s.2.2.1 2 1).toInt); rw [← e_2_1]; exact (have a0 := in_u ro_32_1; have a1 := in_u ro_2_1; have a2 := in_u i1x5; have a3 := in_u i10x2x1; have oc := oc_242_0; by omega)) | (rw [shC_d (by rw [← e1x1]; exact c1x5)]; show ¬ (TWO (s.2.2.1 32 1).toInt x1 x2 ∧ 0 ≤ x3.toInt ∧ x3.toInt < (s.2.2.1 32 1).toInt); rw [← e_32_1]; exact (have a0 := in_u ro_32_1; have a1 := in_u ro_2_1; have a2 := in_u i1x5; have a3 := in_u i10x2x1; have oc := oc_242_0; by omega))
              exact (hX _ _ ⟨Or.inl ⟨rfl, n30⟩, s, hI, fr_rf, rfl⟩)
          · skip
            exact zn_ne c13 (in_c 0 rfl) rfl
        · skip
          exact zn_ne c10x5 (in_c 0 rfl) rfl
      · skip
        have i10x2x9 := r_lt1 0 31 c10x2x9 i10x2x1 ro_32_1 rfl
        have i10x2x9a := r_lt2 1 32 c10x2x9 i10x2x1 ro_32_1 rfl
        refine g_iconst 1 13 (gd rfl) rfl rfl ?_
        refine g_goto 17 (gd rfl) rfl ?_
        refine g_ireturn (gd rfl) rfl (nb01 (in_w 0 1 (in_c 1 rfl) rfl)) (hp10x2 _ _ ?_)
        show GG _ _ _ _ _ _ _ _ [.int (Int32.ofInt 1)] _ _ _
        refine g_if_eq 8 25 (gd rfl) rfl rfl (fun c10x5 => ?_) (fun c10x5 => ?_)
        · skip
          exact zn_eq c10x5 (in_c 1 rfl) rfl
        · skip
          refine g_aload_n 9 (gd rfl) rfl rfl ?_
          refine g_iload_n 10 (gd rfl) rfl rfl ?_
          refine g_callv (X := _) (As := [.int x2]) (r := []) (b := A 32) (q := 32) 13 (gd rfl) rfl rfl rfl rfl rfl (ww_o rfl) (Nat.le_of_ble_eq_true rfl) (mc := 0) (ms := 0) (Nat.zero_le _) (Nat.zero_le _) (P := fun v u => _) ?_ (fun e u h => h) (fun v u h => h)
          intro po10x10 xx10x10 hp10x10 hx10x10
          refine g_enter2 (k := 94) (N := 300) (by first | exact dq1 hd rfl | exact dq0 hd rfl | exact dq2 hd rfl | exact dq3 hd rfl | omega) rfl (Nat.le_of_ble_eq_true rfl) ?_
          refine g_iload_n 1 (gd rfl) rfl rfl ?_
          refine g_if_lt 4 16 (gd rfl) rfl rfl (fun c10x10x1 => ?_) (fun c10x10x1 => ?_)
          · skip
            have i10x10x1 := z_lt (-2147483648) (-1) c10x10x1 (i_rng x2) rfl
            refine g_iconst 0 17 (gd rfl) rfl rfl ?_
            refine g_ireturn (gd rfl) rfl (nb01 (in_w 0 1 (in_c 0 rfl) rfl)) (hp10x10 _ _ ?_)
            show GG _ _ _ _ _ _ _ _ [.int (Int32.ofInt 0)] _ _ _
            refine g_if_eq 16 25 (gd rfl) rfl rfl (fun c10x13 => ?_) (fun c10x13 => ?_)
            · skip
              refine g_iconst 0 26 (gd rfl) rfl rfl ?_
              refine g_ireturn (gd rfl) rfl (nb01 (in_w 0 1 (in_c 0 rfl) rfl)) (hp10 _ _ ?_)
              show GG _ _ _ _ _ _ _ _ [.int (Int32.ofInt 0)] _ _ _
              refine g_if_eq 16 29 (gd rfl) rfl rfl (fun c13 => ?_) (fun c13 => ?_)
              · skip
                refine g_iconst 0 30 (gd rfl) rfl rfl ?_
                refine g_thr (E := am_IA) (y := yX11_allow) 33 (gd rfl) rfl rfl (Or.inl ⟨rfl, rfl, rfl⟩) (by first | exact dq1 hd rfl | exact dq0 hd rfl | exact dq2 hd rfl | exact dq3 hd rfl | omega) (Nat.le_of_ble_eq_true rfl) (Nat.le_of_ble_eq_true rfl) (Nat.le_of_ble_eq_true rfl) (fun c30 => ?_) (fun c30 => ?_)
                · skip
                  exact zn_ne c30 (in_c 0 rfl) rfl
                · skip
                  have n30 : ¬ ((TWO (shC s).2.2.2.2.2.2.1 x1 x2) ∧ 0 ≤ x3.toInt ∧ x3.toInt < (shC s).2.2.2.2.2.2.1) := by first | (rw [shC_n (by rw [← e1x1]; exact c1x5)]; show ¬ (TWO (s.2.2.1 2 1).toInt x1 x2 ∧ 0 ≤ x3.toInt ∧ x3.toInt < (s.2.2.1 2 1).toInt); rw [← e_2_1]; exact (have a0 := in_u i10x2x9; have a1 := in_u i10x2x9a; have a2 := in_u ro_2_1; have a3 := in_u i1x5; have a4 := in_u i10x10x1; have oc := oc_242_0; by omega)) | (rw [shC_d (by rw [← e1x1]; exact c1x5)]; show ¬ (TWO (s.2.2.1 32 1).toInt x1 x2 ∧ 0 ≤ x3.toInt ∧ x3.toInt < (s.2.2.1 32 1).toInt); rw [← e_32_1]; exact (have a0 := in_u i10x2x9; have a1 := in_u i10x2x9a; have a2 := in_u ro_2_1; have a3 := in_u i1x5; have a4 := in_u i10x10x1; have oc := oc_242_0; by omega))
                  exact (hX _ _ ⟨Or.inl ⟨rfl, n30⟩, s, hI, fr_rf, rfl⟩)
              · skip
                exact zn_ne c13 (in_c 0 rfl) rfl
            · skip
              exact zn_ne c10x13 (in_c 0 rfl) rfl
          · skip
            have i10x10x1 := z_ge 0 2147483647 c10x10x1 (i_rng x2) rfl
            refine g_iload_n 5 (gd rfl) rfl rfl ?_
            refine g_aload_n 6 (gd rfl) rfl rfl ?_
            refine g_getI 9 (gd rfl) rfl rfl rfl (fun z10x10x6 e10x10x6 => ?_)
            have q10x10x6 : u_32_1 = z10x10x6 := (e_32_1).trans e10x10x6.symm
            subst q10x10x6
            refine g_cmp_ge 12 16 (gd rfl) rfl rfl (fun c10x10x9 => ?_) (fun c10x10x9 => ?_)
            · skip
              have i10x10x9 := r_le2 1 2147483647 c10x10x9 i10x2x9a i10x10x1 rfl
              refine g_iconst 0 17 (gd rfl) rfl rfl ?_
              refine g_ireturn (gd rfl) rfl (nb01 (in_w 0 1 (in_c 0 rfl) rfl)) (hp10x10 _ _ ?_)
              show GG _ _ _ _ _ _ _ _ [.int (Int32.ofInt 0)] _ _ _
              refine g_if_eq 16 25 (gd rfl) rfl rfl (fun c10x13 => ?_) (fun c10x13 => ?_)
              · skip
                refine g_iconst 0 26 (gd rfl) rfl rfl ?_
                refine g_ireturn (gd rfl) rfl (nb01 (in_w 0 1 (in_c 0 rfl) rfl)) (hp10 _ _ ?_)
                show GG _ _ _ _ _ _ _ _ [.int (Int32.ofInt 0)] _ _ _
                refine g_if_eq 16 29 (gd rfl) rfl rfl (fun c13 => ?_) (fun c13 => ?_)
                · skip
                  refine g_iconst 0 30 (gd rfl) rfl rfl ?_
                  refine g_thr (E := am_IA) (y := yX11_allow) 33 (gd rfl) rfl rfl (Or.inl ⟨rfl, rfl, rfl⟩) (by first | exact dq1 hd rfl | exact dq0 hd rfl | exact dq2 hd rfl | exact dq3 hd rfl | omega) (Nat.le_of_ble_eq_true rfl) (Nat.le_of_ble_eq_true rfl) (Nat.le_of_ble_eq_true rfl) (fun c30 => ?_) (fun c30 => ?_)
                  · skip
                    exact zn_ne c30 (in_c 0 rfl) rfl
                  · skip
                    have n30 : ¬ ((TWO (shC s).2.2.2.2.2.2.1 x1 x2) ∧ 0 ≤ x3.toInt ∧ x3.toInt < (shC s).2.2.2.2.2.2.1) := by first | (rw [shC_n (by rw [← e1x1]; exact c1x5)]; show ¬ (TWO (s.2.2.1 2 1).toInt x1 x2 ∧ 0 ≤ x3.toInt ∧ x3.toInt < (s.2.2.1 2 1).toInt); rw [← e_2_1]; exact (have a0 := in_u i10x2x9; have a1 := in_u i10x2x9a; have a2 := in_u ro_2_1; have a3 := in_u i1x5; have a4 := in_u i10x10x9; have oc := oc_242_0; by omega)) | (rw [shC_d (by rw [← e1x1]; exact c1x5)]; show ¬ (TWO (s.2.2.1 32 1).toInt x1 x2 ∧ 0 ≤ x3.toInt ∧ x3.toInt < (s.2.2.1 32 1).toInt); rw [← e_32_1]; exact (have a0 := in_u i10x2x9; have a1 := in_u i10x2x9a; have a2 := in_u ro_2_1; have a3 := in_u i1x5; have a4 := in_u i10x10x9; have oc := oc_242_0; by omega))
                    exact (hX _ _ ⟨Or.inl ⟨rfl, n30⟩, s, hI, fr_rf, rfl⟩)
                · skip
                  exact zn_ne c13 (in_c 0 rfl) rfl
              · skip
                exact zn_ne c10x13 (in_c 0 rfl) rfl
            · skip
              have i10x10x9 := r_lt1 0 31 c10x10x9 i10x10x1 i10x2x9a rfl
              refine g_iconst 1 13 (gd rfl) rfl rfl ?_
              refine g_goto 17 (gd rfl) rfl ?_
              refine g_ireturn (gd rfl) rfl (nb01 (in_w 0 1 (in_c 1 rfl) rfl)) (hp10x10 _ _ ?_)
              show GG _ _ _ _ _ _ _ _ [.int (Int32.ofInt 1)] _ _ _
              refine g_if_eq 16 25 (gd rfl) rfl rfl (fun c10x13 => ?_) (fun c10x13 => ?_)
              · skip
                exact zn_eq c10x13 (in_c 1 rfl) rfl
              · skip
                refine g_iload_n 17 (gd rfl) rfl rfl ?_
                refine g_iload_n 18 (gd rfl) rfl rfl ?_
                refine g_cmp_eq 21 25 (gd rfl) rfl rfl (fun c10x18 => ?_) (fun c10x18 => ?_)
                · skip
                  refine g_iconst 0 26 (gd rfl) rfl rfl ?_
                  refine g_ireturn (gd rfl) rfl (nb01 (in_w 0 1 (in_c 0 rfl) rfl)) (hp10 _ _ ?_)
                  show GG _ _ _ _ _ _ _ _ [.int (Int32.ofInt 0)] _ _ _
                  refine g_if_eq 16 29 (gd rfl) rfl rfl (fun c13 => ?_) (fun c13 => ?_)
                  · skip
                    refine g_iconst 0 30 (gd rfl) rfl rfl ?_
                    refine g_thr (E := am_IA) (y := yX11_allow) 33 (gd rfl) rfl rfl (Or.inl ⟨rfl, rfl, rfl⟩) (by first | exact dq1 hd rfl | exact dq0 hd rfl | exact dq2 hd rfl | exact dq3 hd rfl | omega) (Nat.le_of_ble_eq_true rfl) (Nat.le_of_ble_eq_true rfl) (Nat.le_of_ble_eq_true rfl) (fun c30 => ?_) (fun c30 => ?_)
                    · skip
                      exact zn_ne c30 (in_c 0 rfl) rfl
                    · skip
                      have n30 : ¬ ((TWO (shC s).2.2.2.2.2.2.1 x1 x2) ∧ 0 ≤ x3.toInt ∧ x3.toInt < (shC s).2.2.2.2.2.2.1) := by first | (rw [shC_n (by rw [← e1x1]; exact c1x5)]; show ¬ (TWO (s.2.2.1 2 1).toInt x1 x2 ∧ 0 ≤ x3.toInt ∧ x3.toInt < (s.2.2.1 2 1).toInt); rw [← e_2_1]; exact (have a0 := in_u i10x10x9; have a1 := in_u i10x2x9; have a2 := in_u i10x2x9a; have a3 := in_u ro_2_1; have a4 := in_u i1x5; have oc := oc_242_0; by omega)) | (rw [shC_d (by rw [← e1x1]; exact c1x5)]; show ¬ (TWO (s.2.2.1 32 1).toInt x1 x2 ∧ 0 ≤ x3.toInt ∧ x3.toInt < (s.2.2.1 32 1).toInt); rw [← e_32_1]; exact (have a0 := in_u i10x10x9; have a1 := in_u i10x2x9; have a2 := in_u i10x2x9a; have a3 := in_u ro_2_1; have a4 := in_u i1x5; have oc := oc_242_0; by omega))
                      exact (hX _ _ ⟨Or.inl ⟨rfl, n30⟩, s, hI, fr_rf, rfl⟩)
                  · skip
                    exact zn_ne c13 (in_c 0 rfl) rfl
                · skip
                  refine g_iconst 1 22 (gd rfl) rfl rfl ?_
                  refine g_goto 26 (gd rfl) rfl ?_
                  refine g_ireturn (gd rfl) rfl (nb01 (in_w 0 1 (in_c 1 rfl) rfl)) (hp10 _ _ ?_)
                  show GG _ _ _ _ _ _ _ _ [.int (Int32.ofInt 1)] _ _ _
                  refine g_if_eq 16 29 (gd rfl) rfl rfl (fun c13 => ?_) (fun c13 => ?_)
                  · skip
                    exact zn_eq c13 (in_c 1 rfl) rfl
                  · skip
                    refine g_aload 18 (gd rfl) rfl rfl ?_
                    refine g_iload_n 19 (gd rfl) rfl rfl ?_
                    refine g_callv (X := _) (As := [.int x3]) (r := []) (b := A 32) (q := 32) 22 (gd rfl) rfl rfl rfl rfl rfl (ww_o rfl) (Nat.le_of_ble_eq_true rfl) (mc := 0) (ms := 0) (Nat.zero_le _) (Nat.zero_le _) (P := fun v u => _) ?_ (fun e u h => h) (fun v u h => h)
                    intro po19 xx19 hp19 hx19
                    refine g_enter2 (k := 94) (N := 300) (by first | exact dq1 hd rfl | exact dq0 hd rfl | exact dq2 hd rfl | exact dq3 hd rfl | omega) rfl (Nat.le_of_ble_eq_true rfl) ?_
                    refine g_iload_n 1 (gd rfl) rfl rfl ?_
                    refine g_if_lt 4 16 (gd rfl) rfl rfl (fun c19x1 => ?_) (fun c19x1 => ?_)
                    · skip
                      have i19x1 := z_lt (-2147483648) (-1) c19x1 (i_rng x3) rfl
                      refine g_iconst 0 17 (gd rfl) rfl rfl ?_
                      refine g_ireturn (gd rfl) rfl (nb01 (in_w 0 1 (in_c 0 rfl) rfl)) (hp19 _ _ ?_)
                      show GG _ _ _ _ _ _ _ _ [.int (Int32.ofInt 0)] _ _ _
                      refine g_if_eq 25 29 (gd rfl) rfl rfl (fun c22 => ?_) (fun c22 => ?_)
                      · skip
                        refine g_iconst 0 30 (gd rfl) rfl rfl ?_
                        refine g_thr (E := am_IA) (y := yX11_allow) 33 (gd rfl) rfl rfl (Or.inl ⟨rfl, rfl, rfl⟩) (by first | exact dq1 hd rfl | exact dq0 hd rfl | exact dq2 hd rfl | exact dq3 hd rfl | omega) (Nat.le_of_ble_eq_true rfl) (Nat.le_of_ble_eq_true rfl) (Nat.le_of_ble_eq_true rfl) (fun c30 => ?_) (fun c30 => ?_)
                        · skip
                          exact zn_ne c30 (in_c 0 rfl) rfl
                        · skip
                          have n30 : ¬ ((TWO (shC s).2.2.2.2.2.2.1 x1 x2) ∧ 0 ≤ x3.toInt ∧ x3.toInt < (shC s).2.2.2.2.2.2.1) := by first | (rw [shC_n (by rw [← e1x1]; exact c1x5)]; show ¬ (TWO (s.2.2.1 2 1).toInt x1 x2 ∧ 0 ≤ x3.toInt ∧ x3.toInt < (s.2.2.1 2 1).toInt); rw [← e_2_1]; exact (have a0 := in_u i10x10x9; have a1 := in_u i10x2x9; have a2 := in_u i10x2x9a; have a3 := in_u ro_2_1; have a4 := in_u i1x5; have a5 := in_u i19x1; have oc := oc_242_0; by omega)) | (rw [shC_d (by rw [← e1x1]; exact c1x5)]; show ¬ (TWO (s.2.2.1 32 1).toInt x1 x2 ∧ 0 ≤ x3.toInt ∧ x3.toInt < (s.2.2.1 32 1).toInt); rw [← e_32_1]; exact (have a0 := in_u i10x10x9; have a1 := in_u i10x2x9; have a2 := in_u i10x2x9a; have a3 := in_u ro_2_1; have a4 := in_u i1x5; have a5 := in_u i19x1; have oc := oc_242_0; by omega))
                          exact (hX _ _ ⟨Or.inl ⟨rfl, n30⟩, s, hI, fr_rf, rfl⟩)
                      · skip
                        exact zn_ne c22 (in_c 0 rfl) rfl
                    · skip
                      have i19x1 := z_ge 0 2147483647 c19x1 (i_rng x3) rfl
                      refine g_iload_n 5 (gd rfl) rfl rfl ?_
                      refine g_aload_n 6 (gd rfl) rfl rfl ?_
                      refine g_getI 9 (gd rfl) rfl rfl rfl (fun z19x6 e19x6 => ?_)
                      have q19x6 : u_32_1 = z19x6 := (e_32_1).trans e19x6.symm
                      subst q19x6
                      refine g_cmp_ge 12 16 (gd rfl) rfl rfl (fun c19x9 => ?_) (fun c19x9 => ?_)
                      · skip
                        have i19x9 := r_le2 1 2147483647 c19x9 i10x2x9a i19x1 rfl
                        refine g_iconst 0 17 (gd rfl) rfl rfl ?_
                        refine g_ireturn (gd rfl) rfl (nb01 (in_w 0 1 (in_c 0 rfl) rfl)) (hp19 _ _ ?_)
                        show GG _ _ _ _ _ _ _ _ [.int (Int32.ofInt 0)] _ _ _
                        refine g_if_eq 25 29 (gd rfl) rfl rfl (fun c22 => ?_) (fun c22 => ?_)
                        · skip
                          refine g_iconst 0 30 (gd rfl) rfl rfl ?_
                          refine g_thr (E := am_IA) (y := yX11_allow) 33 (gd rfl) rfl rfl (Or.inl ⟨rfl, rfl, rfl⟩) (by first | exact dq1 hd rfl | exact dq0 hd rfl | exact dq2 hd rfl | exact dq3 hd rfl | omega) (Nat.le_of_ble_eq_true rfl) (Nat.le_of_ble_eq_true rfl) (Nat.le_of_ble_eq_true rfl) (fun c30 => ?_) (fun c30 => ?_)
                          · skip
                            exact zn_ne c30 (in_c 0 rfl) rfl
                          · skip
                            have n30 : ¬ ((TWO (shC s).2.2.2.2.2.2.1 x1 x2) ∧ 0 ≤ x3.toInt ∧ x3.toInt < (shC s).2.2.2.2.2.2.1) := by first | (rw [shC_n (by rw [← e1x1]; exact c1x5)]; show ¬ (TWO (s.2.2.1 2 1).toInt x1 x2 ∧ 0 ≤ x3.toInt ∧ x3.toInt < (s.2.2.1 2 1).toInt); rw [← e_2_1]; exact (have a0 := in_u i10x10x9; have a1 := in_u i10x2x9; have a2 := in_u i10x2x9a; have a3 := in_u ro_2_1; have a4 := in_u i1x5; have a5 := in_u i19x9; have oc := oc_242_0; by omega)) | (rw [shC_d (by rw [← e1x1]; exact c1x5)]; show ¬ (TWO (s.2.2.1 32 1).toInt x1 x2 ∧ 0 ≤ x3.toInt ∧ x3.toInt < (s.2.2.1 32 1).toInt); rw [← e_32_1]; exact (have a0 := in_u i10x10x9; have a1 := in_u i10x2x9; have a2 := in_u i10x2x9a; have a3 := in_u ro_2_1; have a4 := in_u i1x5; have a5 := in_u i19x9; have oc := oc_242_0; by omega))
                            exact (hX _ _ ⟨Or.inl ⟨rfl, n30⟩, s, hI, fr_rf, rfl⟩)
                        · skip
                          exact zn_ne c22 (in_c 0 rfl) rfl
                      · skip
                        have i19x9 := r_lt1 0 31 c19x9 i19x1 i10x2x9a rfl
                        refine g_iconst 1 13 (gd rfl) rfl rfl ?_
                        refine g_goto 17 (gd rfl) rfl ?_
                        refine g_ireturn (gd rfl) rfl (nb01 (in_w 0 1 (in_c 1 rfl) rfl)) (hp19 _ _ ?_)
                        show GG _ _ _ _ _ _ _ _ [.int (Int32.ofInt 1)] _ _ _
                        refine g_if_eq 25 29 (gd rfl) rfl rfl (fun c22 => ?_) (fun c22 => ?_)
                        · skip
                          exact zn_eq c22 (in_c 1 rfl) rfl
                        · skip
                          refine g_iconst 1 26 (gd rfl) rfl rfl ?_
                          refine g_goto 30 (gd rfl) rfl ?_
                          refine g_thr (E := am_IA) (y := yX11_allow) 33 (gd rfl) rfl rfl (Or.inl ⟨rfl, rfl, rfl⟩) (by first | exact dq1 hd rfl | exact dq0 hd rfl | exact dq2 hd rfl | exact dq3 hd rfl | omega) (Nat.le_of_ble_eq_true rfl) (Nat.le_of_ble_eq_true rfl) (Nat.le_of_ble_eq_true rfl) (fun c30 => ?_) (fun c30 => ?_)
                          · skip
                            refine g_aload_n 34 (gd rfl) rfl rfl ?_
                            refine g_getA (q2 := 65) 37 (gd rfl) rfl rfl rfl rfl ?_
                            refine g_aload 39 (gd rfl) rfl rfl ?_
                            refine g_iload_n 40 (gd rfl) rfl rfl ?_
                            refine g_iload_n 41 (gd rfl) rfl rfl ?_
                            have p41 : TQD s := by first | exact q_0 | exact q_1
                            have p41a : FLB (gvD s) s := by first | (rw [← shC_n (by rw [← e1x1]; exact c1x5)]; exact q_2) | (rw [← shC_d (by rw [← e1x1]; exact c1x5)]; exact q_2)
                            have p41b : (x1).toInt ≠ (x2).toInt := by exact (have a0 := in_u i19x9; have a1 := in_u i10x10x9; have a2 := in_u i10x2x9; have a3 := in_u i10x2x9a; have a4 := in_u ro_2_1; have a5 := in_u i1x5; have oc := oc_242_0; by omega)
                            refine g_callv (X := _) (As := [.ref (A 32), .int x1, .int x2]) (r := []) (b := A 65) (q := 65) 44 (gd rfl) rfl rfl rfl rfl rfl (ww_o rfl) (Nat.le_of_ble_eq_true rfl) (Nat.zero_le _) (Nat.zero_le _) (f_75_65_32 (by first | exact dq1 hd rfl | exact dq0 hd rfl | exact dq2 hd rfl | exact dq3 hd rfl | omega) hI (in_w 0 31 i10x2x9 rfl) (in_w 0 31 i10x10x9 rfl) p41 p41a p41b) (fun e u h => h) (fun v u h => ?_)
                            obtain ⟨s41, hI41, hF41, z41, rfl, rfl, p41c, p41d⟩ := h
                            show GG _ _ _ _ _ _ _ _ [.long z41] _ _ _
                            refine g_pop2 45 (gd rfl) rfl rfl ?_
                            refine g_aload_n 46 (gd rfl) rfl rfl ?_
                            refine g_getA (q2 := 65) 49 (gd rfl) rfl rfl rfl rfl ?_
                            refine g_getI 52 (gd rfl) rfl rfl rfl (fun z49 e49 => ?_)
                            refine g_iload_n 53 (gd rfl) rfl rfl ?_
                            refine g_ishr 54 (gd rfl) rfl (fun z53 e53 => ?_)
                            refine g_iconst 1 55 (gd rfl) rfl rfl ?_
                            refine g_iand 56 (gd rfl) rfl (fun z55 e55 => ?_)
                            have i55 := in_and2 e55 (in_c 1 rfl) rfl
                            refine g_if_eq 59 63 (gd rfl) rfl rfl (fun c56 => ?_) (fun c56 => ?_)
                            · skip
                              have i56 := z_eq 0 0 c56 i55 rfl
                              refine g_iconst 0 64 (gd rfl) rfl rfl ?_
                              have n64 : ((TWO (shC s).2.2.2.2.2.2.1 x1 x2) ∧ 0 ≤ x3.toInt ∧ x3.toInt < (shC s).2.2.2.2.2.2.1) ∧ SDV (shC s) x1.toNatClampNeg x2.toNatClampNeg x3.toNatClampNeg ((Int32.ofInt 0)).toInt := by first | (rw [shC_n (by rw [← e1x1]; exact c1x5)]; refine ⟨⟨⟨⟨by exact (have a0 := in_u i19x9; have a1 := in_u i10x10x9; have a2 := in_u i10x2x9; have a3 := in_u i10x2x9a; have a4 := in_u ro_2_1; have a5 := in_u i1x5; have oc := oc_242_0; by omega), by show x1.toInt < (s.2.2.1 2 1).toInt; rw [← e_2_1]; exact (have a0 := in_u i19x9; have a1 := in_u i10x10x9; have a2 := in_u i10x2x9; have a3 := in_u i10x2x9a; have a4 := in_u ro_2_1; have a5 := in_u i1x5; have oc := oc_242_0; by omega)⟩, ⟨by exact (have a0 := in_u i19x9; have a1 := in_u i10x10x9; have a2 := in_u i10x2x9; have a3 := in_u i10x2x9a; have a4 := in_u ro_2_1; have a5 := in_u i1x5; have oc := oc_242_0; by omega), by show x2.toInt < (s.2.2.1 2 1).toInt; rw [← e_2_1]; exact (have a0 := in_u i19x9; have a1 := in_u i10x10x9; have a2 := in_u i10x2x9; have a3 := in_u i10x2x9a; have a4 := in_u ro_2_1; have a5 := in_u i1x5; have oc := oc_242_0; by omega)⟩, by exact (have a0 := in_u i19x9; have a1 := in_u i10x10x9; have a2 := in_u i10x2x9; have a3 := in_u i10x2x9a; have a4 := in_u ro_2_1; have a5 := in_u i1x5; have oc := oc_242_0; by omega)⟩, by exact (have a0 := in_u i19x9; have a1 := in_u i10x10x9; have a2 := in_u i10x2x9; have a3 := in_u i10x2x9a; have a4 := in_u ro_2_1; have a5 := in_u i1x5; have oc := oc_242_0; by omega), by show x3.toInt < (s.2.2.1 2 1).toInt; rw [← e_2_1]; exact (have a0 := in_u i19x9; have a1 := in_u i10x10x9; have a2 := in_u i10x2x9; have a3 := in_u i10x2x9a; have a4 := in_u ro_2_1; have a5 := in_u i1x5; have oc := oc_242_0; by omega)⟩, ?_⟩; (first | exact sdv_0 p41c e49 (bt_f0 (bt_ask e53 e55 i19x9) c56) rfl | exact sdv_1 p41c e49 (bt_t1 (bt_ask e53 e55 i19x9) c56) rfl)) | (rw [shC_d (by rw [← e1x1]; exact c1x5)]; refine ⟨⟨⟨⟨by exact (have a0 := in_u i19x9; have a1 := in_u i10x10x9; have a2 := in_u i10x2x9; have a3 := in_u i10x2x9a; have a4 := in_u ro_2_1; have a5 := in_u i1x5; have oc := oc_242_0; by omega), by show x1.toInt < (s.2.2.1 32 1).toInt; rw [← e_32_1]; exact (have a0 := in_u i19x9; have a1 := in_u i10x10x9; have a2 := in_u i10x2x9; have a3 := in_u i10x2x9a; have a4 := in_u ro_2_1; have a5 := in_u i1x5; have oc := oc_242_0; by omega)⟩, ⟨by exact (have a0 := in_u i19x9; have a1 := in_u i10x10x9; have a2 := in_u i10x2x9; have a3 := in_u i10x2x9a; have a4 := in_u ro_2_1; have a5 := in_u i1x5; have oc := oc_242_0; by omega), by show x2.toInt < (s.2.2.1 32 1).toInt; rw [← e_32_1]; exact (have a0 := in_u i19x9; have a1 := in_u i10x10x9; have a2 := in_u i10x2x9; have a3 := in_u i10x2x9a; have a4 := in_u ro_2_1; have a5 := in_u i1x5; have oc := oc_242_0; by omega)⟩, by exact (have a0 := in_u i19x9; have a1 := in_u i10x10x9; have a2 := in_u i10x2x9; have a3 := in_u i10x2x9a; have a4 := in_u ro_2_1; have a5 := in_u i1x5; have oc := oc_242_0; by omega)⟩, by exact (have a0 := in_u i19x9; have a1 := in_u i10x10x9; have a2 := in_u i10x2x9; have a3 := in_u i10x2x9a; have a4 := in_u ro_2_1; have a5 := in_u i1x5; have oc := oc_242_0; by omega), by show x3.toInt < (s.2.2.1 32 1).toInt; rw [← e_32_1]; exact (have a0 := in_u i19x9; have a1 := in_u i10x10x9; have a2 := in_u i10x2x9; have a3 := in_u i10x2x9a; have a4 := in_u ro_2_1; have a5 := in_u i1x5; have oc := oc_242_0; by omega)⟩, ?_⟩; (first | exact sdv_0 p41c e49 (bt_f0 (bt_ask e53 e55 i19x9) c56) rfl | exact sdv_1 p41c e49 (bt_t1 (bt_ask e53 e55 i19x9) c56) rfl))
                              have n64a : FLQ (shC s) s41 := by first | (rw [shC_n (by rw [← e1x1]; exact c1x5)]; exact p41c.1) | (rw [shC_d (by rw [← e1x1]; exact c1x5)]; exact p41c.1)
                              exact g_ireturn (gd rfl) rfl (nb01 (in_w 0 1 (in_c 0 rfl) rfl)) (hP _ _ ⟨s41, hI41, (fr_tr rfl fr_rf hF41), (Int32.ofInt 0), rfl, rfl, in_w 0 1 (in_c 0 rfl) rfl, n64, n64a⟩)
                            · skip
                              have i56 := z_ne 1 1 c56 i55 rfl
                              refine g_iconst 1 60 (gd rfl) rfl rfl ?_
                              refine g_goto 64 (gd rfl) rfl ?_
                              have n64 : ((TWO (shC s).2.2.2.2.2.2.1 x1 x2) ∧ 0 ≤ x3.toInt ∧ x3.toInt < (shC s).2.2.2.2.2.2.1) ∧ SDV (shC s) x1.toNatClampNeg x2.toNatClampNeg x3.toNatClampNeg ((Int32.ofInt 1)).toInt := by first | (rw [shC_n (by rw [← e1x1]; exact c1x5)]; refine ⟨⟨⟨⟨by exact (have a0 := in_u i19x9; have a1 := in_u i10x10x9; have a2 := in_u i10x2x9; have a3 := in_u i10x2x9a; have a4 := in_u ro_2_1; have a5 := in_u i1x5; have oc := oc_242_0; by omega), by show x1.toInt < (s.2.2.1 2 1).toInt; rw [← e_2_1]; exact (have a0 := in_u i19x9; have a1 := in_u i10x10x9; have a2 := in_u i10x2x9; have a3 := in_u i10x2x9a; have a4 := in_u ro_2_1; have a5 := in_u i1x5; have oc := oc_242_0; by omega)⟩, ⟨by exact (have a0 := in_u i19x9; have a1 := in_u i10x10x9; have a2 := in_u i10x2x9; have a3 := in_u i10x2x9a; have a4 := in_u ro_2_1; have a5 := in_u i1x5; have oc := oc_242_0; by omega), by show x2.toInt < (s.2.2.1 2 1).toInt; rw [← e_2_1]; exact (have a0 := in_u i19x9; have a1 := in_u i10x10x9; have a2 := in_u i10x2x9; have a3 := in_u i10x2x9a; have a4 := in_u ro_2_1; have a5 := in_u i1x5; have oc := oc_242_0; by omega)⟩, by exact (have a0 := in_u i19x9; have a1 := in_u i10x10x9; have a2 := in_u i10x2x9; have a3 := in_u i10x2x9a; have a4 := in_u ro_2_1; have a5 := in_u i1x5; have oc := oc_242_0; by omega)⟩, by exact (have a0 := in_u i19x9; have a1 := in_u i10x10x9; have a2 := in_u i10x2x9; have a3 := in_u i10x2x9a; have a4 := in_u ro_2_1; have a5 := in_u i1x5; have oc := oc_242_0; by omega), by show x3.toInt < (s.2.2.1 2 1).toInt; rw [← e_2_1]; exact (have a0 := in_u i19x9; have a1 := in_u i10x10x9; have a2 := in_u i10x2x9; have a3 := in_u i10x2x9a; have a4 := in_u ro_2_1; have a5 := in_u i1x5; have oc := oc_242_0; by omega)⟩, ?_⟩; (first | exact sdv_0 p41c e49 (bt_f0 (bt_ask e53 e55 i19x9) c56) rfl | exact sdv_1 p41c e49 (bt_t1 (bt_ask e53 e55 i19x9) c56) rfl)) | (rw [shC_d (by rw [← e1x1]; exact c1x5)]; refine ⟨⟨⟨⟨by exact (have a0 := in_u i19x9; have a1 := in_u i10x10x9; have a2 := in_u i10x2x9; have a3 := in_u i10x2x9a; have a4 := in_u ro_2_1; have a5 := in_u i1x5; have oc := oc_242_0; by omega), by show x1.toInt < (s.2.2.1 32 1).toInt; rw [← e_32_1]; exact (have a0 := in_u i19x9; have a1 := in_u i10x10x9; have a2 := in_u i10x2x9; have a3 := in_u i10x2x9a; have a4 := in_u ro_2_1; have a5 := in_u i1x5; have oc := oc_242_0; by omega)⟩, ⟨by exact (have a0 := in_u i19x9; have a1 := in_u i10x10x9; have a2 := in_u i10x2x9; have a3 := in_u i10x2x9a; have a4 := in_u ro_2_1; have a5 := in_u i1x5; have oc := oc_242_0; by omega), by show x2.toInt < (s.2.2.1 32 1).toInt; rw [← e_32_1]; exact (have a0 := in_u i19x9; have a1 := in_u i10x10x9; have a2 := in_u i10x2x9; have a3 := in_u i10x2x9a; have a4 := in_u ro_2_1; have a5 := in_u i1x5; have oc := oc_242_0; by omega)⟩, by exact (have a0 := in_u i19x9; have a1 := in_u i10x10x9; have a2 := in_u i10x2x9; have a3 := in_u i10x2x9a; have a4 := in_u ro_2_1; have a5 := in_u i1x5; have oc := oc_242_0; by omega)⟩, by exact (have a0 := in_u i19x9; have a1 := in_u i10x10x9; have a2 := in_u i10x2x9; have a3 := in_u i10x2x9a; have a4 := in_u ro_2_1; have a5 := in_u i1x5; have oc := oc_242_0; by omega), by show x3.toInt < (s.2.2.1 32 1).toInt; rw [← e_32_1]; exact (have a0 := in_u i19x9; have a1 := in_u i10x10x9; have a2 := in_u i10x2x9; have a3 := in_u i10x2x9a; have a4 := in_u ro_2_1; have a5 := in_u i1x5; have oc := oc_242_0; by omega)⟩, ?_⟩; (first | exact sdv_0 p41c e49 (bt_f0 (bt_ask e53 e55 i19x9) c56) rfl | exact sdv_1 p41c e49 (bt_t1 (bt_ask e53 e55 i19x9) c56) rfl))
                              have n64a : FLQ (shC s) s41 := by first | (rw [shC_n (by rw [← e1x1]; exact c1x5)]; exact p41c.1) | (rw [shC_d (by rw [← e1x1]; exact c1x5)]; exact p41c.1)
                              exact g_ireturn (gd rfl) rfl (nb01 (in_w 0 1 (in_c 1 rfl) rfl)) (hP _ _ ⟨s41, hI41, (fr_tr rfl fr_rf hF41), (Int32.ofInt 1), rfl, rfl, in_w 0 1 (in_c 1 rfl) rfl, n64, n64a⟩)
                          · skip
                            exact zn_eq c30 (in_c 1 rfl) rfl
  · skip
    have i1x5 := r_eq1 (-1) (-1) c1x5 ro_0_2 (in_c (-1) rfl) rfl
    refine g_aload_n 9 (gd rfl) rfl rfl ?_
    refine g_getA (q2 := 1) 12 (gd rfl) rfl rfl rfl rfl ?_
    refine g_getA (q2 := 2) 15 (gd rfl) rfl rfl rfl rfl ?_
    refine g_goto 22 (gd rfl) rfl ?_
    refine g_areturn (gd rfl) rfl (hp1 _ _ ?_)
    show GG _ _ _ _ _ _ _ _ [.ref (A 2)] _ _ _
    refine g_astore 6 (gd rfl) rfl (Nat.le_of_ble_eq_true rfl) ?_
    refine g_aload 8 (gd rfl) rfl rfl ?_
    refine g_iload_n 9 (gd rfl) rfl rfl ?_
    refine g_iload_n 10 (gd rfl) rfl rfl ?_
    refine g_callv (X := _) (As := [.int x1, .int x2]) (r := []) (b := A 2) (q := 2) 13 (gd rfl) rfl rfl rfl rfl rfl (ww_o rfl) (Nat.le_of_ble_eq_true rfl) (mc := 0) (ms := 0) (Nat.zero_le _) (Nat.zero_le _) (P := fun v u => _) ?_ (fun e u h => h) (fun v u h => h)
    intro po10 xx10 hp10 hx10
    refine g_enter2 (k := 95) (N := 300) (by first | exact dq1 hd rfl | exact dq0 hd rfl | exact dq2 hd rfl | exact dq3 hd rfl | omega) rfl (Nat.le_of_ble_eq_true rfl) ?_
    refine g_aload_n 1 (gd rfl) rfl rfl ?_
    refine g_iload_n 2 (gd rfl) rfl rfl ?_
    refine g_callv (X := _) (As := [.int x1]) (r := []) (b := A 2) (q := 2) 5 (gd rfl) rfl rfl rfl rfl rfl (ww_o rfl) (Nat.le_of_ble_eq_true rfl) (mc := 0) (ms := 0) (Nat.zero_le _) (Nat.zero_le _) (P := fun v u => _) ?_ (fun e u h => h) (fun v u h => h)
    intro po10x2 xx10x2 hp10x2 hx10x2
    refine g_enter2 (k := 94) (N := 300) (by first | exact dq1 hd rfl | exact dq0 hd rfl | exact dq2 hd rfl | exact dq3 hd rfl | omega) rfl (Nat.le_of_ble_eq_true rfl) ?_
    refine g_iload_n 1 (gd rfl) rfl rfl ?_
    refine g_if_lt 4 16 (gd rfl) rfl rfl (fun c10x2x1 => ?_) (fun c10x2x1 => ?_)
    · skip
      have i10x2x1 := z_lt (-2147483648) (-1) c10x2x1 (i_rng x1) rfl
      refine g_iconst 0 17 (gd rfl) rfl rfl ?_
      refine g_ireturn (gd rfl) rfl (nb01 (in_w 0 1 (in_c 0 rfl) rfl)) (hp10x2 _ _ ?_)
      show GG _ _ _ _ _ _ _ _ [.int (Int32.ofInt 0)] _ _ _
      refine g_if_eq 8 25 (gd rfl) rfl rfl (fun c10x5 => ?_) (fun c10x5 => ?_)
      · skip
        refine g_iconst 0 26 (gd rfl) rfl rfl ?_
        refine g_ireturn (gd rfl) rfl (nb01 (in_w 0 1 (in_c 0 rfl) rfl)) (hp10 _ _ ?_)
        show GG _ _ _ _ _ _ _ _ [.int (Int32.ofInt 0)] _ _ _
        refine g_if_eq 16 29 (gd rfl) rfl rfl (fun c13 => ?_) (fun c13 => ?_)
        · skip
          refine g_iconst 0 30 (gd rfl) rfl rfl ?_
          refine g_thr (E := am_IA) (y := yX11_allow) 33 (gd rfl) rfl rfl (Or.inl ⟨rfl, rfl, rfl⟩) (by first | exact dq1 hd rfl | exact dq0 hd rfl | exact dq2 hd rfl | exact dq3 hd rfl | omega) (Nat.le_of_ble_eq_true rfl) (Nat.le_of_ble_eq_true rfl) (Nat.le_of_ble_eq_true rfl) (fun c30 => ?_) (fun c30 => ?_)
          · skip
            exact zn_ne c30 (in_c 0 rfl) rfl
          · skip
            have n30 : ¬ ((TWO (shC s).2.2.2.2.2.2.1 x1 x2) ∧ 0 ≤ x3.toInt ∧ x3.toInt < (shC s).2.2.2.2.2.2.1) := by first | (rw [shC_n (by rw [← e1x1]; exact c1x5)]; show ¬ (TWO (s.2.2.1 2 1).toInt x1 x2 ∧ 0 ≤ x3.toInt ∧ x3.toInt < (s.2.2.1 2 1).toInt); rw [← e_2_1]; exact (have a0 := in_u ro_32_1; have a1 := in_u ro_2_1; have a2 := in_u i1x5; have a3 := in_u i10x2x1; have oc := oc_242_0; by omega)) | (rw [shC_d (by rw [← e1x1]; exact c1x5)]; show ¬ (TWO (s.2.2.1 32 1).toInt x1 x2 ∧ 0 ≤ x3.toInt ∧ x3.toInt < (s.2.2.1 32 1).toInt); rw [← e_32_1]; exact (have a0 := in_u ro_32_1; have a1 := in_u ro_2_1; have a2 := in_u i1x5; have a3 := in_u i10x2x1; have oc := oc_242_0; by omega))
            exact (hX _ _ ⟨Or.inl ⟨rfl, n30⟩, s, hI, fr_rf, rfl⟩)
        · skip
          exact zn_ne c13 (in_c 0 rfl) rfl
      · skip
        exact zn_ne c10x5 (in_c 0 rfl) rfl
    · skip
      have i10x2x1 := z_ge 0 2147483647 c10x2x1 (i_rng x1) rfl
      refine g_iload_n 5 (gd rfl) rfl rfl ?_
      refine g_aload_n 6 (gd rfl) rfl rfl ?_
      refine g_getI 9 (gd rfl) rfl rfl rfl (fun z10x2x6 e10x2x6 => ?_)
      have q10x2x6 : u_2_1 = z10x2x6 := (e_2_1).trans e10x2x6.symm
      subst q10x2x6
      refine g_cmp_ge 12 16 (gd rfl) rfl rfl (fun c10x2x9 => ?_) (fun c10x2x9 => ?_)
      · skip
        refine g_iconst 0 17 (gd rfl) rfl rfl ?_
        refine g_ireturn (gd rfl) rfl (nb01 (in_w 0 1 (in_c 0 rfl) rfl)) (hp10x2 _ _ ?_)
        show GG _ _ _ _ _ _ _ _ [.int (Int32.ofInt 0)] _ _ _
        refine g_if_eq 8 25 (gd rfl) rfl rfl (fun c10x5 => ?_) (fun c10x5 => ?_)
        · skip
          refine g_iconst 0 26 (gd rfl) rfl rfl ?_
          refine g_ireturn (gd rfl) rfl (nb01 (in_w 0 1 (in_c 0 rfl) rfl)) (hp10 _ _ ?_)
          show GG _ _ _ _ _ _ _ _ [.int (Int32.ofInt 0)] _ _ _
          refine g_if_eq 16 29 (gd rfl) rfl rfl (fun c13 => ?_) (fun c13 => ?_)
          · skip
            refine g_iconst 0 30 (gd rfl) rfl rfl ?_
            refine g_thr (E := am_IA) (y := yX11_allow) 33 (gd rfl) rfl rfl (Or.inl ⟨rfl, rfl, rfl⟩) (by first | exact dq1 hd rfl | exact dq0 hd rfl | exact dq2 hd rfl | exact dq3 hd rfl | omega) (Nat.le_of_ble_eq_true rfl) (Nat.le_of_ble_eq_true rfl) (Nat.le_of_ble_eq_true rfl) (fun c30 => ?_) (fun c30 => ?_)
            · skip
              exact zn_ne c30 (in_c 0 rfl) rfl
            · skip
              have n30 : ¬ ((TWO (shC s).2.2.2.2.2.2.1 x1 x2) ∧ 0 ≤ x3.toInt ∧ x3.toInt < (shC s).2.2.2.2.2.2.1) := by first | (rw [shC_n (by rw [← e1x1]; exact c1x5)]; show ¬ (TWO (s.2.2.1 2 1).toInt x1 x2 ∧ 0 ≤ x3.toInt ∧ x3.toInt < (s.2.2.1 2 1).toInt); rw [← e_2_1]; exact (have a0 := in_u ro_32_1; have a1 := in_u ro_2_1; have a2 := in_u i1x5; have a3 := in_u i10x2x1; have oc := oc_242_0; by omega)) | (rw [shC_d (by rw [← e1x1]; exact c1x5)]; show ¬ (TWO (s.2.2.1 32 1).toInt x1 x2 ∧ 0 ≤ x3.toInt ∧ x3.toInt < (s.2.2.1 32 1).toInt); rw [← e_32_1]; exact (have a0 := in_u ro_32_1; have a1 := in_u ro_2_1; have a2 := in_u i1x5; have a3 := in_u i10x2x1; have oc := oc_242_0; by omega))
              exact (hX _ _ ⟨Or.inl ⟨rfl, n30⟩, s, hI, fr_rf, rfl⟩)
          · skip
            exact zn_ne c13 (in_c 0 rfl) rfl
        · skip
          exact zn_ne c10x5 (in_c 0 rfl) rfl
      · skip
        have i10x2x9 := r_lt1 0 31 c10x2x9 i10x2x1 ro_2_1 rfl
        have i10x2x9a := r_lt2 1 32 c10x2x9 i10x2x1 ro_2_1 rfl
        refine g_iconst 1 13 (gd rfl) rfl rfl ?_
        refine g_goto 17 (gd rfl) rfl ?_
        refine g_ireturn (gd rfl) rfl (nb01 (in_w 0 1 (in_c 1 rfl) rfl)) (hp10x2 _ _ ?_)
        show GG _ _ _ _ _ _ _ _ [.int (Int32.ofInt 1)] _ _ _
        refine g_if_eq 8 25 (gd rfl) rfl rfl (fun c10x5 => ?_) (fun c10x5 => ?_)
        · skip
          exact zn_eq c10x5 (in_c 1 rfl) rfl
        · skip
          refine g_aload_n 9 (gd rfl) rfl rfl ?_
          refine g_iload_n 10 (gd rfl) rfl rfl ?_
          refine g_callv (X := _) (As := [.int x2]) (r := []) (b := A 2) (q := 2) 13 (gd rfl) rfl rfl rfl rfl rfl (ww_o rfl) (Nat.le_of_ble_eq_true rfl) (mc := 0) (ms := 0) (Nat.zero_le _) (Nat.zero_le _) (P := fun v u => _) ?_ (fun e u h => h) (fun v u h => h)
          intro po10x10 xx10x10 hp10x10 hx10x10
          refine g_enter2 (k := 94) (N := 300) (by first | exact dq1 hd rfl | exact dq0 hd rfl | exact dq2 hd rfl | exact dq3 hd rfl | omega) rfl (Nat.le_of_ble_eq_true rfl) ?_
          refine g_iload_n 1 (gd rfl) rfl rfl ?_
          refine g_if_lt 4 16 (gd rfl) rfl rfl (fun c10x10x1 => ?_) (fun c10x10x1 => ?_)
          · skip
            have i10x10x1 := z_lt (-2147483648) (-1) c10x10x1 (i_rng x2) rfl
            refine g_iconst 0 17 (gd rfl) rfl rfl ?_
            refine g_ireturn (gd rfl) rfl (nb01 (in_w 0 1 (in_c 0 rfl) rfl)) (hp10x10 _ _ ?_)
            show GG _ _ _ _ _ _ _ _ [.int (Int32.ofInt 0)] _ _ _
            refine g_if_eq 16 25 (gd rfl) rfl rfl (fun c10x13 => ?_) (fun c10x13 => ?_)
            · skip
              refine g_iconst 0 26 (gd rfl) rfl rfl ?_
              refine g_ireturn (gd rfl) rfl (nb01 (in_w 0 1 (in_c 0 rfl) rfl)) (hp10 _ _ ?_)
              show GG _ _ _ _ _ _ _ _ [.int (Int32.ofInt 0)] _ _ _
              refine g_if_eq 16 29 (gd rfl) rfl rfl (fun c13 => ?_) (fun c13 => ?_)
              · skip
                refine g_iconst 0 30 (gd rfl) rfl rfl ?_
                refine g_thr (E := am_IA) (y := yX11_allow) 33 (gd rfl) rfl rfl (Or.inl ⟨rfl, rfl, rfl⟩) (by first | exact dq1 hd rfl | exact dq0 hd rfl | exact dq2 hd rfl | exact dq3 hd rfl | omega) (Nat.le_of_ble_eq_true rfl) (Nat.le_of_ble_eq_true rfl) (Nat.le_of_ble_eq_true rfl) (fun c30 => ?_) (fun c30 => ?_)
                · skip
                  exact zn_ne c30 (in_c 0 rfl) rfl
                · skip
                  have n30 : ¬ ((TWO (shC s).2.2.2.2.2.2.1 x1 x2) ∧ 0 ≤ x3.toInt ∧ x3.toInt < (shC s).2.2.2.2.2.2.1) := by first | (rw [shC_n (by rw [← e1x1]; exact c1x5)]; show ¬ (TWO (s.2.2.1 2 1).toInt x1 x2 ∧ 0 ≤ x3.toInt ∧ x3.toInt < (s.2.2.1 2 1).toInt); rw [← e_2_1]; exact (have a0 := in_u i10x2x9; have a1 := in_u ro_32_1; have a2 := in_u i10x2x9a; have a3 := in_u i1x5; have a4 := in_u i10x10x1; have oc := oc_242_0; by omega)) | (rw [shC_d (by rw [← e1x1]; exact c1x5)]; show ¬ (TWO (s.2.2.1 32 1).toInt x1 x2 ∧ 0 ≤ x3.toInt ∧ x3.toInt < (s.2.2.1 32 1).toInt); rw [← e_32_1]; exact (have a0 := in_u i10x2x9; have a1 := in_u ro_32_1; have a2 := in_u i10x2x9a; have a3 := in_u i1x5; have a4 := in_u i10x10x1; have oc := oc_242_0; by omega))
                  exact (hX _ _ ⟨Or.inl ⟨rfl, n30⟩, s, hI, fr_rf, rfl⟩)
              · skip
                exact zn_ne c13 (in_c 0 rfl) rfl
            · skip
              exact zn_ne c10x13 (in_c 0 rfl) rfl
          · skip
            have i10x10x1 := z_ge 0 2147483647 c10x10x1 (i_rng x2) rfl
            refine g_iload_n 5 (gd rfl) rfl rfl ?_
            refine g_aload_n 6 (gd rfl) rfl rfl ?_
            refine g_getI 9 (gd rfl) rfl rfl rfl (fun z10x10x6 e10x10x6 => ?_)
            have q10x10x6 : u_2_1 = z10x10x6 := (e_2_1).trans e10x10x6.symm
            subst q10x10x6
            refine g_cmp_ge 12 16 (gd rfl) rfl rfl (fun c10x10x9 => ?_) (fun c10x10x9 => ?_)
            · skip
              have i10x10x9 := r_le2 1 2147483647 c10x10x9 i10x2x9a i10x10x1 rfl
              refine g_iconst 0 17 (gd rfl) rfl rfl ?_
              refine g_ireturn (gd rfl) rfl (nb01 (in_w 0 1 (in_c 0 rfl) rfl)) (hp10x10 _ _ ?_)
              show GG _ _ _ _ _ _ _ _ [.int (Int32.ofInt 0)] _ _ _
              refine g_if_eq 16 25 (gd rfl) rfl rfl (fun c10x13 => ?_) (fun c10x13 => ?_)
              · skip
                refine g_iconst 0 26 (gd rfl) rfl rfl ?_
                refine g_ireturn (gd rfl) rfl (nb01 (in_w 0 1 (in_c 0 rfl) rfl)) (hp10 _ _ ?_)
                show GG _ _ _ _ _ _ _ _ [.int (Int32.ofInt 0)] _ _ _
                refine g_if_eq 16 29 (gd rfl) rfl rfl (fun c13 => ?_) (fun c13 => ?_)
                · skip
                  refine g_iconst 0 30 (gd rfl) rfl rfl ?_
                  refine g_thr (E := am_IA) (y := yX11_allow) 33 (gd rfl) rfl rfl (Or.inl ⟨rfl, rfl, rfl⟩) (by first | exact dq1 hd rfl | exact dq0 hd rfl | exact dq2 hd rfl | exact dq3 hd rfl | omega) (Nat.le_of_ble_eq_true rfl) (Nat.le_of_ble_eq_true rfl) (Nat.le_of_ble_eq_true rfl) (fun c30 => ?_) (fun c30 => ?_)
                  · skip
                    exact zn_ne c30 (in_c 0 rfl) rfl
                  · skip
                    have n30 : ¬ ((TWO (shC s).2.2.2.2.2.2.1 x1 x2) ∧ 0 ≤ x3.toInt ∧ x3.toInt < (shC s).2.2.2.2.2.2.1) := by first | (rw [shC_n (by rw [← e1x1]; exact c1x5)]; show ¬ (TWO (s.2.2.1 2 1).toInt x1 x2 ∧ 0 ≤ x3.toInt ∧ x3.toInt < (s.2.2.1 2 1).toInt); rw [← e_2_1]; exact (have a0 := in_u i10x2x9; have a1 := in_u ro_32_1; have a2 := in_u i10x2x9a; have a3 := in_u i1x5; have a4 := in_u i10x10x9; have oc := oc_242_0; by omega)) | (rw [shC_d (by rw [← e1x1]; exact c1x5)]; show ¬ (TWO (s.2.2.1 32 1).toInt x1 x2 ∧ 0 ≤ x3.toInt ∧ x3.toInt < (s.2.2.1 32 1).toInt); rw [← e_32_1]; exact (have a0 := in_u i10x2x9; have a1 := in_u ro_32_1; have a2 := in_u i10x2x9a; have a3 := in_u i1x5; have a4 := in_u i10x10x9; have oc := oc_242_0; by omega))
                    exact (hX _ _ ⟨Or.inl ⟨rfl, n30⟩, s, hI, fr_rf, rfl⟩)
                · skip
                  exact zn_ne c13 (in_c 0 rfl) rfl
              · skip
                exact zn_ne c10x13 (in_c 0 rfl) rfl
            · skip
              have i10x10x9 := r_lt1 0 31 c10x10x9 i10x10x1 i10x2x9a rfl
              refine g_iconst 1 13 (gd rfl) rfl rfl ?_
              refine g_goto 17 (gd rfl) rfl ?_
              refine g_ireturn (gd rfl) rfl (nb01 (in_w 0 1 (in_c 1 rfl) rfl)) (hp10x10 _ _ ?_)
              show GG _ _ _ _ _ _ _ _ [.int (Int32.ofInt 1)] _ _ _
              refine g_if_eq 16 25 (gd rfl) rfl rfl (fun c10x13 => ?_) (fun c10x13 => ?_)
              · skip
                exact zn_eq c10x13 (in_c 1 rfl) rfl
              · skip
                refine g_iload_n 17 (gd rfl) rfl rfl ?_
                refine g_iload_n 18 (gd rfl) rfl rfl ?_
                refine g_cmp_eq 21 25 (gd rfl) rfl rfl (fun c10x18 => ?_) (fun c10x18 => ?_)
                · skip
                  refine g_iconst 0 26 (gd rfl) rfl rfl ?_
                  refine g_ireturn (gd rfl) rfl (nb01 (in_w 0 1 (in_c 0 rfl) rfl)) (hp10 _ _ ?_)
                  show GG _ _ _ _ _ _ _ _ [.int (Int32.ofInt 0)] _ _ _
                  refine g_if_eq 16 29 (gd rfl) rfl rfl (fun c13 => ?_) (fun c13 => ?_)
                  · skip
                    refine g_iconst 0 30 (gd rfl) rfl rfl ?_
                    refine g_thr (E := am_IA) (y := yX11_allow) 33 (gd rfl) rfl rfl (Or.inl ⟨rfl, rfl, rfl⟩) (by first | exact dq1 hd rfl | exact dq0 hd rfl | exact dq2 hd rfl | exact dq3 hd rfl | omega) (Nat.le_of_ble_eq_true rfl) (Nat.le_of_ble_eq_true rfl) (Nat.le_of_ble_eq_true rfl) (fun c30 => ?_) (fun c30 => ?_)
                    · skip
                      exact zn_ne c30 (in_c 0 rfl) rfl
                    · skip
                      have n30 : ¬ ((TWO (shC s).2.2.2.2.2.2.1 x1 x2) ∧ 0 ≤ x3.toInt ∧ x3.toInt < (shC s).2.2.2.2.2.2.1) := by first | (rw [shC_n (by rw [← e1x1]; exact c1x5)]; show ¬ (TWO (s.2.2.1 2 1).toInt x1 x2 ∧ 0 ≤ x3.toInt ∧ x3.toInt < (s.2.2.1 2 1).toInt); rw [← e_2_1]; exact (have a0 := in_u i10x10x9; have a1 := in_u i10x2x9; have a2 := in_u ro_32_1; have a3 := in_u i10x2x9a; have a4 := in_u i1x5; have oc := oc_242_0; by omega)) | (rw [shC_d (by rw [← e1x1]; exact c1x5)]; show ¬ (TWO (s.2.2.1 32 1).toInt x1 x2 ∧ 0 ≤ x3.toInt ∧ x3.toInt < (s.2.2.1 32 1).toInt); rw [← e_32_1]; exact (have a0 := in_u i10x10x9; have a1 := in_u i10x2x9; have a2 := in_u ro_32_1; have a3 := in_u i10x2x9a; have a4 := in_u i1x5; have oc := oc_242_0; by omega))
                      exact (hX _ _ ⟨Or.inl ⟨rfl, n30⟩, s, hI, fr_rf, rfl⟩)
                  · skip
                    exact zn_ne c13 (in_c 0 rfl) rfl
                · skip
                  refine g_iconst 1 22 (gd rfl) rfl rfl ?_
                  refine g_goto 26 (gd rfl) rfl ?_
                  refine g_ireturn (gd rfl) rfl (nb01 (in_w 0 1 (in_c 1 rfl) rfl)) (hp10 _ _ ?_)
                  show GG _ _ _ _ _ _ _ _ [.int (Int32.ofInt 1)] _ _ _
                  refine g_if_eq 16 29 (gd rfl) rfl rfl (fun c13 => ?_) (fun c13 => ?_)
                  · skip
                    exact zn_eq c13 (in_c 1 rfl) rfl
                  · skip
                    refine g_aload 18 (gd rfl) rfl rfl ?_
                    refine g_iload_n 19 (gd rfl) rfl rfl ?_
                    refine g_callv (X := _) (As := [.int x3]) (r := []) (b := A 2) (q := 2) 22 (gd rfl) rfl rfl rfl rfl rfl (ww_o rfl) (Nat.le_of_ble_eq_true rfl) (mc := 0) (ms := 0) (Nat.zero_le _) (Nat.zero_le _) (P := fun v u => _) ?_ (fun e u h => h) (fun v u h => h)
                    intro po19 xx19 hp19 hx19
                    refine g_enter2 (k := 94) (N := 300) (by first | exact dq1 hd rfl | exact dq0 hd rfl | exact dq2 hd rfl | exact dq3 hd rfl | omega) rfl (Nat.le_of_ble_eq_true rfl) ?_
                    refine g_iload_n 1 (gd rfl) rfl rfl ?_
                    refine g_if_lt 4 16 (gd rfl) rfl rfl (fun c19x1 => ?_) (fun c19x1 => ?_)
                    · skip
                      have i19x1 := z_lt (-2147483648) (-1) c19x1 (i_rng x3) rfl
                      refine g_iconst 0 17 (gd rfl) rfl rfl ?_
                      refine g_ireturn (gd rfl) rfl (nb01 (in_w 0 1 (in_c 0 rfl) rfl)) (hp19 _ _ ?_)
                      show GG _ _ _ _ _ _ _ _ [.int (Int32.ofInt 0)] _ _ _
                      refine g_if_eq 25 29 (gd rfl) rfl rfl (fun c22 => ?_) (fun c22 => ?_)
                      · skip
                        refine g_iconst 0 30 (gd rfl) rfl rfl ?_
                        refine g_thr (E := am_IA) (y := yX11_allow) 33 (gd rfl) rfl rfl (Or.inl ⟨rfl, rfl, rfl⟩) (by first | exact dq1 hd rfl | exact dq0 hd rfl | exact dq2 hd rfl | exact dq3 hd rfl | omega) (Nat.le_of_ble_eq_true rfl) (Nat.le_of_ble_eq_true rfl) (Nat.le_of_ble_eq_true rfl) (fun c30 => ?_) (fun c30 => ?_)
                        · skip
                          exact zn_ne c30 (in_c 0 rfl) rfl
                        · skip
                          have n30 : ¬ ((TWO (shC s).2.2.2.2.2.2.1 x1 x2) ∧ 0 ≤ x3.toInt ∧ x3.toInt < (shC s).2.2.2.2.2.2.1) := by first | (rw [shC_n (by rw [← e1x1]; exact c1x5)]; show ¬ (TWO (s.2.2.1 2 1).toInt x1 x2 ∧ 0 ≤ x3.toInt ∧ x3.toInt < (s.2.2.1 2 1).toInt); rw [← e_2_1]; exact (have a0 := in_u i10x10x9; have a1 := in_u i10x2x9; have a2 := in_u ro_32_1; have a3 := in_u i10x2x9a; have a4 := in_u i1x5; have a5 := in_u i19x1; have oc := oc_242_0; by omega)) | (rw [shC_d (by rw [← e1x1]; exact c1x5)]; show ¬ (TWO (s.2.2.1 32 1).toInt x1 x2 ∧ 0 ≤ x3.toInt ∧ x3.toInt < (s.2.2.1 32 1).toInt); rw [← e_32_1]; exact (have a0 := in_u i10x10x9; have a1 := in_u i10x2x9; have a2 := in_u ro_32_1; have a3 := in_u i10x2x9a; have a4 := in_u i1x5; have a5 := in_u i19x1; have oc := oc_242_0; by omega))
                          exact (hX _ _ ⟨Or.inl ⟨rfl, n30⟩, s, hI, fr_rf, rfl⟩)
                      · skip
                        exact zn_ne c22 (in_c 0 rfl) rfl
                    · skip
                      have i19x1 := z_ge 0 2147483647 c19x1 (i_rng x3) rfl
                      refine g_iload_n 5 (gd rfl) rfl rfl ?_
                      refine g_aload_n 6 (gd rfl) rfl rfl ?_
                      refine g_getI 9 (gd rfl) rfl rfl rfl (fun z19x6 e19x6 => ?_)
                      have q19x6 : u_2_1 = z19x6 := (e_2_1).trans e19x6.symm
                      subst q19x6
                      refine g_cmp_ge 12 16 (gd rfl) rfl rfl (fun c19x9 => ?_) (fun c19x9 => ?_)
                      · skip
                        have i19x9 := r_le2 1 2147483647 c19x9 i10x2x9a i19x1 rfl
                        refine g_iconst 0 17 (gd rfl) rfl rfl ?_
                        refine g_ireturn (gd rfl) rfl (nb01 (in_w 0 1 (in_c 0 rfl) rfl)) (hp19 _ _ ?_)
                        show GG _ _ _ _ _ _ _ _ [.int (Int32.ofInt 0)] _ _ _
                        refine g_if_eq 25 29 (gd rfl) rfl rfl (fun c22 => ?_) (fun c22 => ?_)
                        · skip
                          refine g_iconst 0 30 (gd rfl) rfl rfl ?_
                          refine g_thr (E := am_IA) (y := yX11_allow) 33 (gd rfl) rfl rfl (Or.inl ⟨rfl, rfl, rfl⟩) (by first | exact dq1 hd rfl | exact dq0 hd rfl | exact dq2 hd rfl | exact dq3 hd rfl | omega) (Nat.le_of_ble_eq_true rfl) (Nat.le_of_ble_eq_true rfl) (Nat.le_of_ble_eq_true rfl) (fun c30 => ?_) (fun c30 => ?_)
                          · skip
                            exact zn_ne c30 (in_c 0 rfl) rfl
                          · skip
                            have n30 : ¬ ((TWO (shC s).2.2.2.2.2.2.1 x1 x2) ∧ 0 ≤ x3.toInt ∧ x3.toInt < (shC s).2.2.2.2.2.2.1) := by first | (rw [shC_n (by rw [← e1x1]; exact c1x5)]; show ¬ (TWO (s.2.2.1 2 1).toInt x1 x2 ∧ 0 ≤ x3.toInt ∧ x3.toInt < (s.2.2.1 2 1).toInt); rw [← e_2_1]; exact (have a0 := in_u i10x10x9; have a1 := in_u i10x2x9; have a2 := in_u ro_32_1; have a3 := in_u i10x2x9a; have a4 := in_u i1x5; have a5 := in_u i19x9; have oc := oc_242_0; by omega)) | (rw [shC_d (by rw [← e1x1]; exact c1x5)]; show ¬ (TWO (s.2.2.1 32 1).toInt x1 x2 ∧ 0 ≤ x3.toInt ∧ x3.toInt < (s.2.2.1 32 1).toInt); rw [← e_32_1]; exact (have a0 := in_u i10x10x9; have a1 := in_u i10x2x9; have a2 := in_u ro_32_1; have a3 := in_u i10x2x9a; have a4 := in_u i1x5; have a5 := in_u i19x9; have oc := oc_242_0; by omega))
                            exact (hX _ _ ⟨Or.inl ⟨rfl, n30⟩, s, hI, fr_rf, rfl⟩)
                        · skip
                          exact zn_ne c22 (in_c 0 rfl) rfl
                      · skip
                        have i19x9 := r_lt1 0 31 c19x9 i19x1 i10x2x9a rfl
                        refine g_iconst 1 13 (gd rfl) rfl rfl ?_
                        refine g_goto 17 (gd rfl) rfl ?_
                        refine g_ireturn (gd rfl) rfl (nb01 (in_w 0 1 (in_c 1 rfl) rfl)) (hp19 _ _ ?_)
                        show GG _ _ _ _ _ _ _ _ [.int (Int32.ofInt 1)] _ _ _
                        refine g_if_eq 25 29 (gd rfl) rfl rfl (fun c22 => ?_) (fun c22 => ?_)
                        · skip
                          exact zn_eq c22 (in_c 1 rfl) rfl
                        · skip
                          refine g_iconst 1 26 (gd rfl) rfl rfl ?_
                          refine g_goto 30 (gd rfl) rfl ?_
                          refine g_thr (E := am_IA) (y := yX11_allow) 33 (gd rfl) rfl rfl (Or.inl ⟨rfl, rfl, rfl⟩) (by first | exact dq1 hd rfl | exact dq0 hd rfl | exact dq2 hd rfl | exact dq3 hd rfl | omega) (Nat.le_of_ble_eq_true rfl) (Nat.le_of_ble_eq_true rfl) (Nat.le_of_ble_eq_true rfl) (fun c30 => ?_) (fun c30 => ?_)
                          · skip
                            refine g_aload_n 34 (gd rfl) rfl rfl ?_
                            refine g_getA (q2 := 65) 37 (gd rfl) rfl rfl rfl rfl ?_
                            refine g_aload 39 (gd rfl) rfl rfl ?_
                            refine g_iload_n 40 (gd rfl) rfl rfl ?_
                            refine g_iload_n 41 (gd rfl) rfl rfl ?_
                            have p41 : TQ s := by first | exact q_0 | exact q_1
                            have p41a : FLB (gvC s) s := by first | (rw [← shC_n (by rw [← e1x1]; exact c1x5)]; exact q_2) | (rw [← shC_d (by rw [← e1x1]; exact c1x5)]; exact q_2)
                            have p41b : (x1).toInt ≠ (x2).toInt := by exact (have a0 := in_u i19x9; have a1 := in_u i10x10x9; have a2 := in_u i10x2x9; have a3 := in_u ro_32_1; have a4 := in_u i10x2x9a; have a5 := in_u i1x5; have oc := oc_242_0; by omega)
                            refine g_callv (X := _) (As := [.ref (A 2), .int x1, .int x2]) (r := []) (b := A 65) (q := 65) 44 (gd rfl) rfl rfl rfl rfl rfl (ww_o rfl) (Nat.le_of_ble_eq_true rfl) (Nat.zero_le _) (Nat.zero_le _) (f_75_65_2 (by first | exact dq1 hd rfl | exact dq0 hd rfl | exact dq2 hd rfl | exact dq3 hd rfl | omega) hI (in_w 0 31 i10x2x9 rfl) (in_w 0 31 i10x10x9 rfl) p41 p41a p41b) (fun e u h => h) (fun v u h => ?_)
                            obtain ⟨s41, hI41, hF41, z41, rfl, rfl, p41c, p41d⟩ := h
                            show GG _ _ _ _ _ _ _ _ [.long z41] _ _ _
                            refine g_pop2 45 (gd rfl) rfl rfl ?_
                            refine g_aload_n 46 (gd rfl) rfl rfl ?_
                            refine g_getA (q2 := 65) 49 (gd rfl) rfl rfl rfl rfl ?_
                            refine g_getI 52 (gd rfl) rfl rfl rfl (fun z49 e49 => ?_)
                            refine g_iload_n 53 (gd rfl) rfl rfl ?_
                            refine g_ishr 54 (gd rfl) rfl (fun z53 e53 => ?_)
                            refine g_iconst 1 55 (gd rfl) rfl rfl ?_
                            refine g_iand 56 (gd rfl) rfl (fun z55 e55 => ?_)
                            have i55 := in_and2 e55 (in_c 1 rfl) rfl
                            refine g_if_eq 59 63 (gd rfl) rfl rfl (fun c56 => ?_) (fun c56 => ?_)
                            · skip
                              have i56 := z_eq 0 0 c56 i55 rfl
                              refine g_iconst 0 64 (gd rfl) rfl rfl ?_
                              have n64 : ((TWO (shC s).2.2.2.2.2.2.1 x1 x2) ∧ 0 ≤ x3.toInt ∧ x3.toInt < (shC s).2.2.2.2.2.2.1) ∧ SDV (shC s) x1.toNatClampNeg x2.toNatClampNeg x3.toNatClampNeg ((Int32.ofInt 0)).toInt := by first | (rw [shC_n (by rw [← e1x1]; exact c1x5)]; refine ⟨⟨⟨⟨by exact (have a0 := in_u i19x9; have a1 := in_u i10x10x9; have a2 := in_u i10x2x9; have a3 := in_u ro_32_1; have a4 := in_u i10x2x9a; have a5 := in_u i1x5; have oc := oc_242_0; by omega), by show x1.toInt < (s.2.2.1 2 1).toInt; rw [← e_2_1]; exact (have a0 := in_u i19x9; have a1 := in_u i10x10x9; have a2 := in_u i10x2x9; have a3 := in_u ro_32_1; have a4 := in_u i10x2x9a; have a5 := in_u i1x5; have oc := oc_242_0; by omega)⟩, ⟨by exact (have a0 := in_u i19x9; have a1 := in_u i10x10x9; have a2 := in_u i10x2x9; have a3 := in_u ro_32_1; have a4 := in_u i10x2x9a; have a5 := in_u i1x5; have oc := oc_242_0; by omega), by show x2.toInt < (s.2.2.1 2 1).toInt; rw [← e_2_1]; exact (have a0 := in_u i19x9; have a1 := in_u i10x10x9; have a2 := in_u i10x2x9; have a3 := in_u ro_32_1; have a4 := in_u i10x2x9a; have a5 := in_u i1x5; have oc := oc_242_0; by omega)⟩, by exact (have a0 := in_u i19x9; have a1 := in_u i10x10x9; have a2 := in_u i10x2x9; have a3 := in_u ro_32_1; have a4 := in_u i10x2x9a; have a5 := in_u i1x5; have oc := oc_242_0; by omega)⟩, by exact (have a0 := in_u i19x9; have a1 := in_u i10x10x9; have a2 := in_u i10x2x9; have a3 := in_u ro_32_1; have a4 := in_u i10x2x9a; have a5 := in_u i1x5; have oc := oc_242_0; by omega), by show x3.toInt < (s.2.2.1 2 1).toInt; rw [← e_2_1]; exact (have a0 := in_u i19x9; have a1 := in_u i10x10x9; have a2 := in_u i10x2x9; have a3 := in_u ro_32_1; have a4 := in_u i10x2x9a; have a5 := in_u i1x5; have oc := oc_242_0; by omega)⟩, ?_⟩; (first | exact sdv_0 p41c e49 (bt_f0 (bt_ask e53 e55 i19x9) c56) rfl | exact sdv_1 p41c e49 (bt_t1 (bt_ask e53 e55 i19x9) c56) rfl)) | (rw [shC_d (by rw [← e1x1]; exact c1x5)]; refine ⟨⟨⟨⟨by exact (have a0 := in_u i19x9; have a1 := in_u i10x10x9; have a2 := in_u i10x2x9; have a3 := in_u ro_32_1; have a4 := in_u i10x2x9a; have a5 := in_u i1x5; have oc := oc_242_0; by omega), by show x1.toInt < (s.2.2.1 32 1).toInt; rw [← e_32_1]; exact (have a0 := in_u i19x9; have a1 := in_u i10x10x9; have a2 := in_u i10x2x9; have a3 := in_u ro_32_1; have a4 := in_u i10x2x9a; have a5 := in_u i1x5; have oc := oc_242_0; by omega)⟩, ⟨by exact (have a0 := in_u i19x9; have a1 := in_u i10x10x9; have a2 := in_u i10x2x9; have a3 := in_u ro_32_1; have a4 := in_u i10x2x9a; have a5 := in_u i1x5; have oc := oc_242_0; by omega), by show x2.toInt < (s.2.2.1 32 1).toInt; rw [← e_32_1]; exact (have a0 := in_u i19x9; have a1 := in_u i10x10x9; have a2 := in_u i10x2x9; have a3 := in_u ro_32_1; have a4 := in_u i10x2x9a; have a5 := in_u i1x5; have oc := oc_242_0; by omega)⟩, by exact (have a0 := in_u i19x9; have a1 := in_u i10x10x9; have a2 := in_u i10x2x9; have a3 := in_u ro_32_1; have a4 := in_u i10x2x9a; have a5 := in_u i1x5; have oc := oc_242_0; by omega)⟩, by exact (have a0 := in_u i19x9; have a1 := in_u i10x10x9; have a2 := in_u i10x2x9; have a3 := in_u ro_32_1; have a4 := in_u i10x2x9a; have a5 := in_u i1x5; have oc := oc_242_0; by omega), by show x3.toInt < (s.2.2.1 32 1).toInt; rw [← e_32_1]; exact (have a0 := in_u i19x9; have a1 := in_u i10x10x9; have a2 := in_u i10x2x9; have a3 := in_u ro_32_1; have a4 := in_u i10x2x9a; have a5 := in_u i1x5; have oc := oc_242_0; by omega)⟩, ?_⟩; (first | exact sdv_0 p41c e49 (bt_f0 (bt_ask e53 e55 i19x9) c56) rfl | exact sdv_1 p41c e49 (bt_t1 (bt_ask e53 e55 i19x9) c56) rfl))
                              have n64a : FLQ (shC s) s41 := by first | (rw [shC_n (by rw [← e1x1]; exact c1x5)]; exact p41c.1) | (rw [shC_d (by rw [← e1x1]; exact c1x5)]; exact p41c.1)
                              exact g_ireturn (gd rfl) rfl (nb01 (in_w 0 1 (in_c 0 rfl) rfl)) (hP _ _ ⟨s41, hI41, (fr_tr rfl fr_rf hF41), (Int32.ofInt 0), rfl, rfl, in_w 0 1 (in_c 0 rfl) rfl, n64, n64a⟩)
                            · skip
                              have i56 := z_ne 1 1 c56 i55 rfl
                              refine g_iconst 1 60 (gd rfl) rfl rfl ?_
                              refine g_goto 64 (gd rfl) rfl ?_
                              have n64 : ((TWO (shC s).2.2.2.2.2.2.1 x1 x2) ∧ 0 ≤ x3.toInt ∧ x3.toInt < (shC s).2.2.2.2.2.2.1) ∧ SDV (shC s) x1.toNatClampNeg x2.toNatClampNeg x3.toNatClampNeg ((Int32.ofInt 1)).toInt := by first | (rw [shC_n (by rw [← e1x1]; exact c1x5)]; refine ⟨⟨⟨⟨by exact (have a0 := in_u i19x9; have a1 := in_u i10x10x9; have a2 := in_u i10x2x9; have a3 := in_u ro_32_1; have a4 := in_u i10x2x9a; have a5 := in_u i1x5; have oc := oc_242_0; by omega), by show x1.toInt < (s.2.2.1 2 1).toInt; rw [← e_2_1]; exact (have a0 := in_u i19x9; have a1 := in_u i10x10x9; have a2 := in_u i10x2x9; have a3 := in_u ro_32_1; have a4 := in_u i10x2x9a; have a5 := in_u i1x5; have oc := oc_242_0; by omega)⟩, ⟨by exact (have a0 := in_u i19x9; have a1 := in_u i10x10x9; have a2 := in_u i10x2x9; have a3 := in_u ro_32_1; have a4 := in_u i10x2x9a; have a5 := in_u i1x5; have oc := oc_242_0; by omega), by show x2.toInt < (s.2.2.1 2 1).toInt; rw [← e_2_1]; exact (have a0 := in_u i19x9; have a1 := in_u i10x10x9; have a2 := in_u i10x2x9; have a3 := in_u ro_32_1; have a4 := in_u i10x2x9a; have a5 := in_u i1x5; have oc := oc_242_0; by omega)⟩, by exact (have a0 := in_u i19x9; have a1 := in_u i10x10x9; have a2 := in_u i10x2x9; have a3 := in_u ro_32_1; have a4 := in_u i10x2x9a; have a5 := in_u i1x5; have oc := oc_242_0; by omega)⟩, by exact (have a0 := in_u i19x9; have a1 := in_u i10x10x9; have a2 := in_u i10x2x9; have a3 := in_u ro_32_1; have a4 := in_u i10x2x9a; have a5 := in_u i1x5; have oc := oc_242_0; by omega), by show x3.toInt < (s.2.2.1 2 1).toInt; rw [← e_2_1]; exact (have a0 := in_u i19x9; have a1 := in_u i10x10x9; have a2 := in_u i10x2x9; have a3 := in_u ro_32_1; have a4 := in_u i10x2x9a; have a5 := in_u i1x5; have oc := oc_242_0; by omega)⟩, ?_⟩; (first | exact sdv_0 p41c e49 (bt_f0 (bt_ask e53 e55 i19x9) c56) rfl | exact sdv_1 p41c e49 (bt_t1 (bt_ask e53 e55 i19x9) c56) rfl)) | (rw [shC_d (by rw [← e1x1]; exact c1x5)]; refine ⟨⟨⟨⟨by exact (have a0 := in_u i19x9; have a1 := in_u i10x10x9; have a2 := in_u i10x2x9; have a3 := in_u ro_32_1; have a4 := in_u i10x2x9a; have a5 := in_u i1x5; have oc := oc_242_0; by omega), by show x1.toInt < (s.2.2.1 32 1).toInt; rw [← e_32_1]; exact (have a0 := in_u i19x9; have a1 := in_u i10x10x9; have a2 := in_u i10x2x9; have a3 := in_u ro_32_1; have a4 := in_u i10x2x9a; have a5 := in_u i1x5; have oc := oc_242_0; by omega)⟩, ⟨by exact (have a0 := in_u i19x9; have a1 := in_u i10x10x9; have a2 := in_u i10x2x9; have a3 := in_u ro_32_1; have a4 := in_u i10x2x9a; have a5 := in_u i1x5; have oc := oc_242_0; by omega), by show x2.toInt < (s.2.2.1 32 1).toInt; rw [← e_32_1]; exact (have a0 := in_u i19x9; have a1 := in_u i10x10x9; have a2 := in_u i10x2x9; have a3 := in_u ro_32_1; have a4 := in_u i10x2x9a; have a5 := in_u i1x5; have oc := oc_242_0; by omega)⟩, by exact (have a0 := in_u i19x9; have a1 := in_u i10x10x9; have a2 := in_u i10x2x9; have a3 := in_u ro_32_1; have a4 := in_u i10x2x9a; have a5 := in_u i1x5; have oc := oc_242_0; by omega)⟩, by exact (have a0 := in_u i19x9; have a1 := in_u i10x10x9; have a2 := in_u i10x2x9; have a3 := in_u ro_32_1; have a4 := in_u i10x2x9a; have a5 := in_u i1x5; have oc := oc_242_0; by omega), by show x3.toInt < (s.2.2.1 32 1).toInt; rw [← e_32_1]; exact (have a0 := in_u i19x9; have a1 := in_u i10x10x9; have a2 := in_u i10x2x9; have a3 := in_u ro_32_1; have a4 := in_u i10x2x9a; have a5 := in_u i1x5; have oc := oc_242_0; by omega)⟩, ?_⟩; (first | exact sdv_0 p41c e49 (bt_f0 (bt_ask e53 e55 i19x9) c56) rfl | exact sdv_1 p41c e49 (bt_t1 (bt_ask e53 e55 i19x9) c56) rfl))
                              have n64a : FLQ (shC s) s41 := by first | (rw [shC_n (by rw [← e1x1]; exact c1x5)]; exact p41c.1) | (rw [shC_d (by rw [← e1x1]; exact c1x5)]; exact p41c.1)
                              exact g_ireturn (gd rfl) rfl (nb01 (in_w 0 1 (in_c 1 rfl) rfl)) (hP _ _ ⟨s41, hI41, (fr_tr rfl fr_rf hF41), (Int32.ofInt 1), rfl, rfl, in_w 0 1 (in_c 1 rfl) rfl, n64, n64a⟩)
                          · skip
                            exact zn_eq c30 (in_c 1 rfl) rfl

theorem oc_79_65_2 : (Int32.ofInt (-1)).toInt = (-1) ∧ (Int32.ofInt 0).toInt = 0 ∧ (Int32.ofInt 1).toInt = 1 ∧ (Int32.ofInt 16).toInt = 16 ∧ (Int32.ofInt 65536).toInt = 65536 ∧ (Int32.ofInt 1048576).toInt = 1048576 ∧ (Int64.ofInt 9000000000000000).toInt = 9000000000000000 := ⟨rfl, rfl, rfl, rfl, rfl, rfl, rfl⟩
/-- GraphHouse$Flows.cheapest -/
theorem f_79_65_2 {Z : AmZ} {A : Nat → Nat} {s : GS} {ex : va_W} {d : Nat} {X : AmX} {x2 : Int32} {x3 : Int32} {x4 : Int32} (hd : 6 ≤ d) (hI : Inv s) (h2 : In x2 0 31) (h3 : In x3 0 31) (h4 : In x4 0 200000000) (q_0 : TQ s) (q_1 : FLB (gvC s) s) (q_2 : (x2).toInt ≠ (x3).toInt) : GC Z d 79 [.ref (A 65), .ref (A 2), .int x2, .int x3, .int x4] (WW Z A s ++ ex) 0 0 (fun v u => ∃ t : GS, Inv t ∧ Fr fm_79_65_2 s t ∧ ∃ z : Int64, v = some (.long z) ∧ u = WW Z A t ++ ex ∧ (FLQ (gvC s) t)) X := by
  intro post xp hP hX
  obtain ⟨u_2_1, e_2_1⟩ : ∃ w, w = s.2.2.1 2 1 := ⟨_, rfl⟩
  have ro_2_1 := inv_F hI 0 32 rfl e_2_1
  have ct94 : ∀ (k94 : Nat) (sc94 : GS) (y94_5 : Int64) (y94_7 : Int32) (y94_8 : Int32), Inv sc94 → Fr fm_79_65_2 s sc94 → (In y94_7 1 1048576) → (In y94_8 0 160) → (FLQ (gvC s) sc94) → 160 - (y94_8).toInt < (k94 : Int) → GG Z (d - 1) 79 post (gx xp) (1 + k94 * 900) 94 (fun j => xlook j [(0, .ref (A 65)), (1, .ref (A 2)), (2, .int x2), (3, .int x3), (4, .int x4), (5, .long y94_5), (7, .int y94_7), (8, .int y94_8)]) [] (WW Z A sc94 ++ ex) 0 0 := by
    intro k94
    induction k94 with
    | zero => intro sc94 y94_5 y94_7 y94_8 hIc94 hFc94 j94_7 j94_8 g94_0 mm94; exact m_no mm94 j94_8 rfl
    | succ k94 ih94 =>
      intro sc94 y94_5 y94_7 y94_8 hIc94 hFc94 j94_7 j94_8 g94_0 mm94
      refine gg_w (M := 1 + k94 * 900 + 900) gws ?_
      refine g_iload 96 (gd rfl) rfl rfl ?_
      refine g_aload_n 97 (gd rfl) rfl rfl ?_
      refine g_getI 100 (gd rfl) rfl rfl rfl (fun z97 e97 => ?_)
      have i97 := inv_F hIc94 0 160 rfl e97
      refine g_cmp_ge 103 131 (gd rfl) rfl rfl (fun c100 => ?_) (fun c100 => ?_)
      · skip
        refine g_lload 133 (gd rfl) rfl rfl ?_
        have n133 : FLQ (gvC s) sc94 := by exact g94_0
        exact g_lreturn (gd rfl) rfl (hP _ _ ⟨sc94, hIc94, hFc94, y94_5, rfl, rfl, n133⟩)
      · skip
        have i100 := r_lt1 0 159 c100 j94_8 i97 rfl
        have i100a := r_lt2 1 160 c100 j94_8 i97 rfl
        refine g_lload 105 (gd rfl) rfl rfl ?_
        refine g_aload_n 106 (gd rfl) rfl rfl ?_
        refine g_getA (q2 := 71) 109 (gd rfl) rfl rfl rfl rfl ?_
        refine g_iload 111 (gd rfl) rfl rfl ?_
        refine g_iaload 112 (gd rfl) rfl (n := 160) rfl (in_ix i100 rfl) (fun z111 e111 => ?_)
        have i111 := inv_I hIc94 (n := 160) (t := 0) (-1000000) 1000000 rfl (in_ix i100 rfl) rfl e111
        refine g_i2l 113 (gd rfl) rfl (fun z112 e112 => ?_)
        have i112 := l_i e112 i111
        refine g_aload_n 114 (gd rfl) rfl rfl ?_
        refine g_getA (q2 := 73) 117 (gd rfl) rfl rfl rfl rfl ?_
        refine g_iload 119 (gd rfl) rfl rfl ?_
        refine g_iaload 120 (gd rfl) rfl (n := 160) rfl (in_ix i100 rfl) (fun z119 e119 => ?_)
        refine g_i2l 121 (gd rfl) rfl (fun z120 e120 => ?_)
        have i120 := l_i e120 (i_rng z119)
        refine g_lmul 122 (gd rfl) rfl (fun z121 e121 => ?_)
        refine g_ladd 123 (gd rfl) rfl (fun z122 e122 => ?_)
        refine g_lstore 125 (gd rfl) rfl (Nat.le_of_ble_eq_true rfl) ?_
        refine g_iinc 128 (gd rfl) rfl rfl (Nat.le_of_ble_eq_true rfl) (fun z125 e125 => ?_)
        have i125 := in_add 1 160 e125 i100 (in_c 1 rfl) rfl rfl
        refine g_goto 94 (gd rfl) rfl ?_
        have n94 : FLQ (gvC s) sc94 := by exact g94_0
        exact gg_w (by first | exact Nat.le_add_right _ _ | exact gw2 | exact gw3 | exact gwe rfl | exact gwf rfl | exact gwg rfl | exact gwh rfl | omega) (gg_f (gf_cons rfl (gf_cons rfl (gf_cons rfl (gf_cons rfl (gf_cons rfl (gf_cons rfl (gf_cons rfl (gf_cons rfl gf_nil)))))))) (ih94 sc94 z122 y94_7 z125 hIc94 hFc94 (in_w 1 1048576 j94_7 rfl) (in_w 0 160 i125 rfl) n94 (m_up mm94 (t_add e125 i100 (in_c 1 rfl) rfl) (in_w 1 1 (in_c 1 rfl) rfl))))
  have ct50 : ∀ (k50 : Nat) (sc50 : GS) (y50_5 : Int64) (y50_7 : Int32) (y50_8 : Int32), Inv sc50 → Fr fm_79_65_2 s sc50 → (In y50_7 1 1048576) → (In y50_8 0 65536) → (FLQ (gvC s) sc50) → (y50_8).toInt < (k50 : Int) → GG Z (d - 1) 79 post (gx xp) (144902 + k50 * 900) 50 (fun j => xlook j [(0, .ref (A 65)), (1, .ref (A 2)), (2, .int x2), (3, .int x3), (4, .int x4), (5, .long y50_5), (7, .int y50_7), (8, .int y50_8)]) [] (WW Z A sc50 ++ ex) 0 0 := by
    intro k50
    induction k50 with
    | zero => intro sc50 y50_5 y50_7 y50_8 hIc50 hFc50 j50_7 j50_8 g50_0 mm50; exfalso; have a0 := h3; unfold In at a0; have a1 := h2; unfold In at a1; have a2 := ro_2_1; unfold In at a2; have a3 := j50_8; unfold In at a3; have a4 := j50_7; unfold In at a4; have a5 := h4; unfold In at a5; have oc := oc_79_65_2; omega
    | succ k50 ih50 =>
      intro sc50 y50_5 y50_7 y50_8 hIc50 hFc50 j50_7 j50_8 g50_0 mm50
      refine gg_w (M := 144902 + k50 * 900 + 900) gws ?_
      refine g_iload 52 (gd rfl) rfl rfl ?_
      refine g_if_le 55 91 (gd rfl) rfl rfl (fun c52 => ?_) (fun c52 => ?_)
      · skip
        have i52 := z_le 0 0 c52 j50_8 rfl
        refine g_iconst 0 92 (gd rfl) rfl rfl ?_
        refine g_istore 94 (gd rfl) rfl (Nat.le_of_ble_eq_true rfl) ?_
        have n94 : FLQ (gvC s) sc50 := by exact g50_0
        exact gg_w (by first | exact Nat.le_add_right _ _ | exact gw2 | exact gw3 | exact gwe rfl | exact gwf rfl | exact gwg rfl | exact gwh rfl | omega) (gg_f (gf_cons rfl (gf_cons rfl (gf_cons rfl (gf_cons rfl (gf_cons rfl (gf_cons rfl (gf_cons rfl (gf_cons rfl gf_nil)))))))) (ct94 161 sc50 y50_5 y50_7 (Int32.ofInt 0) hIc50 hFc50 (in_w 1 1048576 j50_7 rfl) (in_w 0 160 (in_c 0 rfl) rfl) n94 (m_in 161 (in_w 0 160 (in_c 0 rfl) rfl) rfl)))
      · skip
        have i52 := z_gt 1 65536 c52 j50_8 rfl
        refine g_aload_n 56 (gd rfl) rfl rfl ?_
        refine g_aload_n 57 (gd rfl) rfl rfl ?_
        refine g_getI 60 (gd rfl) rfl rfl rfl (fun z57 e57 => ?_)
        have q57 : u_2_1 = z57 := (fr_F e_2_1 hFc50 rfl).trans e57.symm
        subst q57
        refine g_iload 62 (gd rfl) rfl rfl ?_
        refine g_iload 64 (gd rfl) rfl rfl ?_
        refine g_callv (X := _) (As := [.int u_2_1, .int y50_7, .int y50_8]) (r := []) (b := A 65) (q := 65) 67 (gd rfl) rfl rfl rfl rfl rfl (ww_o rfl) (Nat.le_of_ble_eq_true rfl) (Nat.zero_le _) (Nat.zero_le _) (k_81_65 (by first | exact dq1 hd rfl | exact dq0 hd rfl | exact dq2 hd rfl | exact dq3 hd rfl | omega) hIc50 (in_w 0 32 ro_2_1 rfl) (in_w 1 1048576 j50_7 rfl) (in_w 1 65536 i52 rfl)) (fun e u h => h) (fun v u h => ?_)
        obtain ⟨s64, hI64, hF64, rfl, rfl⟩ := h
        show GG _ _ _ _ _ _ _ _ [] _ _ _
        refine g_aload_n 68 (gd rfl) rfl rfl ?_
        refine g_aload_n 69 (gd rfl) rfl rfl ?_
        refine g_getI 72 (gd rfl) rfl rfl rfl (fun z69 e69 => ?_)
        have q69 : u_2_1 = z69 := (fr_F (fr_F e_2_1 hFc50 rfl) hF64 rfl).trans e69.symm
        subst q69
        refine g_iload 74 (gd rfl) rfl rfl ?_
        refine g_callv (X := _) (As := [.int u_2_1, .int y50_8]) (r := []) (b := A 65) (q := 65) 77 (gd rfl) rfl rfl rfl rfl rfl (ww_o rfl) (Nat.le_of_ble_eq_true rfl) (Nat.zero_le _) (Nat.zero_le _) (k_83_65 (by first | exact dq1 hd rfl | exact dq0 hd rfl | exact dq2 hd rfl | exact dq3 hd rfl | omega) hI64 (in_w 0 32 ro_2_1 rfl) (in_w 1 65536 i52 rfl)) (fun e u h => h) (fun v u h => ?_)
        obtain ⟨s74, hI74, hF74, rfl, rfl⟩ := h
        show GG _ _ _ _ _ _ _ _ [] _ _ _
        refine g_iload 79 (gd rfl) rfl rfl ?_
        refine g_istore 81 (gd rfl) rfl (Nat.le_of_ble_eq_true rfl) ?_
        refine g_iload 83 (gd rfl) rfl rfl ?_
        refine g_bipush 16 85 (gd rfl) rfl rfl ?_
        refine g_idiv 86 (gd rfl) rfl (by decide) (fun z85 e85 => ?_)
        have i85 := in_div 0 4096 e85 i52 rfl rfl
        refine g_istore 88 (gd rfl) rfl (Nat.le_of_ble_eq_true rfl) ?_
        refine g_goto 50 (gd rfl) rfl ?_
        have n50 : FLQ (gvC s) s74 := by exact flq_fr (flq_fr g50_0 hF64 rfl) hF74 rfl
        have m50 : (z85).toInt < ((k50 : Nat) : Int) := by exact (have a0 := in_u h3; have a1 := in_u h2; have a2 := in_u ro_2_1; have a3 := in_u i52; have a4 := in_u j50_7; have a5 := in_u i85; have a6 := t_div e85 i52 rfl; have a7 := in_u h4; have oc := oc_79_65_2; by omega)
        exact gg_w (by first | exact Nat.le_add_right _ _ | exact gw2 | exact gw3 | exact gwe rfl | exact gwf rfl | exact gwg rfl | exact gwh rfl | omega) (gg_f (gf_cons rfl (gf_cons rfl (gf_cons rfl (gf_cons rfl (gf_cons rfl (gf_cons rfl (gf_cons rfl (gf_cons rfl gf_nil)))))))) (ih50  s74 y50_5 y50_8 z85 hI74 (fr_tr rfl (fr_tr rfl hFc50 hF64) hF74) (in_w 1 1048576 i52 rfl) (in_w 0 65536 i85 rfl) n50 m50))
  refine g_enter2 (k := 79) (N := 63145802) (by first | exact dq1 hd rfl | exact dq0 hd rfl | exact dq2 hd rfl | exact dq3 hd rfl | omega) rfl (Nat.le_of_ble_eq_true rfl) ?_
  refine g_iload 2 (gd rfl) rfl rfl ?_
  refine g_i2l 3 (gd rfl) rfl (fun z2 e2 => ?_)
  have i2 := l_i e2 h4
  refine g_aload_n 4 (gd rfl) rfl rfl ?_
  refine g_aload_n 5 (gd rfl) rfl rfl ?_
  refine g_iload_n 6 (gd rfl) rfl rfl ?_
  refine g_iload_n 7 (gd rfl) rfl rfl ?_
  have p7 : TQ s := by exact q_0
  have p7a : FLB (gvC s) s := by exact q_1
  have p7b : (x2).toInt ≠ (x3).toInt := by exact q_2
  refine g_callv (X := _) (As := [.ref (A 2), .int x2, .int x3]) (r := [.long z2]) (b := A 65) (q := 65) 10 (gd rfl) rfl rfl rfl rfl rfl (ww_o rfl) (Nat.le_of_ble_eq_true rfl) (Nat.zero_le _) (Nat.zero_le _) (f_75_65_2 (by first | exact dq1 hd rfl | exact dq0 hd rfl | exact dq2 hd rfl | exact dq3 hd rfl | omega) hI (in_w 0 31 h2 rfl) (in_w 0 31 h3 rfl) p7 p7a p7b) (fun e u h => h) (fun v u h => ?_)
  obtain ⟨s7, hI7, hF7, z7, rfl, rfl, p7c, p7d⟩ := h
  show GG _ _ _ _ _ _ _ _ [.long z7, .long z2] _ _ _
  refine g_lcmp 11 (gd rfl) rfl (fun z10 e10 => ?_)
  have i10 := lc_in e10
  refine g_if_le 14 18 (gd rfl) rfl rfl (fun c11 => ?_) (fun c11 => ?_)
  · skip
    have i11 := z_le (-1) 0 c11 i10 rfl
    have c11a := lc_le e10 c11
    have i11a := lr_le2 0 9223372036854775807 c11a i2 (l_rng z7) rfl
    refine g_aload_n 19 (gd rfl) rfl rfl ?_
    refine g_aload_n 20 (gd rfl) rfl rfl ?_
    refine g_callv (X := _) (As := [.ref (A 2)]) (r := []) (b := A 65) (q := 65) 23 (gd rfl) rfl rfl rfl rfl rfl (ww_o rfl) (Nat.le_of_ble_eq_true rfl) (Nat.zero_le _) (Nat.zero_le _) (k_80_65_2 (by first | exact dq1 hd rfl | exact dq0 hd rfl | exact dq2 hd rfl | exact dq3 hd rfl | omega) hI7 ) (fun e u h => h) (fun v u h => ?_)
    obtain ⟨s20, hI20, hF20, z20, rfl, rfl⟩ := h
    show GG _ _ _ _ _ _ _ _ [.long z20] _ _ _
    refine g_lstore 25 (gd rfl) rfl (Nat.le_of_ble_eq_true rfl) ?_
    refine g_aload_n 26 (gd rfl) rfl rfl ?_
    refine g_getA (q2 := 74) 29 (gd rfl) rfl rfl rfl rfl ?_
    refine g_iload_n 30 (gd rfl) rfl rfl ?_
    refine g_iload 32 (gd rfl) rfl rfl ?_
    refine g_iastore 33 (gd rfl) rfl (n := 32) rfl (in_ix h2 rfl) ?_
    have hI32 := inv_sI (q := 74) (j := x2.toNatClampNeg) hI20 rfl (in_w (-2147483648) 2147483647 h4 rfl)
    refine g_aload_n 34 (gd rfl) rfl rfl ?_
    refine g_getA (q2 := 74) 37 (gd rfl) rfl rfl rfl rfl ?_
    refine g_iload_n 38 (gd rfl) rfl rfl ?_
    refine g_iload 40 (gd rfl) rfl rfl ?_
    refine g_ineg 41 (gd rfl) rfl (fun z40 e40 => ?_)
    have i40 := in_neg (-200000000) 0 e40 h4 rfl
    refine g_iastore 42 (gd rfl) rfl (n := 32) rfl (in_ix h3 rfl) ?_
    have hI41 := inv_sI (q := 74) (j := x3.toNatClampNeg) hI32 rfl (in_w (-2147483648) 2147483647 i40 rfl)
    refine g_ldc 1048576 44 (gd rfl) rfl rfl ?_
    refine g_istore 46 (gd rfl) rfl (Nat.le_of_ble_eq_true rfl) ?_
    refine g_ldc 65536 48 (gd rfl) rfl rfl ?_
    refine g_istore 50 (gd rfl) rfl (Nat.le_of_ble_eq_true rfl) ?_
    have n50 : FLQ (gvC s) (sI (sI s20 74 x2.toNatClampNeg x4) 74 x3.toNatClampNeg z40) := by exact flq_sI (flq_sI (flq_fr p7c.1 hF20 rfl))
    have m50 : ((Int32.ofInt 65536)).toInt < ((70000 : Nat) : Int) := by exact (have a0 := in_u ro_2_1; have a1 := in_u h3; have a2 := in_u h2; have a3 := in_u ((in_c 65536 rfl)); have a4 := in_u ((in_c 1048576 rfl)); have a5 := in_u h4; have a6 := tx_i2l e2; have oc := oc_79_65_2; by omega)
    exact gg_w (by first | exact Nat.le_of_ble_eq_true rfl | omega) (gg_f (gf_cons rfl (gf_cons rfl (gf_cons rfl (gf_cons rfl (gf_cons rfl (gf_cons rfl (gf_cons rfl (gf_cons rfl gf_nil)))))))) (ct50 70000 (sI (sI s20 74 x2.toNatClampNeg x4) 74 x3.toNatClampNeg z40) z20 (Int32.ofInt 1048576) (Int32.ofInt 65536) hI41 (fr_sI rfl (fr_sI rfl (fr_tr rfl (fr_tr rfl fr_rf hF7) hF20))) (in_w 1 1048576 (in_c 1048576 rfl) rfl) (in_w 0 65536 (in_c 65536 rfl) rfl) n50 m50))
  · skip
    have i11 := z_gt 1 1 c11 i10 rfl
    have c11a := lc_gt e10 c11
    have i11a := lr_lt1 (-9223372036854775808) 199999999 c11a (l_rng z7) i2 rfl
    refine g_ldc2_w 9000000000000000 17 (gd rfl) rfl rfl ?_
    have n17 : FLQ (gvC s) s7 := by exact p7c.1
    exact g_lreturn (gd rfl) rfl (hP _ _ ⟨s7, hI7, (fr_tr rfl fr_rf hF7), (Int64.ofInt 9000000000000000), rfl, rfl, n17⟩)

theorem oc_79_65_32 : (Int32.ofInt (-1)).toInt = (-1) ∧ (Int32.ofInt 0).toInt = 0 ∧ (Int32.ofInt 1).toInt = 1 ∧ (Int32.ofInt 16).toInt = 16 ∧ (Int32.ofInt 65536).toInt = 65536 ∧ (Int32.ofInt 1048576).toInt = 1048576 ∧ (Int64.ofInt 9000000000000000).toInt = 9000000000000000 := ⟨rfl, rfl, rfl, rfl, rfl, rfl, rfl⟩
/-- GraphHouse$Flows.cheapest -/
theorem f_79_65_32 {Z : AmZ} {A : Nat → Nat} {s : GS} {ex : va_W} {d : Nat} {X : AmX} {x2 : Int32} {x3 : Int32} {x4 : Int32} (hd : 6 ≤ d) (hI : Inv s) (h2 : In x2 0 31) (h3 : In x3 0 31) (h4 : In x4 0 200000000) (q_0 : TQD s) (q_1 : FLB (gvD s) s) (q_2 : (x2).toInt ≠ (x3).toInt) : GC Z d 79 [.ref (A 65), .ref (A 32), .int x2, .int x3, .int x4] (WW Z A s ++ ex) 0 0 (fun v u => ∃ t : GS, Inv t ∧ Fr fm_79_65_32 s t ∧ ∃ z : Int64, v = some (.long z) ∧ u = WW Z A t ++ ex ∧ (FLQ (gvD s) t)) X := by
  intro post xp hP hX
  obtain ⟨u_32_1, e_32_1⟩ : ∃ w, w = s.2.2.1 32 1 := ⟨_, rfl⟩
  have ro_32_1 := inv_F hI 0 32 rfl e_32_1
  have ct94 : ∀ (k94 : Nat) (sc94 : GS) (y94_5 : Int64) (y94_7 : Int32) (y94_8 : Int32), Inv sc94 → Fr fm_79_65_32 s sc94 → (In y94_7 1 1048576) → (In y94_8 0 160) → (FLQ (gvD s) sc94) → 160 - (y94_8).toInt < (k94 : Int) → GG Z (d - 1) 79 post (gx xp) (1 + k94 * 900) 94 (fun j => xlook j [(0, .ref (A 65)), (1, .ref (A 32)), (2, .int x2), (3, .int x3), (4, .int x4), (5, .long y94_5), (7, .int y94_7), (8, .int y94_8)]) [] (WW Z A sc94 ++ ex) 0 0 := by
    intro k94
    induction k94 with
    | zero => intro sc94 y94_5 y94_7 y94_8 hIc94 hFc94 j94_7 j94_8 g94_0 mm94; exact m_no mm94 j94_8 rfl
    | succ k94 ih94 =>
      intro sc94 y94_5 y94_7 y94_8 hIc94 hFc94 j94_7 j94_8 g94_0 mm94
      refine gg_w (M := 1 + k94 * 900 + 900) gws ?_
      refine g_iload 96 (gd rfl) rfl rfl ?_
      refine g_aload_n 97 (gd rfl) rfl rfl ?_
      refine g_getI 100 (gd rfl) rfl rfl rfl (fun z97 e97 => ?_)
      have i97 := inv_F hIc94 0 160 rfl e97
      refine g_cmp_ge 103 131 (gd rfl) rfl rfl (fun c100 => ?_) (fun c100 => ?_)
      · skip
        refine g_lload 133 (gd rfl) rfl rfl ?_
        have n133 : FLQ (gvD s) sc94 := by exact g94_0
        exact g_lreturn (gd rfl) rfl (hP _ _ ⟨sc94, hIc94, hFc94, y94_5, rfl, rfl, n133⟩)
      · skip
        have i100 := r_lt1 0 159 c100 j94_8 i97 rfl
        have i100a := r_lt2 1 160 c100 j94_8 i97 rfl
        refine g_lload 105 (gd rfl) rfl rfl ?_
        refine g_aload_n 106 (gd rfl) rfl rfl ?_
        refine g_getA (q2 := 71) 109 (gd rfl) rfl rfl rfl rfl ?_
        refine g_iload 111 (gd rfl) rfl rfl ?_
        refine g_iaload 112 (gd rfl) rfl (n := 160) rfl (in_ix i100 rfl) (fun z111 e111 => ?_)
        have i111 := inv_I hIc94 (n := 160) (t := 0) (-1000000) 1000000 rfl (in_ix i100 rfl) rfl e111
        refine g_i2l 113 (gd rfl) rfl (fun z112 e112 => ?_)
        have i112 := l_i e112 i111
        refine g_aload_n 114 (gd rfl) rfl rfl ?_
        refine g_getA (q2 := 73) 117 (gd rfl) rfl rfl rfl rfl ?_
        refine g_iload 119 (gd rfl) rfl rfl ?_
        refine g_iaload 120 (gd rfl) rfl (n := 160) rfl (in_ix i100 rfl) (fun z119 e119 => ?_)
        refine g_i2l 121 (gd rfl) rfl (fun z120 e120 => ?_)
        have i120 := l_i e120 (i_rng z119)
        refine g_lmul 122 (gd rfl) rfl (fun z121 e121 => ?_)
        refine g_ladd 123 (gd rfl) rfl (fun z122 e122 => ?_)
        refine g_lstore 125 (gd rfl) rfl (Nat.le_of_ble_eq_true rfl) ?_
        refine g_iinc 128 (gd rfl) rfl rfl (Nat.le_of_ble_eq_true rfl) (fun z125 e125 => ?_)
        have i125 := in_add 1 160 e125 i100 (in_c 1 rfl) rfl rfl
        refine g_goto 94 (gd rfl) rfl ?_
        have n94 : FLQ (gvD s) sc94 := by exact g94_0
        exact gg_w (by first | exact Nat.le_add_right _ _ | exact gw2 | exact gw3 | exact gwe rfl | exact gwf rfl | exact gwg rfl | exact gwh rfl | omega) (gg_f (gf_cons rfl (gf_cons rfl (gf_cons rfl (gf_cons rfl (gf_cons rfl (gf_cons rfl (gf_cons rfl (gf_cons rfl gf_nil)))))))) (ih94 sc94 z122 y94_7 z125 hIc94 hFc94 (in_w 1 1048576 j94_7 rfl) (in_w 0 160 i125 rfl) n94 (m_up mm94 (t_add e125 i100 (in_c 1 rfl) rfl) (in_w 1 1 (in_c 1 rfl) rfl))))
  have ct50 : ∀ (k50 : Nat) (sc50 : GS) (y50_5 : Int64) (y50_7 : Int32) (y50_8 : Int32), Inv sc50 → Fr fm_79_65_32 s sc50 → (In y50_7 1 1048576) → (In y50_8 0 65536) → (FLQ (gvD s) sc50) → (y50_8).toInt < (k50 : Int) → GG Z (d - 1) 79 post (gx xp) (144902 + k50 * 900) 50 (fun j => xlook j [(0, .ref (A 65)), (1, .ref (A 32)), (2, .int x2), (3, .int x3), (4, .int x4), (5, .long y50_5), (7, .int y50_7), (8, .int y50_8)]) [] (WW Z A sc50 ++ ex) 0 0 := by
    intro k50
    induction k50 with
    | zero => intro sc50 y50_5 y50_7 y50_8 hIc50 hFc50 j50_7 j50_8 g50_0 mm50; exfalso; have a0 := h3; unfold In at a0; have a1 := h2; unfold In at a1; have a2 := ro_32_1; unfold In at a2; have a3 := j50_8; unfold In at a3; have a4 := j50_7; unfold In at a4; have a5 := h4; unfold In at a5; have oc := oc_79_65_32; omega
    | succ k50 ih50 =>
      intro sc50 y50_5 y50_7 y50_8 hIc50 hFc50 j50_7 j50_8 g50_0 mm50
      refine gg_w (M := 144902 + k50 * 900 + 900) gws ?_
      refine g_iload 52 (gd rfl) rfl rfl ?_
      refine g_if_le 55 91 (gd rfl) rfl rfl (fun c52 => ?_) (fun c52 => ?_)
      · skip
        have i52 := z_le 0 0 c52 j50_8 rfl
        refine g_iconst 0 92 (gd rfl) rfl rfl ?_
        refine g_istore 94 (gd rfl) rfl (Nat.le_of_ble_eq_true rfl) ?_
        have n94 : FLQ (gvD s) sc50 := by exact g50_0
        exact gg_w (by first | exact Nat.le_add_right _ _ | exact gw2 | exact gw3 | exact gwe rfl | exact gwf rfl | exact gwg rfl | exact gwh rfl | omega) (gg_f (gf_cons rfl (gf_cons rfl (gf_cons rfl (gf_cons rfl (gf_cons rfl (gf_cons rfl (gf_cons rfl (gf_cons rfl gf_nil)))))))) (ct94 161 sc50 y50_5 y50_7 (Int32.ofInt 0) hIc50 hFc50 (in_w 1 1048576 j50_7 rfl) (in_w 0 160 (in_c 0 rfl) rfl) n94 (m_in 161 (in_w 0 160 (in_c 0 rfl) rfl) rfl)))
      · skip
        have i52 := z_gt 1 65536 c52 j50_8 rfl
        refine g_aload_n 56 (gd rfl) rfl rfl ?_
        refine g_aload_n 57 (gd rfl) rfl rfl ?_
        refine g_getI 60 (gd rfl) rfl rfl rfl (fun z57 e57 => ?_)
        have q57 : u_32_1 = z57 := (fr_F e_32_1 hFc50 rfl).trans e57.symm
        subst q57
        refine g_iload 62 (gd rfl) rfl rfl ?_
        refine g_iload 64 (gd rfl) rfl rfl ?_
        refine g_callv (X := _) (As := [.int u_32_1, .int y50_7, .int y50_8]) (r := []) (b := A 65) (q := 65) 67 (gd rfl) rfl rfl rfl rfl rfl (ww_o rfl) (Nat.le_of_ble_eq_true rfl) (Nat.zero_le _) (Nat.zero_le _) (k_81_65 (by first | exact dq1 hd rfl | exact dq0 hd rfl | exact dq2 hd rfl | exact dq3 hd rfl | omega) hIc50 (in_w 0 32 ro_32_1 rfl) (in_w 1 1048576 j50_7 rfl) (in_w 1 65536 i52 rfl)) (fun e u h => h) (fun v u h => ?_)
        obtain ⟨s64, hI64, hF64, rfl, rfl⟩ := h
        show GG _ _ _ _ _ _ _ _ [] _ _ _
        refine g_aload_n 68 (gd rfl) rfl rfl ?_
        refine g_aload_n 69 (gd rfl) rfl rfl ?_
        refine g_getI 72 (gd rfl) rfl rfl rfl (fun z69 e69 => ?_)
        have q69 : u_32_1 = z69 := (fr_F (fr_F e_32_1 hFc50 rfl) hF64 rfl).trans e69.symm
        subst q69
        refine g_iload 74 (gd rfl) rfl rfl ?_
        refine g_callv (X := _) (As := [.int u_32_1, .int y50_8]) (r := []) (b := A 65) (q := 65) 77 (gd rfl) rfl rfl rfl rfl rfl (ww_o rfl) (Nat.le_of_ble_eq_true rfl) (Nat.zero_le _) (Nat.zero_le _) (k_83_65 (by first | exact dq1 hd rfl | exact dq0 hd rfl | exact dq2 hd rfl | exact dq3 hd rfl | omega) hI64 (in_w 0 32 ro_32_1 rfl) (in_w 1 65536 i52 rfl)) (fun e u h => h) (fun v u h => ?_)
        obtain ⟨s74, hI74, hF74, rfl, rfl⟩ := h
        show GG _ _ _ _ _ _ _ _ [] _ _ _
        refine g_iload 79 (gd rfl) rfl rfl ?_
        refine g_istore 81 (gd rfl) rfl (Nat.le_of_ble_eq_true rfl) ?_
        refine g_iload 83 (gd rfl) rfl rfl ?_
        refine g_bipush 16 85 (gd rfl) rfl rfl ?_
        refine g_idiv 86 (gd rfl) rfl (by decide) (fun z85 e85 => ?_)
        have i85 := in_div 0 4096 e85 i52 rfl rfl
        refine g_istore 88 (gd rfl) rfl (Nat.le_of_ble_eq_true rfl) ?_
        refine g_goto 50 (gd rfl) rfl ?_
        have n50 : FLQ (gvD s) s74 := by exact flq_fr (flq_fr g50_0 hF64 rfl) hF74 rfl
        have m50 : (z85).toInt < ((k50 : Nat) : Int) := by exact (have a0 := in_u h3; have a1 := in_u h2; have a2 := in_u ro_32_1; have a3 := in_u i52; have a4 := in_u j50_7; have a5 := in_u i85; have a6 := t_div e85 i52 rfl; have a7 := in_u h4; have oc := oc_79_65_32; by omega)
        exact gg_w (by first | exact Nat.le_add_right _ _ | exact gw2 | exact gw3 | exact gwe rfl | exact gwf rfl | exact gwg rfl | exact gwh rfl | omega) (gg_f (gf_cons rfl (gf_cons rfl (gf_cons rfl (gf_cons rfl (gf_cons rfl (gf_cons rfl (gf_cons rfl (gf_cons rfl gf_nil)))))))) (ih50  s74 y50_5 y50_8 z85 hI74 (fr_tr rfl (fr_tr rfl hFc50 hF64) hF74) (in_w 1 1048576 i52 rfl) (in_w 0 65536 i85 rfl) n50 m50))
  refine g_enter2 (k := 79) (N := 63145802) (by first | exact dq1 hd rfl | exact dq0 hd rfl | exact dq2 hd rfl | exact dq3 hd rfl | omega) rfl (Nat.le_of_ble_eq_true rfl) ?_
  refine g_iload 2 (gd rfl) rfl rfl ?_
  refine g_i2l 3 (gd rfl) rfl (fun z2 e2 => ?_)
  have i2 := l_i e2 h4
  refine g_aload_n 4 (gd rfl) rfl rfl ?_
  refine g_aload_n 5 (gd rfl) rfl rfl ?_
  refine g_iload_n 6 (gd rfl) rfl rfl ?_
  refine g_iload_n 7 (gd rfl) rfl rfl ?_
  have p7 : TQD s := by exact q_0
  have p7a : FLB (gvD s) s := by exact q_1
  have p7b : (x2).toInt ≠ (x3).toInt := by exact q_2
  refine g_callv (X := _) (As := [.ref (A 32), .int x2, .int x3]) (r := [.long z2]) (b := A 65) (q := 65) 10 (gd rfl) rfl rfl rfl rfl rfl (ww_o rfl) (Nat.le_of_ble_eq_true rfl) (Nat.zero_le _) (Nat.zero_le _) (f_75_65_32 (by first | exact dq1 hd rfl | exact dq0 hd rfl | exact dq2 hd rfl | exact dq3 hd rfl | omega) hI (in_w 0 31 h2 rfl) (in_w 0 31 h3 rfl) p7 p7a p7b) (fun e u h => h) (fun v u h => ?_)
  obtain ⟨s7, hI7, hF7, z7, rfl, rfl, p7c, p7d⟩ := h
  show GG _ _ _ _ _ _ _ _ [.long z7, .long z2] _ _ _
  refine g_lcmp 11 (gd rfl) rfl (fun z10 e10 => ?_)
  have i10 := lc_in e10
  refine g_if_le 14 18 (gd rfl) rfl rfl (fun c11 => ?_) (fun c11 => ?_)
  · skip
    have i11 := z_le (-1) 0 c11 i10 rfl
    have c11a := lc_le e10 c11
    have i11a := lr_le2 0 9223372036854775807 c11a i2 (l_rng z7) rfl
    refine g_aload_n 19 (gd rfl) rfl rfl ?_
    refine g_aload_n 20 (gd rfl) rfl rfl ?_
    refine g_callv (X := _) (As := [.ref (A 32)]) (r := []) (b := A 65) (q := 65) 23 (gd rfl) rfl rfl rfl rfl rfl (ww_o rfl) (Nat.le_of_ble_eq_true rfl) (Nat.zero_le _) (Nat.zero_le _) (k_80_65_32 (by first | exact dq1 hd rfl | exact dq0 hd rfl | exact dq2 hd rfl | exact dq3 hd rfl | omega) hI7 ) (fun e u h => h) (fun v u h => ?_)
    obtain ⟨s20, hI20, hF20, z20, rfl, rfl⟩ := h
    show GG _ _ _ _ _ _ _ _ [.long z20] _ _ _
    refine g_lstore 25 (gd rfl) rfl (Nat.le_of_ble_eq_true rfl) ?_
    refine g_aload_n 26 (gd rfl) rfl rfl ?_
    refine g_getA (q2 := 74) 29 (gd rfl) rfl rfl rfl rfl ?_
    refine g_iload_n 30 (gd rfl) rfl rfl ?_
    refine g_iload 32 (gd rfl) rfl rfl ?_
    refine g_iastore 33 (gd rfl) rfl (n := 32) rfl (in_ix h2 rfl) ?_
    have hI32 := inv_sI (q := 74) (j := x2.toNatClampNeg) hI20 rfl (in_w (-2147483648) 2147483647 h4 rfl)
    refine g_aload_n 34 (gd rfl) rfl rfl ?_
    refine g_getA (q2 := 74) 37 (gd rfl) rfl rfl rfl rfl ?_
    refine g_iload_n 38 (gd rfl) rfl rfl ?_
    refine g_iload 40 (gd rfl) rfl rfl ?_
    refine g_ineg 41 (gd rfl) rfl (fun z40 e40 => ?_)
    have i40 := in_neg (-200000000) 0 e40 h4 rfl
    refine g_iastore 42 (gd rfl) rfl (n := 32) rfl (in_ix h3 rfl) ?_
    have hI41 := inv_sI (q := 74) (j := x3.toNatClampNeg) hI32 rfl (in_w (-2147483648) 2147483647 i40 rfl)
    refine g_ldc 1048576 44 (gd rfl) rfl rfl ?_
    refine g_istore 46 (gd rfl) rfl (Nat.le_of_ble_eq_true rfl) ?_
    refine g_ldc 65536 48 (gd rfl) rfl rfl ?_
    refine g_istore 50 (gd rfl) rfl (Nat.le_of_ble_eq_true rfl) ?_
    have n50 : FLQ (gvD s) (sI (sI s20 74 x2.toNatClampNeg x4) 74 x3.toNatClampNeg z40) := by exact flq_sI (flq_sI (flq_fr p7c.1 hF20 rfl))
    have m50 : ((Int32.ofInt 65536)).toInt < ((70000 : Nat) : Int) := by exact (have a0 := in_u ro_32_1; have a1 := in_u h3; have a2 := in_u h2; have a3 := in_u ((in_c 65536 rfl)); have a4 := in_u ((in_c 1048576 rfl)); have a5 := in_u h4; have a6 := tx_i2l e2; have oc := oc_79_65_32; by omega)
    exact gg_w (by first | exact Nat.le_of_ble_eq_true rfl | omega) (gg_f (gf_cons rfl (gf_cons rfl (gf_cons rfl (gf_cons rfl (gf_cons rfl (gf_cons rfl (gf_cons rfl (gf_cons rfl gf_nil)))))))) (ct50 70000 (sI (sI s20 74 x2.toNatClampNeg x4) 74 x3.toNatClampNeg z40) z20 (Int32.ofInt 1048576) (Int32.ofInt 65536) hI41 (fr_sI rfl (fr_sI rfl (fr_tr rfl (fr_tr rfl fr_rf hF7) hF20))) (in_w 1 1048576 (in_c 1048576 rfl) rfl) (in_w 0 65536 (in_c 65536 rfl) rfl) n50 m50))
  · skip
    have i11 := z_gt 1 1 c11 i10 rfl
    have c11a := lc_gt e10 c11
    have i11a := lr_lt1 (-9223372036854775808) 199999999 c11a (l_rng z7) i2 rfl
    refine g_ldc2_w 9000000000000000 17 (gd rfl) rfl rfl ?_
    have n17 : FLQ (gvD s) s7 := by exact p7c.1
    exact g_lreturn (gd rfl) rfl (hP _ _ ⟨s7, hI7, (fr_tr rfl fr_rf hF7), (Int64.ofInt 9000000000000000), rfl, rfl, n17⟩)
end
section
/-! FUNCTIONAL CONTRACTS, by fgen.py -/
theorem oc_243_0 : (Int32.ofInt (-1)).toInt = (-1) ∧ (Int32.ofInt 0).toInt = 0 ∧ (Int32.ofInt 1).toInt = 1 ∧ (Int32.ofInt 200000000).toInt = 200000000 := ⟨rfl, rfl, rfl, rfl⟩
/-- GraphHouse.cost -/
theorem f_243_0 {Z : AmZ} {A : Nat → Nat} {s : GS} {ex : va_W} {d : Nat} {x1 : Int32} {x2 : Int32} {x3 : Int32} (hd : 7 ≤ d) (hI : Inv s) (q_0 : TQ s) (q_1 : TQD s) (q_2 : FLC s) : GC Z d 243 [.ref (A 0), .int x1, .int x2, .int x3] (WW Z A s ++ ex) 3 18 (fun v u => ∃ t : GS, Inv t ∧ Fr fm_243_0 s t ∧ ∃ z : Int64, v = some (.long z) ∧ u = WW Z A t ++ ex ∧ (((TWO (shC s).2.2.2.2.2.2.1 x1 x2) ∧ 0 ≤ x3.toInt ∧ x3.toInt ≤ 200000000) ∧ True) ∧ (FLQ (shC s) t)) (gEx Z A ex ([], [], [], []) s (¬ ((TWO (shC s).2.2.2.2.2.2.1 x1 x2) ∧ 0 ≤ x3.toInt ∧ x3.toInt ≤ 200000000)) (False)) := by
  intro post xp hP hX
  obtain ⟨u_0_2, e_0_2⟩ : ∃ w, w = s.2.2.1 0 2 := ⟨_, rfl⟩
  have ro_0_2 := inv_F hI (-1) 4000 rfl e_0_2
  obtain ⟨u_2_1, e_2_1⟩ : ∃ w, w = s.2.2.1 2 1 := ⟨_, rfl⟩
  have ro_2_1 := inv_F hI 0 32 rfl e_2_1
  obtain ⟨u_32_1, e_32_1⟩ : ∃ w, w = s.2.2.1 32 1 := ⟨_, rfl⟩
  have ro_32_1 := inv_F hI 0 32 rfl e_32_1
  refine g_enter2 (k := 243) (N := 900) (by first | exact dq1 hd rfl | exact dq0 hd rfl | exact dq2 hd rfl | exact dq3 hd rfl | omega) rfl (Nat.le_of_ble_eq_true rfl) ?_
  refine g_aload_n 1 (gd rfl) rfl rfl ?_
  refine g_callv (X := _) (As := []) (r := []) (b := A 0) (q := 0) 4 (gd rfl) rfl rfl rfl rfl rfl (ww_o rfl) (Nat.le_of_ble_eq_true rfl) (mc := 0) (ms := 0) (Nat.zero_le _) (Nat.zero_le _) (P := fun v u => _) ?_ (fun e u h => h) (fun v u h => h)
  intro po1 xx1 hp1 hx1
  refine g_enter2 (k := 259) (N := 300) (by first | exact dq1 hd rfl | exact dq0 hd rfl | exact dq2 hd rfl | exact dq3 hd rfl | omega) rfl (Nat.le_of_ble_eq_true rfl) ?_
  refine g_aload_n 1 (gd rfl) rfl rfl ?_
  refine g_getI 4 (gd rfl) rfl rfl rfl (fun z1x1 e1x1 => ?_)
  have q1x1 : u_0_2 = z1x1 := (e_0_2).trans e1x1.symm
  subst q1x1
  refine g_iconst (-1) 5 (gd rfl) rfl rfl ?_
  refine g_cmp_ne 8 18 (gd rfl) rfl rfl (fun c1x5 => ?_) (fun c1x5 => ?_)
  · skip
    have i1x5 := r_ne1 0 4000 c1x5 ro_0_2 (in_c (-1) rfl) rfl
    refine g_aload_n 19 (gd rfl) rfl rfl ?_
    refine g_getA (q2 := 32) 22 (gd rfl) rfl rfl rfl rfl ?_
    refine g_areturn (gd rfl) rfl (hp1 _ _ ?_)
    show GG _ _ _ _ _ _ _ _ [.ref (A 32)] _ _ _
    refine g_astore 6 (gd rfl) rfl (Nat.le_of_ble_eq_true rfl) ?_
    refine g_aload 8 (gd rfl) rfl rfl ?_
    refine g_iload_n 9 (gd rfl) rfl rfl ?_
    refine g_iload_n 10 (gd rfl) rfl rfl ?_
    refine g_callv (X := _) (As := [.int x1, .int x2]) (r := []) (b := A 32) (q := 32) 13 (gd rfl) rfl rfl rfl rfl rfl (ww_o rfl) (Nat.le_of_ble_eq_true rfl) (mc := 0) (ms := 0) (Nat.zero_le _) (Nat.zero_le _) (P := fun v u => _) ?_ (fun e u h => h) (fun v u h => h)
    intro po10 xx10 hp10 hx10
    refine g_enter2 (k := 95) (N := 300) (by first | exact dq1 hd rfl | exact dq0 hd rfl | exact dq2 hd rfl | exact dq3 hd rfl | omega) rfl (Nat.le_of_ble_eq_true rfl) ?_
    refine g_aload_n 1 (gd rfl) rfl rfl ?_
    refine g_iload_n 2 (gd rfl) rfl rfl ?_
    refine g_callv (X := _) (As := [.int x1]) (r := []) (b := A 32) (q := 32) 5 (gd rfl) rfl rfl rfl rfl rfl (ww_o rfl) (Nat.le_of_ble_eq_true rfl) (mc := 0) (ms := 0) (Nat.zero_le _) (Nat.zero_le _) (P := fun v u => _) ?_ (fun e u h => h) (fun v u h => h)
    intro po10x2 xx10x2 hp10x2 hx10x2
    refine g_enter2 (k := 94) (N := 300) (by first | exact dq1 hd rfl | exact dq0 hd rfl | exact dq2 hd rfl | exact dq3 hd rfl | omega) rfl (Nat.le_of_ble_eq_true rfl) ?_
    refine g_iload_n 1 (gd rfl) rfl rfl ?_
    refine g_if_lt 4 16 (gd rfl) rfl rfl (fun c10x2x1 => ?_) (fun c10x2x1 => ?_)
    · skip
      have i10x2x1 := z_lt (-2147483648) (-1) c10x2x1 (i_rng x1) rfl
      refine g_iconst 0 17 (gd rfl) rfl rfl ?_
      refine g_ireturn (gd rfl) rfl (nb01 (in_w 0 1 (in_c 0 rfl) rfl)) (hp10x2 _ _ ?_)
      show GG _ _ _ _ _ _ _ _ [.int (Int32.ofInt 0)] _ _ _
      refine g_if_eq 8 25 (gd rfl) rfl rfl (fun c10x5 => ?_) (fun c10x5 => ?_)
      · skip
        refine g_iconst 0 26 (gd rfl) rfl rfl ?_
        refine g_ireturn (gd rfl) rfl (nb01 (in_w 0 1 (in_c 0 rfl) rfl)) (hp10 _ _ ?_)
        show GG _ _ _ _ _ _ _ _ [.int (Int32.ofInt 0)] _ _ _
        refine g_if_eq 16 31 (gd rfl) rfl rfl (fun c13 => ?_) (fun c13 => ?_)
        · skip
          refine g_iconst 0 32 (gd rfl) rfl rfl ?_
          refine g_thr (E := am_IA) (y := yX11_allow) 35 (gd rfl) rfl rfl (Or.inl ⟨rfl, rfl, rfl⟩) (by first | exact dq1 hd rfl | exact dq0 hd rfl | exact dq2 hd rfl | exact dq3 hd rfl | omega) (Nat.le_of_ble_eq_true rfl) (Nat.le_of_ble_eq_true rfl) (Nat.le_of_ble_eq_true rfl) (fun c32 => ?_) (fun c32 => ?_)
          · skip
            exact zn_ne c32 (in_c 0 rfl) rfl
          · skip
            have n32 : ¬ ((TWO (shC s).2.2.2.2.2.2.1 x1 x2) ∧ 0 ≤ x3.toInt ∧ x3.toInt ≤ 200000000) := by first | (rw [shC_n (by rw [← e1x1]; exact c1x5)]; show ¬ (TWO (s.2.2.1 2 1).toInt x1 x2 ∧ 0 ≤ x3.toInt ∧ x3.toInt ≤ 200000000); rw [← e_2_1]; exact (have a0 := in_u ro_32_1; have a1 := in_u ro_2_1; have a2 := in_u i1x5; have a3 := in_u i10x2x1; have oc := oc_243_0; by omega)) | (rw [shC_d (by rw [← e1x1]; exact c1x5)]; show ¬ (TWO (s.2.2.1 32 1).toInt x1 x2 ∧ 0 ≤ x3.toInt ∧ x3.toInt ≤ 200000000); rw [← e_32_1]; exact (have a0 := in_u ro_32_1; have a1 := in_u ro_2_1; have a2 := in_u i1x5; have a3 := in_u i10x2x1; have oc := oc_243_0; by omega))
            exact (hX _ _ ⟨Or.inl ⟨rfl, n32⟩, s, hI, fr_rf, rfl⟩)
        · skip
          exact zn_ne c13 (in_c 0 rfl) rfl
      · skip
        exact zn_ne c10x5 (in_c 0 rfl) rfl
    · skip
      have i10x2x1 := z_ge 0 2147483647 c10x2x1 (i_rng x1) rfl
      refine g_iload_n 5 (gd rfl) rfl rfl ?_
      refine g_aload_n 6 (gd rfl) rfl rfl ?_
      refine g_getI 9 (gd rfl) rfl rfl rfl (fun z10x2x6 e10x2x6 => ?_)
      have q10x2x6 : u_32_1 = z10x2x6 := (e_32_1).trans e10x2x6.symm
      subst q10x2x6
      refine g_cmp_ge 12 16 (gd rfl) rfl rfl (fun c10x2x9 => ?_) (fun c10x2x9 => ?_)
      · skip
        refine g_iconst 0 17 (gd rfl) rfl rfl ?_
        refine g_ireturn (gd rfl) rfl (nb01 (in_w 0 1 (in_c 0 rfl) rfl)) (hp10x2 _ _ ?_)
        show GG _ _ _ _ _ _ _ _ [.int (Int32.ofInt 0)] _ _ _
        refine g_if_eq 8 25 (gd rfl) rfl rfl (fun c10x5 => ?_) (fun c10x5 => ?_)
        · skip
          refine g_iconst 0 26 (gd rfl) rfl rfl ?_
          refine g_ireturn (gd rfl) rfl (nb01 (in_w 0 1 (in_c 0 rfl) rfl)) (hp10 _ _ ?_)
          show GG _ _ _ _ _ _ _ _ [.int (Int32.ofInt 0)] _ _ _
          refine g_if_eq 16 31 (gd rfl) rfl rfl (fun c13 => ?_) (fun c13 => ?_)
          · skip
            refine g_iconst 0 32 (gd rfl) rfl rfl ?_
            refine g_thr (E := am_IA) (y := yX11_allow) 35 (gd rfl) rfl rfl (Or.inl ⟨rfl, rfl, rfl⟩) (by first | exact dq1 hd rfl | exact dq0 hd rfl | exact dq2 hd rfl | exact dq3 hd rfl | omega) (Nat.le_of_ble_eq_true rfl) (Nat.le_of_ble_eq_true rfl) (Nat.le_of_ble_eq_true rfl) (fun c32 => ?_) (fun c32 => ?_)
            · skip
              exact zn_ne c32 (in_c 0 rfl) rfl
            · skip
              have n32 : ¬ ((TWO (shC s).2.2.2.2.2.2.1 x1 x2) ∧ 0 ≤ x3.toInt ∧ x3.toInt ≤ 200000000) := by first | (rw [shC_n (by rw [← e1x1]; exact c1x5)]; show ¬ (TWO (s.2.2.1 2 1).toInt x1 x2 ∧ 0 ≤ x3.toInt ∧ x3.toInt ≤ 200000000); rw [← e_2_1]; exact (have a0 := in_u ro_32_1; have a1 := in_u ro_2_1; have a2 := in_u i1x5; have a3 := in_u i10x2x1; have oc := oc_243_0; by omega)) | (rw [shC_d (by rw [← e1x1]; exact c1x5)]; show ¬ (TWO (s.2.2.1 32 1).toInt x1 x2 ∧ 0 ≤ x3.toInt ∧ x3.toInt ≤ 200000000); rw [← e_32_1]; exact (have a0 := in_u ro_32_1; have a1 := in_u ro_2_1; have a2 := in_u i1x5; have a3 := in_u i10x2x1; have oc := oc_243_0; by omega))
              exact (hX _ _ ⟨Or.inl ⟨rfl, n32⟩, s, hI, fr_rf, rfl⟩)
          · skip
            exact zn_ne c13 (in_c 0 rfl) rfl
        · skip
          exact zn_ne c10x5 (in_c 0 rfl) rfl
      · skip
        have i10x2x9 := r_lt1 0 31 c10x2x9 i10x2x1 ro_32_1 rfl
        have i10x2x9a := r_lt2 1 32 c10x2x9 i10x2x1 ro_32_1 rfl
        refine g_iconst 1 13 (gd rfl) rfl rfl ?_
        refine g_goto 17 (gd rfl) rfl ?_
        refine g_ireturn (gd rfl) rfl (nb01 (in_w 0 1 (in_c 1 rfl) rfl)) (hp10x2 _ _ ?_)
        show GG _ _ _ _ _ _ _ _ [.int (Int32.ofInt 1)] _ _ _
        refine g_if_eq 8 25 (gd rfl) rfl rfl (fun c10x5 => ?_) (fun c10x5 => ?_)
        · skip
          exact zn_eq c10x5 (in_c 1 rfl) rfl
        · skip
          refine g_aload_n 9 (gd rfl) rfl rfl ?_
          refine g_iload_n 10 (gd rfl) rfl rfl ?_
          refine g_callv (X := _) (As := [.int x2]) (r := []) (b := A 32) (q := 32) 13 (gd rfl) rfl rfl rfl rfl rfl (ww_o rfl) (Nat.le_of_ble_eq_true rfl) (mc := 0) (ms := 0) (Nat.zero_le _) (Nat.zero_le _) (P := fun v u => _) ?_ (fun e u h => h) (fun v u h => h)
          intro po10x10 xx10x10 hp10x10 hx10x10
          refine g_enter2 (k := 94) (N := 300) (by first | exact dq1 hd rfl | exact dq0 hd rfl | exact dq2 hd rfl | exact dq3 hd rfl | omega) rfl (Nat.le_of_ble_eq_true rfl) ?_
          refine g_iload_n 1 (gd rfl) rfl rfl ?_
          refine g_if_lt 4 16 (gd rfl) rfl rfl (fun c10x10x1 => ?_) (fun c10x10x1 => ?_)
          · skip
            have i10x10x1 := z_lt (-2147483648) (-1) c10x10x1 (i_rng x2) rfl
            refine g_iconst 0 17 (gd rfl) rfl rfl ?_
            refine g_ireturn (gd rfl) rfl (nb01 (in_w 0 1 (in_c 0 rfl) rfl)) (hp10x10 _ _ ?_)
            show GG _ _ _ _ _ _ _ _ [.int (Int32.ofInt 0)] _ _ _
            refine g_if_eq 16 25 (gd rfl) rfl rfl (fun c10x13 => ?_) (fun c10x13 => ?_)
            · skip
              refine g_iconst 0 26 (gd rfl) rfl rfl ?_
              refine g_ireturn (gd rfl) rfl (nb01 (in_w 0 1 (in_c 0 rfl) rfl)) (hp10 _ _ ?_)
              show GG _ _ _ _ _ _ _ _ [.int (Int32.ofInt 0)] _ _ _
              refine g_if_eq 16 31 (gd rfl) rfl rfl (fun c13 => ?_) (fun c13 => ?_)
              · skip
                refine g_iconst 0 32 (gd rfl) rfl rfl ?_
                refine g_thr (E := am_IA) (y := yX11_allow) 35 (gd rfl) rfl rfl (Or.inl ⟨rfl, rfl, rfl⟩) (by first | exact dq1 hd rfl | exact dq0 hd rfl | exact dq2 hd rfl | exact dq3 hd rfl | omega) (Nat.le_of_ble_eq_true rfl) (Nat.le_of_ble_eq_true rfl) (Nat.le_of_ble_eq_true rfl) (fun c32 => ?_) (fun c32 => ?_)
                · skip
                  exact zn_ne c32 (in_c 0 rfl) rfl
                · skip
                  have n32 : ¬ ((TWO (shC s).2.2.2.2.2.2.1 x1 x2) ∧ 0 ≤ x3.toInt ∧ x3.toInt ≤ 200000000) := by first | (rw [shC_n (by rw [← e1x1]; exact c1x5)]; show ¬ (TWO (s.2.2.1 2 1).toInt x1 x2 ∧ 0 ≤ x3.toInt ∧ x3.toInt ≤ 200000000); rw [← e_2_1]; exact (have a0 := in_u i10x2x9; have a1 := in_u i10x2x9a; have a2 := in_u ro_2_1; have a3 := in_u i1x5; have a4 := in_u i10x10x1; have oc := oc_243_0; by omega)) | (rw [shC_d (by rw [← e1x1]; exact c1x5)]; show ¬ (TWO (s.2.2.1 32 1).toInt x1 x2 ∧ 0 ≤ x3.toInt ∧ x3.toInt ≤ 200000000); rw [← e_32_1]; exact (have a0 := in_u i10x2x9; have a1 := in_u i10x2x9a; have a2 := in_u ro_2_1; have a3 := in_u i1x5; have a4 := in_u i10x10x1; have oc := oc_243_0; by omega))
                  exact (hX _ _ ⟨Or.inl ⟨rfl, n32⟩, s, hI, fr_rf, rfl⟩)
              · skip
                exact zn_ne c13 (in_c 0 rfl) rfl
            · skip
              exact zn_ne c10x13 (in_c 0 rfl) rfl
          · skip
            have i10x10x1 := z_ge 0 2147483647 c10x10x1 (i_rng x2) rfl
            refine g_iload_n 5 (gd rfl) rfl rfl ?_
            refine g_aload_n 6 (gd rfl) rfl rfl ?_
            refine g_getI 9 (gd rfl) rfl rfl rfl (fun z10x10x6 e10x10x6 => ?_)
            have q10x10x6 : u_32_1 = z10x10x6 := (e_32_1).trans e10x10x6.symm
            subst q10x10x6
            refine g_cmp_ge 12 16 (gd rfl) rfl rfl (fun c10x10x9 => ?_) (fun c10x10x9 => ?_)
            · skip
              have i10x10x9 := r_le2 1 2147483647 c10x10x9 i10x2x9a i10x10x1 rfl
              refine g_iconst 0 17 (gd rfl) rfl rfl ?_
              refine g_ireturn (gd rfl) rfl (nb01 (in_w 0 1 (in_c 0 rfl) rfl)) (hp10x10 _ _ ?_)
              show GG _ _ _ _ _ _ _ _ [.int (Int32.ofInt 0)] _ _ _
              refine g_if_eq 16 25 (gd rfl) rfl rfl (fun c10x13 => ?_) (fun c10x13 => ?_)
              · skip
                refine g_iconst 0 26 (gd rfl) rfl rfl ?_
                refine g_ireturn (gd rfl) rfl (nb01 (in_w 0 1 (in_c 0 rfl) rfl)) (hp10 _ _ ?_)
                show GG _ _ _ _ _ _ _ _ [.int (Int32.ofInt 0)] _ _ _
                refine g_if_eq 16 31 (gd rfl) rfl rfl (fun c13 => ?_) (fun c13 => ?_)
                · skip
                  refine g_iconst 0 32 (gd rfl) rfl rfl ?_
                  refine g_thr (E := am_IA) (y := yX11_allow) 35 (gd rfl) rfl rfl (Or.inl ⟨rfl, rfl, rfl⟩) (by first | exact dq1 hd rfl | exact dq0 hd rfl | exact dq2 hd rfl | exact dq3 hd rfl | omega) (Nat.le_of_ble_eq_true rfl) (Nat.le_of_ble_eq_true rfl) (Nat.le_of_ble_eq_true rfl) (fun c32 => ?_) (fun c32 => ?_)
                  · skip
                    exact zn_ne c32 (in_c 0 rfl) rfl
                  · skip
                    have n32 : ¬ ((TWO (shC s).2.2.2.2.2.2.1 x1 x2) ∧ 0 ≤ x3.toInt ∧ x3.toInt ≤ 200000000) := by first | (rw [shC_n (by rw [← e1x1]; exact c1x5)]; show ¬ (TWO (s.2.2.1 2 1).toInt x1 x2 ∧ 0 ≤ x3.toInt ∧ x3.toInt ≤ 200000000); rw [← e_2_1]; exact (have a0 := in_u i10x2x9; have a1 := in_u i10x2x9a; have a2 := in_u ro_2_1; have a3 := in_u i1x5; have a4 := in_u i10x10x9; have oc := oc_243_0; by omega)) | (rw [shC_d (by rw [← e1x1]; exact c1x5)]; show ¬ (TWO (s.2.2.1 32 1).toInt x1 x2 ∧ 0 ≤ x3.toInt ∧ x3.toInt ≤ 200000000); rw [← e_32_1]; exact (have a0 := in_u i10x2x9; have a1 := in_u i10x2x9a; have a2 := in_u ro_2_1; have a3 := in_u i1x5; have a4 := in_u i10x10x9; have oc := oc_243_0; by omega))
                    exact (hX _ _ ⟨Or.inl ⟨rfl, n32⟩, s, hI, fr_rf, rfl⟩)
                · skip
                  exact zn_ne c13 (in_c 0 rfl) rfl
              · skip
                exact zn_ne c10x13 (in_c 0 rfl) rfl
            · skip
              have i10x10x9 := r_lt1 0 31 c10x10x9 i10x10x1 i10x2x9a rfl
              refine g_iconst 1 13 (gd rfl) rfl rfl ?_
              refine g_goto 17 (gd rfl) rfl ?_
              refine g_ireturn (gd rfl) rfl (nb01 (in_w 0 1 (in_c 1 rfl) rfl)) (hp10x10 _ _ ?_)
              show GG _ _ _ _ _ _ _ _ [.int (Int32.ofInt 1)] _ _ _
              refine g_if_eq 16 25 (gd rfl) rfl rfl (fun c10x13 => ?_) (fun c10x13 => ?_)
              · skip
                exact zn_eq c10x13 (in_c 1 rfl) rfl
              · skip
                refine g_iload_n 17 (gd rfl) rfl rfl ?_
                refine g_iload_n 18 (gd rfl) rfl rfl ?_
                refine g_cmp_eq 21 25 (gd rfl) rfl rfl (fun c10x18 => ?_) (fun c10x18 => ?_)
                · skip
                  refine g_iconst 0 26 (gd rfl) rfl rfl ?_
                  refine g_ireturn (gd rfl) rfl (nb01 (in_w 0 1 (in_c 0 rfl) rfl)) (hp10 _ _ ?_)
                  show GG _ _ _ _ _ _ _ _ [.int (Int32.ofInt 0)] _ _ _
                  refine g_if_eq 16 31 (gd rfl) rfl rfl (fun c13 => ?_) (fun c13 => ?_)
                  · skip
                    refine g_iconst 0 32 (gd rfl) rfl rfl ?_
                    refine g_thr (E := am_IA) (y := yX11_allow) 35 (gd rfl) rfl rfl (Or.inl ⟨rfl, rfl, rfl⟩) (by first | exact dq1 hd rfl | exact dq0 hd rfl | exact dq2 hd rfl | exact dq3 hd rfl | omega) (Nat.le_of_ble_eq_true rfl) (Nat.le_of_ble_eq_true rfl) (Nat.le_of_ble_eq_true rfl) (fun c32 => ?_) (fun c32 => ?_)
                    · skip
                      exact zn_ne c32 (in_c 0 rfl) rfl
                    · skip
                      have n32 : ¬ ((TWO (shC s).2.2.2.2.2.2.1 x1 x2) ∧ 0 ≤ x3.toInt ∧ x3.toInt ≤ 200000000) := by first | (rw [shC_n (by rw [← e1x1]; exact c1x5)]; show ¬ (TWO (s.2.2.1 2 1).toInt x1 x2 ∧ 0 ≤ x3.toInt ∧ x3.toInt ≤ 200000000); rw [← e_2_1]; exact (have a0 := in_u i10x10x9; have a1 := in_u i10x2x9; have a2 := in_u i10x2x9a; have a3 := in_u ro_2_1; have a4 := in_u i1x5; have oc := oc_243_0; by omega)) | (rw [shC_d (by rw [← e1x1]; exact c1x5)]; show ¬ (TWO (s.2.2.1 32 1).toInt x1 x2 ∧ 0 ≤ x3.toInt ∧ x3.toInt ≤ 200000000); rw [← e_32_1]; exact (have a0 := in_u i10x10x9; have a1 := in_u i10x2x9; have a2 := in_u i10x2x9a; have a3 := in_u ro_2_1; have a4 := in_u i1x5; have oc := oc_243_0; by omega))
                      exact (hX _ _ ⟨Or.inl ⟨rfl, n32⟩, s, hI, fr_rf, rfl⟩)
                  · skip
                    exact zn_ne c13 (in_c 0 rfl) rfl
                · skip
                  refine g_iconst 1 22 (gd rfl) rfl rfl ?_
                  refine g_goto 26 (gd rfl) rfl ?_
                  refine g_ireturn (gd rfl) rfl (nb01 (in_w 0 1 (in_c 1 rfl) rfl)) (hp10 _ _ ?_)
                  show GG _ _ _ _ _ _ _ _ [.int (Int32.ofInt 1)] _ _ _
                  refine g_if_eq 16 31 (gd rfl) rfl rfl (fun c13 => ?_) (fun c13 => ?_)
                  · skip
                    exact zn_eq c13 (in_c 1 rfl) rfl
                  · skip
                    refine g_iload_n 17 (gd rfl) rfl rfl ?_
                    refine g_if_lt 20 31 (gd rfl) rfl rfl (fun c17 => ?_) (fun c17 => ?_)
                    · skip
                      have i17 := z_lt (-2147483648) (-1) c17 (i_rng x3) rfl
                      refine g_iconst 0 32 (gd rfl) rfl rfl ?_
                      refine g_thr (E := am_IA) (y := yX11_allow) 35 (gd rfl) rfl rfl (Or.inl ⟨rfl, rfl, rfl⟩) (by first | exact dq1 hd rfl | exact dq0 hd rfl | exact dq2 hd rfl | exact dq3 hd rfl | omega) (Nat.le_of_ble_eq_true rfl) (Nat.le_of_ble_eq_true rfl) (Nat.le_of_ble_eq_true rfl) (fun c32 => ?_) (fun c32 => ?_)
                      · skip
                        exact zn_ne c32 (in_c 0 rfl) rfl
                      · skip
                        have n32 : ¬ ((TWO (shC s).2.2.2.2.2.2.1 x1 x2) ∧ 0 ≤ x3.toInt ∧ x3.toInt ≤ 200000000) := by first | (rw [shC_n (by rw [← e1x1]; exact c1x5)]; show ¬ (TWO (s.2.2.1 2 1).toInt x1 x2 ∧ 0 ≤ x3.toInt ∧ x3.toInt ≤ 200000000); rw [← e_2_1]; exact (have a0 := in_u i10x10x9; have a1 := in_u i10x2x9; have a2 := in_u i10x2x9a; have a3 := in_u ro_2_1; have a4 := in_u i1x5; have a5 := in_u i17; have oc := oc_243_0; by omega)) | (rw [shC_d (by rw [← e1x1]; exact c1x5)]; show ¬ (TWO (s.2.2.1 32 1).toInt x1 x2 ∧ 0 ≤ x3.toInt ∧ x3.toInt ≤ 200000000); rw [← e_32_1]; exact (have a0 := in_u i10x10x9; have a1 := in_u i10x2x9; have a2 := in_u i10x2x9a; have a3 := in_u ro_2_1; have a4 := in_u i1x5; have a5 := in_u i17; have oc := oc_243_0; by omega))
                        exact (hX _ _ ⟨Or.inl ⟨rfl, n32⟩, s, hI, fr_rf, rfl⟩)
                    · skip
                      have i17 := z_ge 0 2147483647 c17 (i_rng x3) rfl
                      refine g_iload_n 21 (gd rfl) rfl rfl ?_
                      refine g_ldc_w 200000000 24 (gd rfl) rfl rfl ?_
                      refine g_cmp_gt 27 31 (gd rfl) rfl rfl (fun c24 => ?_) (fun c24 => ?_)
                      · skip
                        have i24 := r_lt2 200000001 2147483647 c24 (in_c 200000000 rfl) i17 rfl
                        refine g_iconst 0 32 (gd rfl) rfl rfl ?_
                        refine g_thr (E := am_IA) (y := yX11_allow) 35 (gd rfl) rfl rfl (Or.inl ⟨rfl, rfl, rfl⟩) (by first | exact dq1 hd rfl | exact dq0 hd rfl | exact dq2 hd rfl | exact dq3 hd rfl | omega) (Nat.le_of_ble_eq_true rfl) (Nat.le_of_ble_eq_true rfl) (Nat.le_of_ble_eq_true rfl) (fun c32 => ?_) (fun c32 => ?_)
                        · skip
                          exact zn_ne c32 (in_c 0 rfl) rfl
                        · skip
                          have n32 : ¬ ((TWO (shC s).2.2.2.2.2.2.1 x1 x2) ∧ 0 ≤ x3.toInt ∧ x3.toInt ≤ 200000000) := by first | (rw [shC_n (by rw [← e1x1]; exact c1x5)]; show ¬ (TWO (s.2.2.1 2 1).toInt x1 x2 ∧ 0 ≤ x3.toInt ∧ x3.toInt ≤ 200000000); rw [← e_2_1]; exact (have a0 := in_u i10x10x9; have a1 := in_u i10x2x9; have a2 := in_u i10x2x9a; have a3 := in_u ro_2_1; have a4 := in_u i1x5; have a5 := in_u i24; have oc := oc_243_0; by omega)) | (rw [shC_d (by rw [← e1x1]; exact c1x5)]; show ¬ (TWO (s.2.2.1 32 1).toInt x1 x2 ∧ 0 ≤ x3.toInt ∧ x3.toInt ≤ 200000000); rw [← e_32_1]; exact (have a0 := in_u i10x10x9; have a1 := in_u i10x2x9; have a2 := in_u i10x2x9a; have a3 := in_u ro_2_1; have a4 := in_u i1x5; have a5 := in_u i24; have oc := oc_243_0; by omega))
                          exact (hX _ _ ⟨Or.inl ⟨rfl, n32⟩, s, hI, fr_rf, rfl⟩)
                      · skip
                        have i24 := r_le1 0 200000000 c24 i17 (in_c 200000000 rfl) rfl
                        refine g_iconst 1 28 (gd rfl) rfl rfl ?_
                        refine g_goto 32 (gd rfl) rfl ?_
                        refine g_thr (E := am_IA) (y := yX11_allow) 35 (gd rfl) rfl rfl (Or.inl ⟨rfl, rfl, rfl⟩) (by first | exact dq1 hd rfl | exact dq0 hd rfl | exact dq2 hd rfl | exact dq3 hd rfl | omega) (Nat.le_of_ble_eq_true rfl) (Nat.le_of_ble_eq_true rfl) (Nat.le_of_ble_eq_true rfl) (fun c32 => ?_) (fun c32 => ?_)
                        · skip
                          refine g_aload_n 36 (gd rfl) rfl rfl ?_
                          refine g_getA (q2 := 65) 39 (gd rfl) rfl rfl rfl rfl ?_
                          refine g_aload 41 (gd rfl) rfl rfl ?_
                          refine g_iload_n 42 (gd rfl) rfl rfl ?_
                          refine g_iload_n 43 (gd rfl) rfl rfl ?_
                          refine g_iload_n 44 (gd rfl) rfl rfl ?_
                          have p44 : TQD s := by first | exact q_0 | exact q_1
                          have p44a : FLB (gvD s) s := by first | (rw [← shC_n (by rw [← e1x1]; exact c1x5)]; exact q_2) | (rw [← shC_d (by rw [← e1x1]; exact c1x5)]; exact q_2)
                          have p44b : (x1).toInt ≠ (x2).toInt := by exact (have a0 := in_u i10x10x9; have a1 := in_u i10x2x9; have a2 := in_u i10x2x9a; have a3 := in_u ro_2_1; have a4 := in_u i1x5; have a5 := in_u i24; have oc := oc_243_0; by omega)
                          refine g_callv (X := _) (As := [.ref (A 32), .int x1, .int x2, .int x3]) (r := []) (b := A 65) (q := 65) 47 (gd rfl) rfl rfl rfl rfl rfl (ww_o rfl) (Nat.le_of_ble_eq_true rfl) (Nat.zero_le _) (Nat.zero_le _) (f_79_65_32 (by first | exact dq1 hd rfl | exact dq0 hd rfl | exact dq2 hd rfl | exact dq3 hd rfl | omega) hI (in_w 0 31 i10x2x9 rfl) (in_w 0 31 i10x10x9 rfl) (in_w 0 200000000 i24 rfl) p44 p44a p44b) (fun e u h => h) (fun v u h => ?_)
                          obtain ⟨s44, hI44, hF44, z44, rfl, rfl, p44c⟩ := h
                          show GG _ _ _ _ _ _ _ _ [.long z44] _ _ _
                          have n47 : ((TWO (shC s).2.2.2.2.2.2.1 x1 x2) ∧ 0 ≤ x3.toInt ∧ x3.toInt ≤ 200000000) ∧ True := by first | (rw [shC_n (by rw [← e1x1]; exact c1x5)]; exact ⟨⟨⟨⟨by exact (have a0 := in_u i10x10x9; have a1 := in_u i10x2x9; have a2 := in_u i10x2x9a; have a3 := in_u ro_2_1; have a4 := in_u i1x5; have a5 := in_u i24; have oc := oc_243_0; by omega), by show x1.toInt < (s.2.2.1 2 1).toInt; rw [← e_2_1]; exact (have a0 := in_u i10x10x9; have a1 := in_u i10x2x9; have a2 := in_u i10x2x9a; have a3 := in_u ro_2_1; have a4 := in_u i1x5; have a5 := in_u i24; have oc := oc_243_0; by omega)⟩, ⟨by exact (have a0 := in_u i10x10x9; have a1 := in_u i10x2x9; have a2 := in_u i10x2x9a; have a3 := in_u ro_2_1; have a4 := in_u i1x5; have a5 := in_u i24; have oc := oc_243_0; by omega), by show x2.toInt < (s.2.2.1 2 1).toInt; rw [← e_2_1]; exact (have a0 := in_u i10x10x9; have a1 := in_u i10x2x9; have a2 := in_u i10x2x9a; have a3 := in_u ro_2_1; have a4 := in_u i1x5; have a5 := in_u i24; have oc := oc_243_0; by omega)⟩, by exact (have a0 := in_u i10x10x9; have a1 := in_u i10x2x9; have a2 := in_u i10x2x9a; have a3 := in_u ro_2_1; have a4 := in_u i1x5; have a5 := in_u i24; have oc := oc_243_0; by omega)⟩, by exact (have a0 := in_u i10x10x9; have a1 := in_u i10x2x9; have a2 := in_u i10x2x9a; have a3 := in_u ro_2_1; have a4 := in_u i1x5; have a5 := in_u i24; have oc := oc_243_0; by omega), by exact (have a0 := in_u i10x10x9; have a1 := in_u i10x2x9; have a2 := in_u i10x2x9a; have a3 := in_u ro_2_1; have a4 := in_u i1x5; have a5 := in_u i24; have oc := oc_243_0; by omega)⟩, trivial⟩) | (rw [shC_d (by rw [← e1x1]; exact c1x5)]; exact ⟨⟨⟨⟨by exact (have a0 := in_u i10x10x9; have a1 := in_u i10x2x9; have a2 := in_u i10x2x9a; have a3 := in_u ro_2_1; have a4 := in_u i1x5; have a5 := in_u i24; have oc := oc_243_0; by omega), by show x1.toInt < (s.2.2.1 32 1).toInt; rw [← e_32_1]; exact (have a0 := in_u i10x10x9; have a1 := in_u i10x2x9; have a2 := in_u i10x2x9a; have a3 := in_u ro_2_1; have a4 := in_u i1x5; have a5 := in_u i24; have oc := oc_243_0; by omega)⟩, ⟨by exact (have a0 := in_u i10x10x9; have a1 := in_u i10x2x9; have a2 := in_u i10x2x9a; have a3 := in_u ro_2_1; have a4 := in_u i1x5; have a5 := in_u i24; have oc := oc_243_0; by omega), by show x2.toInt < (s.2.2.1 32 1).toInt; rw [← e_32_1]; exact (have a0 := in_u i10x10x9; have a1 := in_u i10x2x9; have a2 := in_u i10x2x9a; have a3 := in_u ro_2_1; have a4 := in_u i1x5; have a5 := in_u i24; have oc := oc_243_0; by omega)⟩, by exact (have a0 := in_u i10x10x9; have a1 := in_u i10x2x9; have a2 := in_u i10x2x9a; have a3 := in_u ro_2_1; have a4 := in_u i1x5; have a5 := in_u i24; have oc := oc_243_0; by omega)⟩, by exact (have a0 := in_u i10x10x9; have a1 := in_u i10x2x9; have a2 := in_u i10x2x9a; have a3 := in_u ro_2_1; have a4 := in_u i1x5; have a5 := in_u i24; have oc := oc_243_0; by omega), by exact (have a0 := in_u i10x10x9; have a1 := in_u i10x2x9; have a2 := in_u i10x2x9a; have a3 := in_u ro_2_1; have a4 := in_u i1x5; have a5 := in_u i24; have oc := oc_243_0; by omega)⟩, trivial⟩)
                          have n47a : FLQ (shC s) s44 := by first | (rw [shC_n (by rw [← e1x1]; exact c1x5)]; exact p44c) | (rw [shC_d (by rw [← e1x1]; exact c1x5)]; exact p44c)
                          exact g_lreturn (gd rfl) rfl (hP _ _ ⟨s44, hI44, (fr_tr rfl fr_rf hF44), z44, rfl, rfl, n47, n47a⟩)
                        · skip
                          exact zn_eq c32 (in_c 1 rfl) rfl
  · skip
    have i1x5 := r_eq1 (-1) (-1) c1x5 ro_0_2 (in_c (-1) rfl) rfl
    refine g_aload_n 9 (gd rfl) rfl rfl ?_
    refine g_getA (q2 := 1) 12 (gd rfl) rfl rfl rfl rfl ?_
    refine g_getA (q2 := 2) 15 (gd rfl) rfl rfl rfl rfl ?_
    refine g_goto 22 (gd rfl) rfl ?_
    refine g_areturn (gd rfl) rfl (hp1 _ _ ?_)
    show GG _ _ _ _ _ _ _ _ [.ref (A 2)] _ _ _
    refine g_astore 6 (gd rfl) rfl (Nat.le_of_ble_eq_true rfl) ?_
    refine g_aload 8 (gd rfl) rfl rfl ?_
    refine g_iload_n 9 (gd rfl) rfl rfl ?_
    refine g_iload_n 10 (gd rfl) rfl rfl ?_
    refine g_callv (X := _) (As := [.int x1, .int x2]) (r := []) (b := A 2) (q := 2) 13 (gd rfl) rfl rfl rfl rfl rfl (ww_o rfl) (Nat.le_of_ble_eq_true rfl) (mc := 0) (ms := 0) (Nat.zero_le _) (Nat.zero_le _) (P := fun v u => _) ?_ (fun e u h => h) (fun v u h => h)
    intro po10 xx10 hp10 hx10
    refine g_enter2 (k := 95) (N := 300) (by first | exact dq1 hd rfl | exact dq0 hd rfl | exact dq2 hd rfl | exact dq3 hd rfl | omega) rfl (Nat.le_of_ble_eq_true rfl) ?_
    refine g_aload_n 1 (gd rfl) rfl rfl ?_
    refine g_iload_n 2 (gd rfl) rfl rfl ?_
    refine g_callv (X := _) (As := [.int x1]) (r := []) (b := A 2) (q := 2) 5 (gd rfl) rfl rfl rfl rfl rfl (ww_o rfl) (Nat.le_of_ble_eq_true rfl) (mc := 0) (ms := 0) (Nat.zero_le _) (Nat.zero_le _) (P := fun v u => _) ?_ (fun e u h => h) (fun v u h => h)
    intro po10x2 xx10x2 hp10x2 hx10x2
    refine g_enter2 (k := 94) (N := 300) (by first | exact dq1 hd rfl | exact dq0 hd rfl | exact dq2 hd rfl | exact dq3 hd rfl | omega) rfl (Nat.le_of_ble_eq_true rfl) ?_
    refine g_iload_n 1 (gd rfl) rfl rfl ?_
    refine g_if_lt 4 16 (gd rfl) rfl rfl (fun c10x2x1 => ?_) (fun c10x2x1 => ?_)
    · skip
      have i10x2x1 := z_lt (-2147483648) (-1) c10x2x1 (i_rng x1) rfl
      refine g_iconst 0 17 (gd rfl) rfl rfl ?_
      refine g_ireturn (gd rfl) rfl (nb01 (in_w 0 1 (in_c 0 rfl) rfl)) (hp10x2 _ _ ?_)
      show GG _ _ _ _ _ _ _ _ [.int (Int32.ofInt 0)] _ _ _
      refine g_if_eq 8 25 (gd rfl) rfl rfl (fun c10x5 => ?_) (fun c10x5 => ?_)
      · skip
        refine g_iconst 0 26 (gd rfl) rfl rfl ?_
        refine g_ireturn (gd rfl) rfl (nb01 (in_w 0 1 (in_c 0 rfl) rfl)) (hp10 _ _ ?_)
        show GG _ _ _ _ _ _ _ _ [.int (Int32.ofInt 0)] _ _ _
        refine g_if_eq 16 31 (gd rfl) rfl rfl (fun c13 => ?_) (fun c13 => ?_)
        · skip
          refine g_iconst 0 32 (gd rfl) rfl rfl ?_
          refine g_thr (E := am_IA) (y := yX11_allow) 35 (gd rfl) rfl rfl (Or.inl ⟨rfl, rfl, rfl⟩) (by first | exact dq1 hd rfl | exact dq0 hd rfl | exact dq2 hd rfl | exact dq3 hd rfl | omega) (Nat.le_of_ble_eq_true rfl) (Nat.le_of_ble_eq_true rfl) (Nat.le_of_ble_eq_true rfl) (fun c32 => ?_) (fun c32 => ?_)
          · skip
            exact zn_ne c32 (in_c 0 rfl) rfl
          · skip
            have n32 : ¬ ((TWO (shC s).2.2.2.2.2.2.1 x1 x2) ∧ 0 ≤ x3.toInt ∧ x3.toInt ≤ 200000000) := by first | (rw [shC_n (by rw [← e1x1]; exact c1x5)]; show ¬ (TWO (s.2.2.1 2 1).toInt x1 x2 ∧ 0 ≤ x3.toInt ∧ x3.toInt ≤ 200000000); rw [← e_2_1]; exact (have a0 := in_u ro_32_1; have a1 := in_u ro_2_1; have a2 := in_u i1x5; have a3 := in_u i10x2x1; have oc := oc_243_0; by omega)) | (rw [shC_d (by rw [← e1x1]; exact c1x5)]; show ¬ (TWO (s.2.2.1 32 1).toInt x1 x2 ∧ 0 ≤ x3.toInt ∧ x3.toInt ≤ 200000000); rw [← e_32_1]; exact (have a0 := in_u ro_32_1; have a1 := in_u ro_2_1; have a2 := in_u i1x5; have a3 := in_u i10x2x1; have oc := oc_243_0; by omega))
            exact (hX _ _ ⟨Or.inl ⟨rfl, n32⟩, s, hI, fr_rf, rfl⟩)
        · skip
          exact zn_ne c13 (in_c 0 rfl) rfl
      · skip
        exact zn_ne c10x5 (in_c 0 rfl) rfl
    · skip
      have i10x2x1 := z_ge 0 2147483647 c10x2x1 (i_rng x1) rfl
      refine g_iload_n 5 (gd rfl) rfl rfl ?_
      refine g_aload_n 6 (gd rfl) rfl rfl ?_
      refine g_getI 9 (gd rfl) rfl rfl rfl (fun z10x2x6 e10x2x6 => ?_)
      have q10x2x6 : u_2_1 = z10x2x6 := (e_2_1).trans e10x2x6.symm
      subst q10x2x6
      refine g_cmp_ge 12 16 (gd rfl) rfl rfl (fun c10x2x9 => ?_) (fun c10x2x9 => ?_)
      · skip
        refine g_iconst 0 17 (gd rfl) rfl rfl ?_
        refine g_ireturn (gd rfl) rfl (nb01 (in_w 0 1 (in_c 0 rfl) rfl)) (hp10x2 _ _ ?_)
        show GG _ _ _ _ _ _ _ _ [.int (Int32.ofInt 0)] _ _ _
        refine g_if_eq 8 25 (gd rfl) rfl rfl (fun c10x5 => ?_) (fun c10x5 => ?_)
        · skip
          refine g_iconst 0 26 (gd rfl) rfl rfl ?_
          refine g_ireturn (gd rfl) rfl (nb01 (in_w 0 1 (in_c 0 rfl) rfl)) (hp10 _ _ ?_)
          show GG _ _ _ _ _ _ _ _ [.int (Int32.ofInt 0)] _ _ _
          refine g_if_eq 16 31 (gd rfl) rfl rfl (fun c13 => ?_) (fun c13 => ?_)
          · skip
            refine g_iconst 0 32 (gd rfl) rfl rfl ?_
            refine g_thr (E := am_IA) (y := yX11_allow) 35 (gd rfl) rfl rfl (Or.inl ⟨rfl, rfl, rfl⟩) (by first | exact dq1 hd rfl | exact dq0 hd rfl | exact dq2 hd rfl | exact dq3 hd rfl | omega) (Nat.le_of_ble_eq_true rfl) (Nat.le_of_ble_eq_true rfl) (Nat.le_of_ble_eq_true rfl) (fun c32 => ?_) (fun c32 => ?_)
            · skip
              exact zn_ne c32 (in_c 0 rfl) rfl
            · skip
              have n32 : ¬ ((TWO (shC s).2.2.2.2.2.2.1 x1 x2) ∧ 0 ≤ x3.toInt ∧ x3.toInt ≤ 200000000) := by first | (rw [shC_n (by rw [← e1x1]; exact c1x5)]; show ¬ (TWO (s.2.2.1 2 1).toInt x1 x2 ∧ 0 ≤ x3.toInt ∧ x3.toInt ≤ 200000000); rw [← e_2_1]; exact (have a0 := in_u ro_32_1; have a1 := in_u ro_2_1; have a2 := in_u i1x5; have a3 := in_u i10x2x1; have oc := oc_243_0; by omega)) | (rw [shC_d (by rw [← e1x1]; exact c1x5)]; show ¬ (TWO (s.2.2.1 32 1).toInt x1 x2 ∧ 0 ≤ x3.toInt ∧ x3.toInt ≤ 200000000); rw [← e_32_1]; exact (have a0 := in_u ro_32_1; have a1 := in_u ro_2_1; have a2 := in_u i1x5; have a3 := in_u i10x2x1; have oc := oc_243_0; by omega))
              exact (hX _ _ ⟨Or.inl ⟨rfl, n32⟩, s, hI, fr_rf, rfl⟩)
          · skip
            exact zn_ne c13 (in_c 0 rfl) rfl
        · skip
          exact zn_ne c10x5 (in_c 0 rfl) rfl
      · skip
        have i10x2x9 := r_lt1 0 31 c10x2x9 i10x2x1 ro_2_1 rfl
        have i10x2x9a := r_lt2 1 32 c10x2x9 i10x2x1 ro_2_1 rfl
        refine g_iconst 1 13 (gd rfl) rfl rfl ?_
        refine g_goto 17 (gd rfl) rfl ?_
        refine g_ireturn (gd rfl) rfl (nb01 (in_w 0 1 (in_c 1 rfl) rfl)) (hp10x2 _ _ ?_)
        show GG _ _ _ _ _ _ _ _ [.int (Int32.ofInt 1)] _ _ _
        refine g_if_eq 8 25 (gd rfl) rfl rfl (fun c10x5 => ?_) (fun c10x5 => ?_)
        · skip
          exact zn_eq c10x5 (in_c 1 rfl) rfl
        · skip
          refine g_aload_n 9 (gd rfl) rfl rfl ?_
          refine g_iload_n 10 (gd rfl) rfl rfl ?_
          refine g_callv (X := _) (As := [.int x2]) (r := []) (b := A 2) (q := 2) 13 (gd rfl) rfl rfl rfl rfl rfl (ww_o rfl) (Nat.le_of_ble_eq_true rfl) (mc := 0) (ms := 0) (Nat.zero_le _) (Nat.zero_le _) (P := fun v u => _) ?_ (fun e u h => h) (fun v u h => h)
          intro po10x10 xx10x10 hp10x10 hx10x10
          refine g_enter2 (k := 94) (N := 300) (by first | exact dq1 hd rfl | exact dq0 hd rfl | exact dq2 hd rfl | exact dq3 hd rfl | omega) rfl (Nat.le_of_ble_eq_true rfl) ?_
          refine g_iload_n 1 (gd rfl) rfl rfl ?_
          refine g_if_lt 4 16 (gd rfl) rfl rfl (fun c10x10x1 => ?_) (fun c10x10x1 => ?_)
          · skip
            have i10x10x1 := z_lt (-2147483648) (-1) c10x10x1 (i_rng x2) rfl
            refine g_iconst 0 17 (gd rfl) rfl rfl ?_
            refine g_ireturn (gd rfl) rfl (nb01 (in_w 0 1 (in_c 0 rfl) rfl)) (hp10x10 _ _ ?_)
            show GG _ _ _ _ _ _ _ _ [.int (Int32.ofInt 0)] _ _ _
            refine g_if_eq 16 25 (gd rfl) rfl rfl (fun c10x13 => ?_) (fun c10x13 => ?_)
            · skip
              refine g_iconst 0 26 (gd rfl) rfl rfl ?_
              refine g_ireturn (gd rfl) rfl (nb01 (in_w 0 1 (in_c 0 rfl) rfl)) (hp10 _ _ ?_)
              show GG _ _ _ _ _ _ _ _ [.int (Int32.ofInt 0)] _ _ _
              refine g_if_eq 16 31 (gd rfl) rfl rfl (fun c13 => ?_) (fun c13 => ?_)
              · skip
                refine g_iconst 0 32 (gd rfl) rfl rfl ?_
                refine g_thr (E := am_IA) (y := yX11_allow) 35 (gd rfl) rfl rfl (Or.inl ⟨rfl, rfl, rfl⟩) (by first | exact dq1 hd rfl | exact dq0 hd rfl | exact dq2 hd rfl | exact dq3 hd rfl | omega) (Nat.le_of_ble_eq_true rfl) (Nat.le_of_ble_eq_true rfl) (Nat.le_of_ble_eq_true rfl) (fun c32 => ?_) (fun c32 => ?_)
                · skip
                  exact zn_ne c32 (in_c 0 rfl) rfl
                · skip
                  have n32 : ¬ ((TWO (shC s).2.2.2.2.2.2.1 x1 x2) ∧ 0 ≤ x3.toInt ∧ x3.toInt ≤ 200000000) := by first | (rw [shC_n (by rw [← e1x1]; exact c1x5)]; show ¬ (TWO (s.2.2.1 2 1).toInt x1 x2 ∧ 0 ≤ x3.toInt ∧ x3.toInt ≤ 200000000); rw [← e_2_1]; exact (have a0 := in_u i10x2x9; have a1 := in_u ro_32_1; have a2 := in_u i10x2x9a; have a3 := in_u i1x5; have a4 := in_u i10x10x1; have oc := oc_243_0; by omega)) | (rw [shC_d (by rw [← e1x1]; exact c1x5)]; show ¬ (TWO (s.2.2.1 32 1).toInt x1 x2 ∧ 0 ≤ x3.toInt ∧ x3.toInt ≤ 200000000); rw [← e_32_1]; exact (have a0 := in_u i10x2x9; have a1 := in_u ro_32_1; have a2 := in_u i10x2x9a; have a3 := in_u i1x5; have a4 := in_u i10x10x1; have oc := oc_243_0; by omega))
                  exact (hX _ _ ⟨Or.inl ⟨rfl, n32⟩, s, hI, fr_rf, rfl⟩)
              · skip
                exact zn_ne c13 (in_c 0 rfl) rfl
            · skip
              exact zn_ne c10x13 (in_c 0 rfl) rfl
          · skip
            have i10x10x1 := z_ge 0 2147483647 c10x10x1 (i_rng x2) rfl
            refine g_iload_n 5 (gd rfl) rfl rfl ?_
            refine g_aload_n 6 (gd rfl) rfl rfl ?_
            refine g_getI 9 (gd rfl) rfl rfl rfl (fun z10x10x6 e10x10x6 => ?_)
            have q10x10x6 : u_2_1 = z10x10x6 := (e_2_1).trans e10x10x6.symm
            subst q10x10x6
            refine g_cmp_ge 12 16 (gd rfl) rfl rfl (fun c10x10x9 => ?_) (fun c10x10x9 => ?_)
            · skip
              have i10x10x9 := r_le2 1 2147483647 c10x10x9 i10x2x9a i10x10x1 rfl
              refine g_iconst 0 17 (gd rfl) rfl rfl ?_
              refine g_ireturn (gd rfl) rfl (nb01 (in_w 0 1 (in_c 0 rfl) rfl)) (hp10x10 _ _ ?_)
              show GG _ _ _ _ _ _ _ _ [.int (Int32.ofInt 0)] _ _ _
              refine g_if_eq 16 25 (gd rfl) rfl rfl (fun c10x13 => ?_) (fun c10x13 => ?_)
              · skip
                refine g_iconst 0 26 (gd rfl) rfl rfl ?_
                refine g_ireturn (gd rfl) rfl (nb01 (in_w 0 1 (in_c 0 rfl) rfl)) (hp10 _ _ ?_)
                show GG _ _ _ _ _ _ _ _ [.int (Int32.ofInt 0)] _ _ _
                refine g_if_eq 16 31 (gd rfl) rfl rfl (fun c13 => ?_) (fun c13 => ?_)
                · skip
                  refine g_iconst 0 32 (gd rfl) rfl rfl ?_
                  refine g_thr (E := am_IA) (y := yX11_allow) 35 (gd rfl) rfl rfl (Or.inl ⟨rfl, rfl, rfl⟩) (by first | exact dq1 hd rfl | exact dq0 hd rfl | exact dq2 hd rfl | exact dq3 hd rfl | omega) (Nat.le_of_ble_eq_true rfl) (Nat.le_of_ble_eq_true rfl) (Nat.le_of_ble_eq_true rfl) (fun c32 => ?_) (fun c32 => ?_)
                  · skip
                    exact zn_ne c32 (in_c 0 rfl) rfl
                  · skip
                    have n32 : ¬ ((TWO (shC s).2.2.2.2.2.2.1 x1 x2) ∧ 0 ≤ x3.toInt ∧ x3.toInt ≤ 200000000) := by first | (rw [shC_n (by rw [← e1x1]; exact c1x5)]; show ¬ (TWO (s.2.2.1 2 1).toInt x1 x2 ∧ 0 ≤ x3.toInt ∧ x3.toInt ≤ 200000000); rw [← e_2_1]; exact (have a0 := in_u i10x2x9; have a1 := in_u ro_32_1; have a2 := in_u i10x2x9a; have a3 := in_u i1x5; have a4 := in_u i10x10x9; have oc := oc_243_0; by omega)) | (rw [shC_d (by rw [← e1x1]; exact c1x5)]; show ¬ (TWO (s.2.2.1 32 1).toInt x1 x2 ∧ 0 ≤ x3.toInt ∧ x3.toInt ≤ 200000000); rw [← e_32_1]; exact (have a0 := in_u i10x2x9; have a1 := in_u ro_32_1; have a2 := in_u i10x2x9a; have a3 := in_u i1x5; have a4 := in_u i10x10x9; have oc := oc_243_0; by omega))
                    exact (hX _ _ ⟨Or.inl ⟨rfl, n32⟩, s, hI, fr_rf, rfl⟩)
                · skip
                  exact zn_ne c13 (in_c 0 rfl) rfl
              · skip
                exact zn_ne c10x13 (in_c 0 rfl) rfl
            · skip
              have i10x10x9 := r_lt1 0 31 c10x10x9 i10x10x1 i10x2x9a rfl
              refine g_iconst 1 13 (gd rfl) rfl rfl ?_
              refine g_goto 17 (gd rfl) rfl ?_
              refine g_ireturn (gd rfl) rfl (nb01 (in_w 0 1 (in_c 1 rfl) rfl)) (hp10x10 _ _ ?_)
              show GG _ _ _ _ _ _ _ _ [.int (Int32.ofInt 1)] _ _ _
              refine g_if_eq 16 25 (gd rfl) rfl rfl (fun c10x13 => ?_) (fun c10x13 => ?_)
              · skip
                exact zn_eq c10x13 (in_c 1 rfl) rfl
              · skip
                refine g_iload_n 17 (gd rfl) rfl rfl ?_
                refine g_iload_n 18 (gd rfl) rfl rfl ?_
                refine g_cmp_eq 21 25 (gd rfl) rfl rfl (fun c10x18 => ?_) (fun c10x18 => ?_)
                · skip
                  refine g_iconst 0 26 (gd rfl) rfl rfl ?_
                  refine g_ireturn (gd rfl) rfl (nb01 (in_w 0 1 (in_c 0 rfl) rfl)) (hp10 _ _ ?_)
                  show GG _ _ _ _ _ _ _ _ [.int (Int32.ofInt 0)] _ _ _
                  refine g_if_eq 16 31 (gd rfl) rfl rfl (fun c13 => ?_) (fun c13 => ?_)
                  · skip
                    refine g_iconst 0 32 (gd rfl) rfl rfl ?_
                    refine g_thr (E := am_IA) (y := yX11_allow) 35 (gd rfl) rfl rfl (Or.inl ⟨rfl, rfl, rfl⟩) (by first | exact dq1 hd rfl | exact dq0 hd rfl | exact dq2 hd rfl | exact dq3 hd rfl | omega) (Nat.le_of_ble_eq_true rfl) (Nat.le_of_ble_eq_true rfl) (Nat.le_of_ble_eq_true rfl) (fun c32 => ?_) (fun c32 => ?_)
                    · skip
                      exact zn_ne c32 (in_c 0 rfl) rfl
                    · skip
                      have n32 : ¬ ((TWO (shC s).2.2.2.2.2.2.1 x1 x2) ∧ 0 ≤ x3.toInt ∧ x3.toInt ≤ 200000000) := by first | (rw [shC_n (by rw [← e1x1]; exact c1x5)]; show ¬ (TWO (s.2.2.1 2 1).toInt x1 x2 ∧ 0 ≤ x3.toInt ∧ x3.toInt ≤ 200000000); rw [← e_2_1]; exact (have a0 := in_u i10x10x9; have a1 := in_u i10x2x9; have a2 := in_u ro_32_1; have a3 := in_u i10x2x9a; have a4 := in_u i1x5; have oc := oc_243_0; by omega)) | (rw [shC_d (by rw [← e1x1]; exact c1x5)]; show ¬ (TWO (s.2.2.1 32 1).toInt x1 x2 ∧ 0 ≤ x3.toInt ∧ x3.toInt ≤ 200000000); rw [← e_32_1]; exact (have a0 := in_u i10x10x9; have a1 := in_u i10x2x9; have a2 := in_u ro_32_1; have a3 := in_u i10x2x9a; have a4 := in_u i1x5; have oc := oc_243_0; by omega))
                      exact (hX _ _ ⟨Or.inl ⟨rfl, n32⟩, s, hI, fr_rf, rfl⟩)
                  · skip
                    exact zn_ne c13 (in_c 0 rfl) rfl
                · skip
                  refine g_iconst 1 22 (gd rfl) rfl rfl ?_
                  refine g_goto 26 (gd rfl) rfl ?_
                  refine g_ireturn (gd rfl) rfl (nb01 (in_w 0 1 (in_c 1 rfl) rfl)) (hp10 _ _ ?_)
                  show GG _ _ _ _ _ _ _ _ [.int (Int32.ofInt 1)] _ _ _
                  refine g_if_eq 16 31 (gd rfl) rfl rfl (fun c13 => ?_) (fun c13 => ?_)
                  · skip
                    exact zn_eq c13 (in_c 1 rfl) rfl
                  · skip
                    refine g_iload_n 17 (gd rfl) rfl rfl ?_
                    refine g_if_lt 20 31 (gd rfl) rfl rfl (fun c17 => ?_) (fun c17 => ?_)
                    · skip
                      have i17 := z_lt (-2147483648) (-1) c17 (i_rng x3) rfl
                      refine g_iconst 0 32 (gd rfl) rfl rfl ?_
                      refine g_thr (E := am_IA) (y := yX11_allow) 35 (gd rfl) rfl rfl (Or.inl ⟨rfl, rfl, rfl⟩) (by first | exact dq1 hd rfl | exact dq0 hd rfl | exact dq2 hd rfl | exact dq3 hd rfl | omega) (Nat.le_of_ble_eq_true rfl) (Nat.le_of_ble_eq_true rfl) (Nat.le_of_ble_eq_true rfl) (fun c32 => ?_) (fun c32 => ?_)
                      · skip
                        exact zn_ne c32 (in_c 0 rfl) rfl
                      · skip
                        have n32 : ¬ ((TWO (shC s).2.2.2.2.2.2.1 x1 x2) ∧ 0 ≤ x3.toInt ∧ x3.toInt ≤ 200000000) := by first | (rw [shC_n (by rw [← e1x1]; exact c1x5)]; show ¬ (TWO (s.2.2.1 2 1).toInt x1 x2 ∧ 0 ≤ x3.toInt ∧ x3.toInt ≤ 200000000); rw [← e_2_1]; exact (have a0 := in_u i10x10x9; have a1 := in_u i10x2x9; have a2 := in_u ro_32_1; have a3 := in_u i10x2x9a; have a4 := in_u i1x5; have a5 := in_u i17; have oc := oc_243_0; by omega)) | (rw [shC_d (by rw [← e1x1]; exact c1x5)]; show ¬ (TWO (s.2.2.1 32 1).toInt x1 x2 ∧ 0 ≤ x3.toInt ∧ x3.toInt ≤ 200000000); rw [← e_32_1]; exact (have a0 := in_u i10x10x9; have a1 := in_u i10x2x9; have a2 := in_u ro_32_1; have a3 := in_u i10x2x9a; have a4 := in_u i1x5; have a5 := in_u i17; have oc := oc_243_0; by omega))
                        exact (hX _ _ ⟨Or.inl ⟨rfl, n32⟩, s, hI, fr_rf, rfl⟩)
                    · skip
                      have i17 := z_ge 0 2147483647 c17 (i_rng x3) rfl
                      refine g_iload_n 21 (gd rfl) rfl rfl ?_
                      refine g_ldc_w 200000000 24 (gd rfl) rfl rfl ?_
                      refine g_cmp_gt 27 31 (gd rfl) rfl rfl (fun c24 => ?_) (fun c24 => ?_)
                      · skip
                        have i24 := r_lt2 200000001 2147483647 c24 (in_c 200000000 rfl) i17 rfl
                        refine g_iconst 0 32 (gd rfl) rfl rfl ?_
                        refine g_thr (E := am_IA) (y := yX11_allow) 35 (gd rfl) rfl rfl (Or.inl ⟨rfl, rfl, rfl⟩) (by first | exact dq1 hd rfl | exact dq0 hd rfl | exact dq2 hd rfl | exact dq3 hd rfl | omega) (Nat.le_of_ble_eq_true rfl) (Nat.le_of_ble_eq_true rfl) (Nat.le_of_ble_eq_true rfl) (fun c32 => ?_) (fun c32 => ?_)
                        · skip
                          exact zn_ne c32 (in_c 0 rfl) rfl
                        · skip
                          have n32 : ¬ ((TWO (shC s).2.2.2.2.2.2.1 x1 x2) ∧ 0 ≤ x3.toInt ∧ x3.toInt ≤ 200000000) := by first | (rw [shC_n (by rw [← e1x1]; exact c1x5)]; show ¬ (TWO (s.2.2.1 2 1).toInt x1 x2 ∧ 0 ≤ x3.toInt ∧ x3.toInt ≤ 200000000); rw [← e_2_1]; exact (have a0 := in_u i10x10x9; have a1 := in_u i10x2x9; have a2 := in_u ro_32_1; have a3 := in_u i10x2x9a; have a4 := in_u i1x5; have a5 := in_u i24; have oc := oc_243_0; by omega)) | (rw [shC_d (by rw [← e1x1]; exact c1x5)]; show ¬ (TWO (s.2.2.1 32 1).toInt x1 x2 ∧ 0 ≤ x3.toInt ∧ x3.toInt ≤ 200000000); rw [← e_32_1]; exact (have a0 := in_u i10x10x9; have a1 := in_u i10x2x9; have a2 := in_u ro_32_1; have a3 := in_u i10x2x9a; have a4 := in_u i1x5; have a5 := in_u i24; have oc := oc_243_0; by omega))
                          exact (hX _ _ ⟨Or.inl ⟨rfl, n32⟩, s, hI, fr_rf, rfl⟩)
                      · skip
                        have i24 := r_le1 0 200000000 c24 i17 (in_c 200000000 rfl) rfl
                        refine g_iconst 1 28 (gd rfl) rfl rfl ?_
                        refine g_goto 32 (gd rfl) rfl ?_
                        refine g_thr (E := am_IA) (y := yX11_allow) 35 (gd rfl) rfl rfl (Or.inl ⟨rfl, rfl, rfl⟩) (by first | exact dq1 hd rfl | exact dq0 hd rfl | exact dq2 hd rfl | exact dq3 hd rfl | omega) (Nat.le_of_ble_eq_true rfl) (Nat.le_of_ble_eq_true rfl) (Nat.le_of_ble_eq_true rfl) (fun c32 => ?_) (fun c32 => ?_)
                        · skip
                          refine g_aload_n 36 (gd rfl) rfl rfl ?_
                          refine g_getA (q2 := 65) 39 (gd rfl) rfl rfl rfl rfl ?_
                          refine g_aload 41 (gd rfl) rfl rfl ?_
                          refine g_iload_n 42 (gd rfl) rfl rfl ?_
                          refine g_iload_n 43 (gd rfl) rfl rfl ?_
                          refine g_iload_n 44 (gd rfl) rfl rfl ?_
                          have p44 : TQ s := by first | exact q_0 | exact q_1
                          have p44a : FLB (gvC s) s := by first | (rw [← shC_n (by rw [← e1x1]; exact c1x5)]; exact q_2) | (rw [← shC_d (by rw [← e1x1]; exact c1x5)]; exact q_2)
                          have p44b : (x1).toInt ≠ (x2).toInt := by exact (have a0 := in_u i10x10x9; have a1 := in_u i10x2x9; have a2 := in_u ro_32_1; have a3 := in_u i10x2x9a; have a4 := in_u i1x5; have a5 := in_u i24; have oc := oc_243_0; by omega)
                          refine g_callv (X := _) (As := [.ref (A 2), .int x1, .int x2, .int x3]) (r := []) (b := A 65) (q := 65) 47 (gd rfl) rfl rfl rfl rfl rfl (ww_o rfl) (Nat.le_of_ble_eq_true rfl) (Nat.zero_le _) (Nat.zero_le _) (f_79_65_2 (by first | exact dq1 hd rfl | exact dq0 hd rfl | exact dq2 hd rfl | exact dq3 hd rfl | omega) hI (in_w 0 31 i10x2x9 rfl) (in_w 0 31 i10x10x9 rfl) (in_w 0 200000000 i24 rfl) p44 p44a p44b) (fun e u h => h) (fun v u h => ?_)
                          obtain ⟨s44, hI44, hF44, z44, rfl, rfl, p44c⟩ := h
                          show GG _ _ _ _ _ _ _ _ [.long z44] _ _ _
                          have n47 : ((TWO (shC s).2.2.2.2.2.2.1 x1 x2) ∧ 0 ≤ x3.toInt ∧ x3.toInt ≤ 200000000) ∧ True := by first | (rw [shC_n (by rw [← e1x1]; exact c1x5)]; exact ⟨⟨⟨⟨by exact (have a0 := in_u i10x10x9; have a1 := in_u i10x2x9; have a2 := in_u ro_32_1; have a3 := in_u i10x2x9a; have a4 := in_u i1x5; have a5 := in_u i24; have oc := oc_243_0; by omega), by show x1.toInt < (s.2.2.1 2 1).toInt; rw [← e_2_1]; exact (have a0 := in_u i10x10x9; have a1 := in_u i10x2x9; have a2 := in_u ro_32_1; have a3 := in_u i10x2x9a; have a4 := in_u i1x5; have a5 := in_u i24; have oc := oc_243_0; by omega)⟩, ⟨by exact (have a0 := in_u i10x10x9; have a1 := in_u i10x2x9; have a2 := in_u ro_32_1; have a3 := in_u i10x2x9a; have a4 := in_u i1x5; have a5 := in_u i24; have oc := oc_243_0; by omega), by show x2.toInt < (s.2.2.1 2 1).toInt; rw [← e_2_1]; exact (have a0 := in_u i10x10x9; have a1 := in_u i10x2x9; have a2 := in_u ro_32_1; have a3 := in_u i10x2x9a; have a4 := in_u i1x5; have a5 := in_u i24; have oc := oc_243_0; by omega)⟩, by exact (have a0 := in_u i10x10x9; have a1 := in_u i10x2x9; have a2 := in_u ro_32_1; have a3 := in_u i10x2x9a; have a4 := in_u i1x5; have a5 := in_u i24; have oc := oc_243_0; by omega)⟩, by exact (have a0 := in_u i10x10x9; have a1 := in_u i10x2x9; have a2 := in_u ro_32_1; have a3 := in_u i10x2x9a; have a4 := in_u i1x5; have a5 := in_u i24; have oc := oc_243_0; by omega), by exact (have a0 := in_u i10x10x9; have a1 := in_u i10x2x9; have a2 := in_u ro_32_1; have a3 := in_u i10x2x9a; have a4 := in_u i1x5; have a5 := in_u i24; have oc := oc_243_0; by omega)⟩, trivial⟩) | (rw [shC_d (by rw [← e1x1]; exact c1x5)]; exact ⟨⟨⟨⟨by exact (have a0 := in_u i10x10x9; have a1 := in_u i10x2x9; have a2 := in_u ro_32_1; have a3 := in_u i10x2x9a; have a4 := in_u i1x5; have a5 := in_u i24; have oc := oc_243_0; by omega), by show x1.toInt < (s.2.2.1 32 1).toInt; rw [← e_32_1]; exact (have a0 := in_u i10x10x9; have a1 := in_u i10x2x9; have a2 := in_u ro_32_1; have a3 := in_u i10x2x9a; have a4 := in_u i1x5; have a5 := in_u i24; have oc := oc_243_0; by omega)⟩, ⟨by exact (have a0 := in_u i10x10x9; have a1 := in_u i10x2x9; have a2 := in_u ro_32_1; have a3 := in_u i10x2x9a; have a4 := in_u i1x5; have a5 := in_u i24; have oc := oc_243_0; by omega), by show x2.toInt < (s.2.2.1 32 1).toInt; rw [← e_32_1]; exact (have a0 := in_u i10x10x9; have a1 := in_u i10x2x9; have a2 := in_u ro_32_1; have a3 := in_u i10x2x9a; have a4 := in_u i1x5; have a5 := in_u i24; have oc := oc_243_0; by omega)⟩, by exact (have a0 := in_u i10x10x9; have a1 := in_u i10x2x9; have a2 := in_u ro_32_1; have a3 := in_u i10x2x9a; have a4 := in_u i1x5; have a5 := in_u i24; have oc := oc_243_0; by omega)⟩, by exact (have a0 := in_u i10x10x9; have a1 := in_u i10x2x9; have a2 := in_u ro_32_1; have a3 := in_u i10x2x9a; have a4 := in_u i1x5; have a5 := in_u i24; have oc := oc_243_0; by omega), by exact (have a0 := in_u i10x10x9; have a1 := in_u i10x2x9; have a2 := in_u ro_32_1; have a3 := in_u i10x2x9a; have a4 := in_u i1x5; have a5 := in_u i24; have oc := oc_243_0; by omega)⟩, trivial⟩)
                          have n47a : FLQ (shC s) s44 := by first | (rw [shC_n (by rw [← e1x1]; exact c1x5)]; exact p44c) | (rw [shC_d (by rw [← e1x1]; exact c1x5)]; exact p44c)
                          exact g_lreturn (gd rfl) rfl (hP _ _ ⟨s44, hI44, (fr_tr rfl fr_rf hF44), z44, rfl, rfl, n47, n47a⟩)
                        · skip
                          exact zn_eq c32 (in_c 1 rfl) rfl
end
