section
/-! methods, by vc.py -/
def fm_78_65 : FM := ([66, 67], [], [], [])
/-- GraphHouse$Flows.push -/
theorem k_78_65 {Z : AmZ} {A : Nat → Nat} {s : GS} {ex : va_W} {d : Nat} {X : AmX} {x1 : Int32} {x2 : Int32} {u_65_4 : Int32} (hd : 3 ≤ d) (hI : Inv s) (h1 : In x1 0 31) (h2 : In x2 0 31) (e_65_4 : u_65_4 = s.2.2.1 65 4) (q_0 : RV (s.1 68) (s.2.2.1 65 4) x1) (q_1 : bt (s.2.2.1 65 4) (x2).toNatClampNeg = true) : GC Z d 78 [.ref (A 65), .int x1, .int x2] (WW Z A s ++ ex) 0 0 (fun v u => ∃ t : GS, Inv t ∧ Fr fm_78_65 s t ∧ ∃ z : Int32, v = some (.int z) ∧ u = WW Z A t ++ ex ∧ In z (-2147483648) 160000000) X := by
  intro post xp hP hX
  have ct66 : ∀ (k66 : Nat) (sc66 : GS) (y66_3 : Int32) (y66_4 : Int32) (y66_5 : Int32), Inv sc66 → Fr fm_78_65 s sc66 → (In y66_3 (-2147483648) 160000000) → (In y66_4 0 31) → (In y66_5 0 32) → (bt u_65_4 (y66_4).toNatClampNeg = true) → 32 - (y66_5).toInt < (k66 : Int) → GG Z (d - 1) 78 post (gx xp) (1 + k66 * 900) 66 (fun j => xlook j [(0, .ref (A 65)), (1, .int x1), (2, .int x2), (3, .int y66_3), (4, .int y66_4), (5, .int y66_5)]) [] (WW Z A sc66 ++ ex) 0 0 := by
    intro k66
    induction k66 with
    | zero => intro sc66 y66_3 y66_4 y66_5 hIc66 hFc66 j66_3 j66_4 j66_5 g66_0 mm66; exact m_no mm66 j66_5 rfl
    | succ k66 ih66 =>
      intro sc66 y66_3 y66_4 y66_5 hIc66 hFc66 j66_3 j66_4 j66_5 g66_0 mm66
      refine gg_w (M := 1 + k66 * 900 + 900) gws ?_
      refine g_iload 68 (gd rfl) rfl rfl ?_
      refine g_bipush 32 70 (gd rfl) rfl rfl ?_
      refine g_cmp_ge 73 178 (gd rfl) rfl rfl (fun c70 => ?_) (fun c70 => ?_)
      · skip
        have i70 := r_le2 32 32 c70 (in_c 32 rfl) j66_5 rfl
        refine g_iload_n 179 (gd rfl) rfl rfl ?_
        exact g_ireturn (gd rfl) rfl rfl (hP _ _ ⟨sc66, hIc66, hFc66, y66_3, rfl, rfl, in_w (-2147483648) 160000000 j66_3 rfl⟩)
      · skip
        have i70 := r_lt1 0 31 c70 j66_5 (in_c 32 rfl) rfl
        refine g_iload 75 (gd rfl) rfl rfl ?_
        refine g_iload_n 76 (gd rfl) rfl rfl ?_
        refine g_cmp_eq 79 178 (gd rfl) rfl rfl (fun c76 => ?_) (fun c76 => ?_)
        · skip
          refine g_iload_n 179 (gd rfl) rfl rfl ?_
          exact g_ireturn (gd rfl) rfl rfl (hP _ _ ⟨sc66, hIc66, hFc66, y66_3, rfl, rfl, in_w (-2147483648) 160000000 j66_3 rfl⟩)
        · skip
          refine g_aload_n 80 (gd rfl) rfl rfl ?_
          refine g_getA (q2 := 68) 83 (gd rfl) rfl rfl rfl rfl ?_
          refine g_iload 85 (gd rfl) rfl rfl ?_
          refine g_iaload 86 (gd rfl) rfl (n := 32) rfl (in_ix j66_4 rfl) (fun z85 e85 => ?_)
          have i85 := inv_I hIc66 (n := 32) (t := 0) (-1) 319 rfl (in_ix j66_4 rfl) rfl e85
          have hr86 : In z85 0 31 ∧ bt (s.2.2.1 65 4) (z85).toNatClampNeg = true := by have hf := (hFc66 : Fr fm_78_65 s sc66).1 68 rfl; have hr := q_0 (y66_4).toNatClampNeg (by rw [← e_65_4]; exact g66_0) (by intro w; apply c76; have hq := j66_4; unfold In at hq; have hw : (((y66_4).toInt.toNat : Nat) : Int) = (x1).toInt := w; omega); rw [← hf, ← e85] at hr; exact hr
          have i86 : In z85 0 31 := by exact hr86.1
          refine g_istore 88 (gd rfl) rfl (Nat.le_of_ble_eq_true rfl) ?_
          refine g_aload_n 89 (gd rfl) rfl rfl ?_
          refine g_getA (q2 := 66) 92 (gd rfl) rfl rfl rfl rfl ?_
          refine g_iload 94 (gd rfl) rfl rfl ?_
          refine g_bipush 32 96 (gd rfl) rfl rfl ?_
          refine g_imul 97 (gd rfl) rfl (fun z96 e96 => ?_)
          have i96 := in_mulc 32 0 992 (Or.inr e96) i86 rfl rfl
          refine g_iload 99 (gd rfl) rfl rfl ?_
          refine g_iadd 100 (gd rfl) rfl (fun z99 e99 => ?_)
          have i99 := in_add 0 1023 e99 i96 j66_4 rfl rfl
          refine g_dup2 101 (gd rfl) rfl rfl rfl ?_
          refine g_iaload 102 (gd rfl) rfl (n := 1024) rfl (in_ix i99 rfl) (fun z101 e101 => ?_)
          refine g_iload_n 103 (gd rfl) rfl rfl ?_
          refine g_isub 104 (gd rfl) rfl (fun z103 e103 => ?_)
          refine g_iastore 105 (gd rfl) rfl (n := 1024) rfl (in_ix i99 rfl) ?_
          have hI104 := inv_sI (q := 66) (j := z99.toNatClampNeg) hIc66 rfl (in_w (-2147483648) 2147483647 (i_rng z103) rfl)
          refine g_aload_n 106 (gd rfl) rfl rfl ?_
          refine g_getA (q2 := 66) 109 (gd rfl) rfl rfl rfl rfl ?_
          refine g_iload 111 (gd rfl) rfl rfl ?_
          refine g_bipush 32 113 (gd rfl) rfl rfl ?_
          refine g_imul 114 (gd rfl) rfl (fun z113 e113 => ?_)
          have i113 := in_mulc 32 0 992 (Or.inr e113) i86 rfl rfl
          refine g_iload 116 (gd rfl) rfl rfl ?_
          refine g_iadd 117 (gd rfl) rfl (fun z116 e116 => ?_)
          have i116 := in_add 0 1023 e116 i113 j66_4 rfl rfl
          refine g_iaload 118 (gd rfl) rfl (n := 1024) rfl (in_ix i116 rfl) (fun z117 e117 => ?_)
          refine g_if_ne 121 137 (gd rfl) rfl rfl (fun c118 => ?_) (fun c118 => ?_)
          · skip
            refine g_aload_n 138 (gd rfl) rfl rfl ?_
            refine g_getA (q2 := 66) 141 (gd rfl) rfl rfl rfl rfl ?_
            refine g_iload 143 (gd rfl) rfl rfl ?_
            refine g_bipush 32 145 (gd rfl) rfl rfl ?_
            refine g_imul 146 (gd rfl) rfl (fun z145 e145 => ?_)
            have i145 := in_mulc 32 0 992 (Or.inr e145) j66_4 rfl rfl
            refine g_iload 148 (gd rfl) rfl rfl ?_
            refine g_iadd 149 (gd rfl) rfl (fun z148 e148 => ?_)
            have i148 := in_add 0 1023 e148 i145 i86 rfl rfl
            refine g_dup2 150 (gd rfl) rfl rfl rfl ?_
            refine g_iaload 151 (gd rfl) rfl (n := 1024) rfl (in_ix i148 rfl) (fun z150 e150 => ?_)
            refine g_iload_n 152 (gd rfl) rfl rfl ?_
            refine g_iadd 153 (gd rfl) rfl (fun z152 e152 => ?_)
            refine g_iastore 154 (gd rfl) rfl (n := 1024) rfl (in_ix i148 rfl) ?_
            have hI153 := inv_sI (q := 66) (j := z148.toNatClampNeg) hI104 rfl (in_w (-2147483648) 2147483647 (i_rng z152) rfl)
            refine g_aload_n 155 (gd rfl) rfl rfl ?_
            refine g_getA (q2 := 67) 158 (gd rfl) rfl rfl rfl rfl ?_
            refine g_iload 160 (gd rfl) rfl rfl ?_
            refine g_dup2 161 (gd rfl) rfl rfl rfl ?_
            refine g_iaload 162 (gd rfl) rfl (n := 32) rfl (in_ix j66_4 rfl) (fun z161 e161 => ?_)
            refine g_iconst 1 163 (gd rfl) rfl rfl ?_
            refine g_iload 165 (gd rfl) rfl rfl ?_
            refine g_ishl 166 (gd rfl) rfl (fun z165 e165 => ?_)
            refine g_ior 167 (gd rfl) rfl (fun z166 e166 => ?_)
            refine g_iastore 168 (gd rfl) rfl (n := 32) rfl (in_ix j66_4 rfl) ?_
            have hI167 := inv_sI (q := 67) (j := y66_4.toNatClampNeg) hI153 rfl (in_w (-2147483648) 2147483647 (i_rng z166) rfl)
            refine g_iload 170 (gd rfl) rfl rfl ?_
            refine g_istore 172 (gd rfl) rfl (Nat.le_of_ble_eq_true rfl) ?_
            refine g_iinc 175 (gd rfl) rfl rfl (Nat.le_of_ble_eq_true rfl) (fun z172 e172 => ?_)
            have i172 := in_add 1 32 e172 i70 (in_c 1 rfl) rfl rfl
            refine g_goto 66 (gd rfl) rfl ?_
            have n66 : bt u_65_4 (z85).toNatClampNeg = true := by first | (rw [e_65_4]; exact q_1) | (rw [e_65_4]; exact hr86.2)
            exact gg_w (by first | exact Nat.le_add_right _ _ | exact gw2 | exact gw3 | exact gwe rfl | exact gwf rfl | exact gwg rfl | exact gwh rfl | omega) (gg_f (gf_cons rfl (gf_cons rfl (gf_cons rfl (gf_cons rfl (gf_cons rfl (gf_cons rfl gf_nil)))))) (ih66 (sI (sI (sI sc66 66 z99.toNatClampNeg z103) 66 z148.toNatClampNeg z152) 67 y66_4.toNatClampNeg z166) y66_3 z85 z172 hI167 (fr_sI rfl (fr_sI rfl (fr_sI rfl hFc66))) (in_w (-2147483648) 160000000 j66_3 rfl) (in_w 0 31 i86 rfl) (in_w 0 32 i172 rfl) n66 (m_up mm66 (t_add e172 i70 (in_c 1 rfl) rfl) (in_w 1 1 (in_c 1 rfl) rfl))))
          · skip
            have i118 := z_eq 0 0 c118 (i_rng z117) rfl
            refine g_aload_n 122 (gd rfl) rfl rfl ?_
            refine g_getA (q2 := 67) 125 (gd rfl) rfl rfl rfl rfl ?_
            refine g_iload 127 (gd rfl) rfl rfl ?_
            refine g_dup2 128 (gd rfl) rfl rfl rfl ?_
            refine g_iaload 129 (gd rfl) rfl (n := 32) rfl (in_ix i86 rfl) (fun z128 e128 => ?_)
            refine g_iconst 1 130 (gd rfl) rfl rfl ?_
            refine g_iload 132 (gd rfl) rfl rfl ?_
            refine g_ishl 133 (gd rfl) rfl (fun z132 e132 => ?_)
            refine g_iconst (-1) 134 (gd rfl) rfl rfl ?_
            refine g_ixor 135 (gd rfl) rfl (fun z134 e134 => ?_)
            refine g_iand 136 (gd rfl) rfl (fun z135 e135 => ?_)
            refine g_iastore 137 (gd rfl) rfl (n := 32) rfl (in_ix i86 rfl) ?_
            have hI136 := inv_sI (q := 67) (j := z85.toNatClampNeg) hI104 rfl (in_w (-2147483648) 2147483647 (i_rng z135) rfl)
            refine g_aload_n 138 (gd rfl) rfl rfl ?_
            refine g_getA (q2 := 66) 141 (gd rfl) rfl rfl rfl rfl ?_
            refine g_iload 143 (gd rfl) rfl rfl ?_
            refine g_bipush 32 145 (gd rfl) rfl rfl ?_
            refine g_imul 146 (gd rfl) rfl (fun z145 e145 => ?_)
            have i145 := in_mulc 32 0 992 (Or.inr e145) j66_4 rfl rfl
            refine g_iload 148 (gd rfl) rfl rfl ?_
            refine g_iadd 149 (gd rfl) rfl (fun z148 e148 => ?_)
            have i148 := in_add 0 1023 e148 i145 i86 rfl rfl
            refine g_dup2 150 (gd rfl) rfl rfl rfl ?_
            refine g_iaload 151 (gd rfl) rfl (n := 1024) rfl (in_ix i148 rfl) (fun z150 e150 => ?_)
            refine g_iload_n 152 (gd rfl) rfl rfl ?_
            refine g_iadd 153 (gd rfl) rfl (fun z152 e152 => ?_)
            refine g_iastore 154 (gd rfl) rfl (n := 1024) rfl (in_ix i148 rfl) ?_
            have hI153 := inv_sI (q := 66) (j := z148.toNatClampNeg) hI136 rfl (in_w (-2147483648) 2147483647 (i_rng z152) rfl)
            refine g_aload_n 155 (gd rfl) rfl rfl ?_
            refine g_getA (q2 := 67) 158 (gd rfl) rfl rfl rfl rfl ?_
            refine g_iload 160 (gd rfl) rfl rfl ?_
            refine g_dup2 161 (gd rfl) rfl rfl rfl ?_
            refine g_iaload 162 (gd rfl) rfl (n := 32) rfl (in_ix j66_4 rfl) (fun z161 e161 => ?_)
            refine g_iconst 1 163 (gd rfl) rfl rfl ?_
            refine g_iload 165 (gd rfl) rfl rfl ?_
            refine g_ishl 166 (gd rfl) rfl (fun z165 e165 => ?_)
            refine g_ior 167 (gd rfl) rfl (fun z166 e166 => ?_)
            refine g_iastore 168 (gd rfl) rfl (n := 32) rfl (in_ix j66_4 rfl) ?_
            have hI167 := inv_sI (q := 67) (j := y66_4.toNatClampNeg) hI153 rfl (in_w (-2147483648) 2147483647 (i_rng z166) rfl)
            refine g_iload 170 (gd rfl) rfl rfl ?_
            refine g_istore 172 (gd rfl) rfl (Nat.le_of_ble_eq_true rfl) ?_
            refine g_iinc 175 (gd rfl) rfl rfl (Nat.le_of_ble_eq_true rfl) (fun z172 e172 => ?_)
            have i172 := in_add 1 32 e172 i70 (in_c 1 rfl) rfl rfl
            refine g_goto 66 (gd rfl) rfl ?_
            have n66 : bt u_65_4 (z85).toNatClampNeg = true := by first | (rw [e_65_4]; exact q_1) | (rw [e_65_4]; exact hr86.2)
            exact gg_w (by first | exact Nat.le_add_right _ _ | exact gw2 | exact gw3 | exact gwe rfl | exact gwf rfl | exact gwg rfl | exact gwh rfl | omega) (gg_f (gf_cons rfl (gf_cons rfl (gf_cons rfl (gf_cons rfl (gf_cons rfl (gf_cons rfl gf_nil)))))) (ih66 (sI (sI (sI (sI sc66 66 z99.toNatClampNeg z103) 67 z85.toNatClampNeg z135) 66 z148.toNatClampNeg z152) 67 y66_4.toNatClampNeg z166) y66_3 z85 z172 hI167 (fr_sI rfl (fr_sI rfl (fr_sI rfl (fr_sI rfl hFc66)))) (in_w (-2147483648) 160000000 j66_3 rfl) (in_w 0 31 i86 rfl) (in_w 0 32 i172 rfl) n66 (m_up mm66 (t_add e172 i70 (in_c 1 rfl) rfl) (in_w 1 1 (in_c 1 rfl) rfl))))
  have ct9 : ∀ (k9 : Nat) (sc9 : GS) (y9_3 : Int32) (y9_4 : Int32) (y9_5 : Int32), Inv sc9 → Fr fm_78_65 s sc9 → (In y9_3 (-2147483648) 160000000) → (In y9_4 0 31) → (In y9_5 0 32) → (bt u_65_4 (y9_4).toNatClampNeg = true) → 32 - (y9_5).toInt < (k9 : Int) → GG Z (d - 1) 78 post (gx xp) (29702 + k9 * 900) 9 (fun j => xlook j [(0, .ref (A 65)), (1, .int x1), (2, .int x2), (3, .int y9_3), (4, .int y9_4), (5, .int y9_5)]) [] (WW Z A sc9 ++ ex) 0 0 := by
    intro k9
    induction k9 with
    | zero => intro sc9 y9_3 y9_4 y9_5 hIc9 hFc9 j9_3 j9_4 j9_5 g9_0 mm9; exact m_no mm9 j9_5 rfl
    | succ k9 ih9 =>
      intro sc9 y9_3 y9_4 y9_5 hIc9 hFc9 j9_3 j9_4 j9_5 g9_0 mm9
      refine gg_w (M := 29702 + k9 * 900 + 900) gws ?_
      refine g_iload 11 (gd rfl) rfl rfl ?_
      refine g_bipush 32 13 (gd rfl) rfl rfl ?_
      refine g_cmp_ge 16 60 (gd rfl) rfl rfl (fun c13 => ?_) (fun c13 => ?_)
      · skip
        have i13 := r_le2 32 32 c13 (in_c 32 rfl) j9_5 rfl
        refine g_iload_n 61 (gd rfl) rfl rfl ?_
        refine g_istore 63 (gd rfl) rfl (Nat.le_of_ble_eq_true rfl) ?_
        refine g_iconst 0 64 (gd rfl) rfl rfl ?_
        refine g_istore 66 (gd rfl) rfl (Nat.le_of_ble_eq_true rfl) ?_
        have n66 : bt u_65_4 (x2).toNatClampNeg = true := by first | (rw [e_65_4]; exact q_1) | (rw [e_65_4]; exact hr86.2)
        exact gg_w (by first | exact Nat.le_add_right _ _ | exact gw2 | exact gw3 | exact gwe rfl | exact gwf rfl | exact gwg rfl | exact gwh rfl | omega) (gg_f (gf_cons rfl (gf_cons rfl (gf_cons rfl (gf_cons rfl (gf_cons rfl (gf_cons rfl gf_nil)))))) (ct66 33 sc9 y9_3 x2 (Int32.ofInt 0) hIc9 hFc9 (in_w (-2147483648) 160000000 j9_3 rfl) (in_w 0 31 h2 rfl) (in_w 0 32 (in_c 0 rfl) rfl) n66 (m_in 33 (in_w 0 32 (in_c 0 rfl) rfl) rfl)))
      · skip
        have i13 := r_lt1 0 31 c13 j9_5 (in_c 32 rfl) rfl
        refine g_iload 18 (gd rfl) rfl rfl ?_
        refine g_iload_n 19 (gd rfl) rfl rfl ?_
        refine g_cmp_eq 22 60 (gd rfl) rfl rfl (fun c19 => ?_) (fun c19 => ?_)
        · skip
          refine g_iload_n 61 (gd rfl) rfl rfl ?_
          refine g_istore 63 (gd rfl) rfl (Nat.le_of_ble_eq_true rfl) ?_
          refine g_iconst 0 64 (gd rfl) rfl rfl ?_
          refine g_istore 66 (gd rfl) rfl (Nat.le_of_ble_eq_true rfl) ?_
          have n66 : bt u_65_4 (x2).toNatClampNeg = true := by first | (rw [e_65_4]; exact q_1) | (rw [e_65_4]; exact hr86.2)
          exact gg_w (by first | exact Nat.le_add_right _ _ | exact gw2 | exact gw3 | exact gwe rfl | exact gwf rfl | exact gwg rfl | exact gwh rfl | omega) (gg_f (gf_cons rfl (gf_cons rfl (gf_cons rfl (gf_cons rfl (gf_cons rfl (gf_cons rfl gf_nil)))))) (ct66 33 sc9 y9_3 x2 (Int32.ofInt 0) hIc9 hFc9 (in_w (-2147483648) 160000000 j9_3 rfl) (in_w 0 31 h2 rfl) (in_w 0 32 (in_c 0 rfl) rfl) n66 (m_in 33 (in_w 0 32 (in_c 0 rfl) rfl) rfl)))
        · skip
          refine g_iload_n 23 (gd rfl) rfl rfl ?_
          refine g_aload_n 24 (gd rfl) rfl rfl ?_
          refine g_getA (q2 := 66) 27 (gd rfl) rfl rfl rfl rfl ?_
          refine g_aload_n 28 (gd rfl) rfl rfl ?_
          refine g_getA (q2 := 68) 31 (gd rfl) rfl rfl rfl rfl ?_
          refine g_iload 33 (gd rfl) rfl rfl ?_
          refine g_iaload 34 (gd rfl) rfl (n := 32) rfl (in_ix j9_4 rfl) (fun z33 e33 => ?_)
          have i33 := inv_I hIc9 (n := 32) (t := 0) (-1) 319 rfl (in_ix j9_4 rfl) rfl e33
          have hr34 : In z33 0 31 ∧ bt (s.2.2.1 65 4) (z33).toNatClampNeg = true := by have hf := (hFc9 : Fr fm_78_65 s sc9).1 68 rfl; have hr := q_0 (y9_4).toNatClampNeg (by rw [← e_65_4]; exact g9_0) (by intro w; apply c19; have hq := j9_4; unfold In at hq; have hw : (((y9_4).toInt.toNat : Nat) : Int) = (x1).toInt := w; omega); rw [← hf, ← e33] at hr; exact hr
          have i34 : In z33 0 31 := by exact hr34.1
          refine g_bipush 32 36 (gd rfl) rfl rfl ?_
          refine g_imul 37 (gd rfl) rfl (fun z36 e36 => ?_)
          have i36 := in_mulc 32 0 992 (Or.inr e36) i34 rfl rfl
          refine g_iload 39 (gd rfl) rfl rfl ?_
          refine g_iadd 40 (gd rfl) rfl (fun z39 e39 => ?_)
          have i39 := in_add 0 1023 e39 i36 j9_4 rfl rfl
          refine g_iaload 41 (gd rfl) rfl (n := 1024) rfl (in_ix i39 rfl) (fun z40 e40 => ?_)
          refine g_calls (As := [.int y9_3, .int z40]) (r := []) 44 (gd rfl) rfl rfl rfl rfl rfl (Nat.le_of_ble_eq_true rfl) (mc := 0) (ms := 0) (Nat.zero_le _) (Nat.zero_le _) (P := fun v u => _) ?_ (fun v u h => h)
          intro po41 xx41 hp41 hx41
          refine g_enter2 (k := 424) (N := 300) (by first | exact dq1 hd rfl | exact dq0 hd rfl | exact dq2 hd rfl | exact dq3 hd rfl | omega) rfl (Nat.le_of_ble_eq_true rfl) ?_
          refine g_iload_n 1 (gd rfl) rfl rfl ?_
          refine g_iload_n 2 (gd rfl) rfl rfl ?_
          refine g_cmp_gt 5 9 (gd rfl) rfl rfl (fun c41x2 => ?_) (fun c41x2 => ?_)
          · skip
            have i41x2 := r_lt1 (-2147483648) 159999999 c41x2 (i_rng z40) j9_3 rfl
            have i41x2a := r_lt2 (-2147483647) 160000000 c41x2 (i_rng z40) j9_3 rfl
            refine g_iload_n 10 (gd rfl) rfl rfl ?_
            refine g_ireturn (gd rfl) rfl rfl (hp41 _ _ ?_)
            show GG _ _ _ _ _ _ _ _ [.int z40] _ _ _
            refine g_istore_n 45 (gd rfl) rfl (Nat.le_of_ble_eq_true rfl) ?_
            refine g_aload_n 46 (gd rfl) rfl rfl ?_
            refine g_getA (q2 := 68) 49 (gd rfl) rfl rfl rfl rfl ?_
            refine g_iload 51 (gd rfl) rfl rfl ?_
            refine g_iaload 52 (gd rfl) rfl (n := 32) rfl (in_ix j9_4 rfl) (fun z51 e51 => ?_)
            have q51 : z33 = z51 := (e33).trans e51.symm
            subst q51
            refine g_istore 54 (gd rfl) rfl (Nat.le_of_ble_eq_true rfl) ?_
            refine g_iinc 57 (gd rfl) rfl rfl (Nat.le_of_ble_eq_true rfl) (fun z54 e54 => ?_)
            have i54 := in_add 1 32 e54 i13 (in_c 1 rfl) rfl rfl
            refine g_goto 9 (gd rfl) rfl ?_
            have n9 : bt u_65_4 (z33).toNatClampNeg = true := by first | (rw [e_65_4]; exact q_1) | (rw [e_65_4]; exact hr34.2)
            exact gg_w (by first | exact Nat.le_add_right _ _ | exact gw2 | exact gw3 | exact gwe rfl | exact gwf rfl | exact gwg rfl | exact gwh rfl | omega) (gg_f (gf_cons rfl (gf_cons rfl (gf_cons rfl (gf_cons rfl (gf_cons rfl (gf_cons rfl gf_nil)))))) (ih9 sc9 z40 z33 z54 hIc9 hFc9 (in_w (-2147483648) 160000000 i41x2 rfl) (in_w 0 31 i34 rfl) (in_w 0 32 i54 rfl) n9 (m_up mm9 (t_add e54 i13 (in_c 1 rfl) rfl) (in_w 1 1 (in_c 1 rfl) rfl))))
          · skip
            refine g_iload_n 6 (gd rfl) rfl rfl ?_
            refine g_goto 10 (gd rfl) rfl ?_
            refine g_ireturn (gd rfl) rfl rfl (hp41 _ _ ?_)
            show GG _ _ _ _ _ _ _ _ [.int y9_3] _ _ _
            refine g_istore_n 45 (gd rfl) rfl (Nat.le_of_ble_eq_true rfl) ?_
            refine g_aload_n 46 (gd rfl) rfl rfl ?_
            refine g_getA (q2 := 68) 49 (gd rfl) rfl rfl rfl rfl ?_
            refine g_iload 51 (gd rfl) rfl rfl ?_
            refine g_iaload 52 (gd rfl) rfl (n := 32) rfl (in_ix j9_4 rfl) (fun z51 e51 => ?_)
            have q51 : z33 = z51 := (e33).trans e51.symm
            subst q51
            refine g_istore 54 (gd rfl) rfl (Nat.le_of_ble_eq_true rfl) ?_
            refine g_iinc 57 (gd rfl) rfl rfl (Nat.le_of_ble_eq_true rfl) (fun z54 e54 => ?_)
            have i54 := in_add 1 32 e54 i13 (in_c 1 rfl) rfl rfl
            refine g_goto 9 (gd rfl) rfl ?_
            have n9 : bt u_65_4 (z33).toNatClampNeg = true := by first | (rw [e_65_4]; exact q_1) | (rw [e_65_4]; exact hr34.2)
            exact gg_w (by first | exact Nat.le_add_right _ _ | exact gw2 | exact gw3 | exact gwe rfl | exact gwf rfl | exact gwg rfl | exact gwh rfl | omega) (gg_f (gf_cons rfl (gf_cons rfl (gf_cons rfl (gf_cons rfl (gf_cons rfl (gf_cons rfl gf_nil)))))) (ih9 sc9 y9_3 z33 z54 hIc9 hFc9 (in_w (-2147483648) 160000000 j9_3 rfl) (in_w 0 31 i34 rfl) (in_w 0 32 i54 rfl) n9 (m_up mm9 (t_add e54 i13 (in_c 1 rfl) rfl) (in_w 1 1 (in_c 1 rfl) rfl))))
  refine g_enter2 (k := 78) (N := 60302) (by first | exact dq1 hd rfl | exact dq0 hd rfl | exact dq2 hd rfl | exact dq3 hd rfl | omega) rfl (Nat.le_of_ble_eq_true rfl) ?_
  refine g_ldc 160000000 2 (gd rfl) rfl rfl ?_
  refine g_istore_n 3 (gd rfl) rfl (Nat.le_of_ble_eq_true rfl) ?_
  refine g_iload_n 4 (gd rfl) rfl rfl ?_
  refine g_istore 6 (gd rfl) rfl (Nat.le_of_ble_eq_true rfl) ?_
  refine g_iconst 0 7 (gd rfl) rfl rfl ?_
  refine g_istore 9 (gd rfl) rfl (Nat.le_of_ble_eq_true rfl) ?_
  have n9 : bt u_65_4 (x2).toNatClampNeg = true := by first | (rw [e_65_4]; exact q_1) | (rw [e_65_4]; exact hr34.2)
  exact gg_w (by first | exact Nat.le_of_ble_eq_true rfl | omega) (gg_f (gf_cons rfl (gf_cons rfl (gf_cons rfl (gf_cons rfl (gf_cons rfl (gf_cons rfl gf_nil)))))) (ct9 33 s (Int32.ofInt 160000000) x2 (Int32.ofInt 0) hI fr_rf (in_w (-2147483648) 160000000 (in_c 160000000 rfl) rfl) (in_w 0 31 h2 rfl) (in_w 0 32 (in_c 0 rfl) rfl) n9 (m_in 33 (in_w 0 32 (in_c 0 rfl) rfl) rfl)))

def fm_84_65 : FM := ([69, 70, 71, 72, 73], [], [(65, 8)], [])
/-- GraphHouse$Flows.lay -/
theorem k_84_65 {Z : AmZ} {A : Nat → Nat} {s : GS} {ex : va_W} {d : Nat} {X : AmX} {x1 : Int32} {x2 : Int32} {x3 : Int32} {x4 : Int32} (hd : 1 ≤ d) (hI : Inv s) (h1 : In x1 0 31) (h2 : In x2 0 31) (h3 : In x3 (-1000000) 1000000) (h4 : In x4 0 1000000) : GC Z d 84 [.ref (A 65), .int x1, .int x2, .int x3, .int x4] (WW Z A s ++ ex) 0 0 (fun v u => ∃ t : GS, Inv t ∧ Fr fm_84_65 s t ∧ v = none ∧ u = WW Z A t ++ ex) X := by
  intro post xp hP hX
  refine g_enter2 (k := 84) (N := 900) (by first | exact dq1 hd rfl | exact dq0 hd rfl | exact dq2 hd rfl | exact dq3 hd rfl | omega) rfl (Nat.le_of_ble_eq_true rfl) ?_
  refine g_aload_n 1 (gd rfl) rfl rfl ?_
  refine g_getI 4 (gd rfl) rfl rfl rfl (fun z1 e1 => ?_)
  have i1 := inv_F hI 0 160 rfl e1
  refine g_sipush 160 7 (gd rfl) rfl rfl ?_
  refine g_cmp_ge 10 71 (gd rfl) rfl rfl (fun c7 => ?_) (fun c7 => ?_)
  · skip
    have i7 := r_le2 160 160 c7 (in_c 160 rfl) i1 rfl
    exact g_return (gd rfl) rfl (hP _ _ ⟨s, hI, fr_rf, rfl, rfl⟩)
  · skip
    have i7 := r_lt1 0 159 c7 i1 (in_c 160 rfl) rfl
    refine g_aload_n 11 (gd rfl) rfl rfl ?_
    refine g_getA (q2 := 69) 14 (gd rfl) rfl rfl rfl rfl ?_
    refine g_aload_n 15 (gd rfl) rfl rfl ?_
    refine g_getI 18 (gd rfl) rfl rfl rfl (fun z15 e15 => ?_)
    have q15 : z1 = z15 := (e1).trans e15.symm
    subst q15
    refine g_iload_n 19 (gd rfl) rfl rfl ?_
    refine g_iastore 20 (gd rfl) rfl (n := 160) rfl (in_ix i7 rfl) ?_
    have hI19 := inv_sI (q := 69) (j := z1.toNatClampNeg) hI rfl (in_w 0 31 h1 rfl)
    refine g_aload_n 21 (gd rfl) rfl rfl ?_
    refine g_getA (q2 := 70) 24 (gd rfl) rfl rfl rfl rfl ?_
    refine g_aload_n 25 (gd rfl) rfl rfl ?_
    refine g_getI 28 (gd rfl) rfl rfl rfl (fun z25 e25 => ?_)
    have q25 : z1 = z25 := (sI_F (e1)).trans e25.symm
    subst q25
    refine g_iload_n 29 (gd rfl) rfl rfl ?_
    refine g_iastore 30 (gd rfl) rfl (n := 160) rfl (in_ix i7 rfl) ?_
    have hI29 := inv_sI (q := 70) (j := z1.toNatClampNeg) hI19 rfl (in_w 0 31 h2 rfl)
    refine g_aload_n 31 (gd rfl) rfl rfl ?_
    refine g_getA (q2 := 71) 34 (gd rfl) rfl rfl rfl rfl ?_
    refine g_aload_n 35 (gd rfl) rfl rfl ?_
    refine g_getI 38 (gd rfl) rfl rfl rfl (fun z35 e35 => ?_)
    have q35 : z1 = z35 := (sI_F (sI_F (e1))).trans e35.symm
    subst q35
    refine g_iload_n 39 (gd rfl) rfl rfl ?_
    refine g_iastore 40 (gd rfl) rfl (n := 160) rfl (in_ix i7 rfl) ?_
    have hI39 := inv_sI (q := 71) (j := z1.toNatClampNeg) hI29 rfl (in_w (-1000000) 1000000 h3 rfl)
    refine g_aload_n 41 (gd rfl) rfl rfl ?_
    refine g_getA (q2 := 72) 44 (gd rfl) rfl rfl rfl rfl ?_
    refine g_aload_n 45 (gd rfl) rfl rfl ?_
    refine g_getI 48 (gd rfl) rfl rfl rfl (fun z45 e45 => ?_)
    have q45 : z1 = z45 := (sI_F (sI_F (sI_F (e1)))).trans e45.symm
    subst q45
    refine g_iload 50 (gd rfl) rfl rfl ?_
    refine g_iastore 51 (gd rfl) rfl (n := 160) rfl (in_ix i7 rfl) ?_
    have hI50 := inv_sI (q := 72) (j := z1.toNatClampNeg) hI39 rfl (in_w 0 1000000 h4 rfl)
    refine g_aload_n 52 (gd rfl) rfl rfl ?_
    refine g_getA (q2 := 73) 55 (gd rfl) rfl rfl rfl rfl ?_
    refine g_aload_n 56 (gd rfl) rfl rfl ?_
    refine g_getI 59 (gd rfl) rfl rfl rfl (fun z56 e56 => ?_)
    have q56 : z1 = z56 := (sI_F (sI_F (sI_F (sI_F (e1))))).trans e56.symm
    subst q56
    refine g_iconst 0 60 (gd rfl) rfl rfl ?_
    refine g_iastore 61 (gd rfl) rfl (n := 160) rfl (in_ix i7 rfl) ?_
    have hI60 := inv_sI (q := 73) (j := z1.toNatClampNeg) hI50 rfl (in_w (-2147483648) 2147483647 (in_c 0 rfl) rfl)
    refine g_aload_n 62 (gd rfl) rfl rfl ?_
    refine g_dup 63 (gd rfl) rfl rfl ?_
    refine g_getI 66 (gd rfl) rfl rfl rfl (fun z63 e63 => ?_)
    have q63 : z1 = z63 := (sI_F (sI_F (sI_F (sI_F (sI_F (e1)))))).trans e63.symm
    subst q63
    refine g_iconst 1 67 (gd rfl) rfl rfl ?_
    refine g_iadd 68 (gd rfl) rfl (fun z67 e67 => ?_)
    have i67 := in_add 1 160 e67 i7 (in_c 1 rfl) rfl rfl
    refine g_putI 71 (gd rfl) rfl rfl rfl rfl ?_
    have hI68 := inv_sF (q := 65) (j := 8) hI60 rfl (in_w 0 160 i67 rfl)
    exact g_return (gd rfl) rfl (hP _ _ ⟨(sF (sI (sI (sI (sI (sI s 69 z1.toNatClampNeg x1) 70 z1.toNatClampNeg x2) 71 z1.toNatClampNeg x3) 72 z1.toNatClampNeg x4) 73 z1.toNatClampNeg (Int32.ofInt 0)) 65 8 z67), hI68, (fr_sF rfl (fr_sI rfl (fr_sI rfl (fr_sI rfl (fr_sI rfl (fr_sI rfl fr_rf)))))), rfl, rfl⟩)

def fm_87_65 : FM := ([68], [75], [], [])
/-- GraphHouse$Flows.relaxPipe -/
theorem k_87_65 {Z : AmZ} {A : Nat → Nat} {s : GS} {ex : va_W} {d : Nat} {X : AmX} {x1 : Int32} {x2 : Int32} (hd : 1 ≤ d) (hI : Inv s) (h1 : In x1 0 159) (h2 : In x2 1 1048576) : GC Z d 87 [.ref (A 65), .int x1, .int x2] (WW Z A s ++ ex) 0 0 (fun v u => ∃ t : GS, Inv t ∧ Fr fm_87_65 s t ∧ ∃ z : Int32, v = some (.int z) ∧ u = WW Z A t ++ ex ∧ In z 0 1) X := by
  intro post xp hP hX
  refine g_enter2 (k := 87) (N := 900) (by first | exact dq1 hd rfl | exact dq0 hd rfl | exact dq2 hd rfl | exact dq3 hd rfl | omega) rfl (Nat.le_of_ble_eq_true rfl) ?_
  refine g_aload_n 1 (gd rfl) rfl rfl ?_
  refine g_getA (q2 := 69) 4 (gd rfl) rfl rfl rfl rfl ?_
  refine g_iload_n 5 (gd rfl) rfl rfl ?_
  refine g_iaload 6 (gd rfl) rfl (n := 160) rfl (in_ix h1 rfl) (fun z5 e5 => ?_)
  have i5 := inv_I hI (n := 160) (t := 0) 0 31 rfl (in_ix h1 rfl) rfl e5
  refine g_istore_n 7 (gd rfl) rfl (Nat.le_of_ble_eq_true rfl) ?_
  refine g_aload_n 8 (gd rfl) rfl rfl ?_
  refine g_getA (q2 := 70) 11 (gd rfl) rfl rfl rfl rfl ?_
  refine g_iload_n 12 (gd rfl) rfl rfl ?_
  refine g_iaload 13 (gd rfl) rfl (n := 160) rfl (in_ix h1 rfl) (fun z12 e12 => ?_)
  have i12 := inv_I hI (n := 160) (t := 0) 0 31 rfl (in_ix h1 rfl) rfl e12
  refine g_istore 15 (gd rfl) rfl (Nat.le_of_ble_eq_true rfl) ?_
  refine g_aload_n 16 (gd rfl) rfl rfl ?_
  refine g_getA (q2 := 72) 19 (gd rfl) rfl rfl rfl rfl ?_
  refine g_iload_n 20 (gd rfl) rfl rfl ?_
  refine g_iaload 21 (gd rfl) rfl (n := 160) rfl (in_ix h1 rfl) (fun z20 e20 => ?_)
  have i20 := inv_I hI (n := 160) (t := 0) 0 1000000 rfl (in_ix h1 rfl) rfl e20
  refine g_aload_n 22 (gd rfl) rfl rfl ?_
  refine g_getA (q2 := 73) 25 (gd rfl) rfl rfl rfl rfl ?_
  refine g_iload_n 26 (gd rfl) rfl rfl ?_
  refine g_iaload 27 (gd rfl) rfl (n := 160) rfl (in_ix h1 rfl) (fun z26 e26 => ?_)
  refine g_isub 28 (gd rfl) rfl (fun z27 e27 => ?_)
  refine g_iload_n 29 (gd rfl) rfl rfl ?_
  refine g_cmp_lt 32 103 (gd rfl) rfl rfl (fun c29 => ?_) (fun c29 => ?_)
  · skip
    have i29 := r_lt1 (-2147483648) 1048575 c29 (i_rng z27) h2 rfl
    refine g_aload_n 104 (gd rfl) rfl rfl ?_
    refine g_getA (q2 := 73) 107 (gd rfl) rfl rfl rfl rfl ?_
    refine g_iload_n 108 (gd rfl) rfl rfl ?_
    refine g_iaload 109 (gd rfl) rfl (n := 160) rfl (in_ix h1 rfl) (fun z108 e108 => ?_)
    have q108 : z26 = z108 := (e26).trans e108.symm
    subst q108
    refine g_iload_n 110 (gd rfl) rfl rfl ?_
    refine g_cmp_lt 113 186 (gd rfl) rfl rfl (fun c110 => ?_) (fun c110 => ?_)
    · skip
      have i110 := r_lt1 (-2147483648) 1048575 c110 (i_rng z26) h2 rfl
      refine g_iconst 0 187 (gd rfl) rfl rfl ?_
      exact g_ireturn (gd rfl) rfl (nb01 (in_w 0 1 (in_c 0 rfl) rfl)) (hP _ _ ⟨s, hI, fr_rf, (Int32.ofInt 0), rfl, rfl, in_w 0 1 (in_c 0 rfl) rfl⟩)
    · skip
      have i110 := r_le2 1 2147483647 c110 h2 (i_rng z26) rfl
      refine g_aload_n 114 (gd rfl) rfl rfl ?_
      refine g_getA (q2 := 75) 117 (gd rfl) rfl rfl rfl rfl ?_
      refine g_iload 119 (gd rfl) rfl rfl ?_
      refine g_laload 120 (gd rfl) rfl (n := 32) rfl (in_ix i12 rfl) (fun z119 e119 => ?_)
      refine g_ldc2_w 9223372036854775807 123 (gd rfl) rfl rfl ?_
      refine g_lcmp 124 (gd rfl) rfl (fun z123 e123 => ?_)
      have i123 := lc_in e123
      refine g_if_eq 127 186 (gd rfl) rfl rfl (fun c124 => ?_) (fun c124 => ?_)
      · skip
        have i124 := z_eq 0 0 c124 i123 rfl
        have c124a := lc_eq e123 c124
        have i124a := lr_eq1 9223372036854775807 9223372036854775807 c124a (l_rng z119) (l_c 9223372036854775807 rfl) rfl
        refine g_iconst 0 187 (gd rfl) rfl rfl ?_
        exact g_ireturn (gd rfl) rfl (nb01 (in_w 0 1 (in_c 0 rfl) rfl)) (hP _ _ ⟨s, hI, fr_rf, (Int32.ofInt 0), rfl, rfl, in_w 0 1 (in_c 0 rfl) rfl⟩)
      · skip
        have c124a := lc_ne e123 c124
        have i124 := lr_ne1 (-9223372036854775808) 9223372036854775806 c124a (l_rng z119) (l_c 9223372036854775807 rfl) rfl
        refine g_aload_n 128 (gd rfl) rfl rfl ?_
        refine g_getA (q2 := 75) 131 (gd rfl) rfl rfl rfl rfl ?_
        refine g_iload 133 (gd rfl) rfl rfl ?_
        refine g_laload 134 (gd rfl) rfl (n := 32) rfl (in_ix i12 rfl) (fun z133 e133 => ?_)
        refine g_aload_n 135 (gd rfl) rfl rfl ?_
        refine g_getA (q2 := 71) 138 (gd rfl) rfl rfl rfl rfl ?_
        refine g_iload_n 139 (gd rfl) rfl rfl ?_
        refine g_iaload 140 (gd rfl) rfl (n := 160) rfl (in_ix h1 rfl) (fun z139 e139 => ?_)
        have i139 := inv_I hI (n := 160) (t := 0) (-1000000) 1000000 rfl (in_ix h1 rfl) rfl e139
        refine g_i2l 141 (gd rfl) rfl (fun z140 e140 => ?_)
        have i140 := l_i e140 i139
        refine g_lsub 142 (gd rfl) rfl (fun z141 e141 => ?_)
        refine g_aload_n 143 (gd rfl) rfl rfl ?_
        refine g_getA (q2 := 75) 146 (gd rfl) rfl rfl rfl rfl ?_
        refine g_iload_n 147 (gd rfl) rfl rfl ?_
        refine g_laload 148 (gd rfl) rfl (n := 32) rfl (in_ix i5 rfl) (fun z147 e147 => ?_)
        refine g_lcmp 149 (gd rfl) rfl (fun z148 e148 => ?_)
        have i148 := lc_in e148
        refine g_if_ge 152 186 (gd rfl) rfl rfl (fun c149 => ?_) (fun c149 => ?_)
        · skip
          have i149 := z_ge 0 1 c149 i148 rfl
          have c149a := lc_ge e148 c149
          refine g_iconst 0 187 (gd rfl) rfl rfl ?_
          exact g_ireturn (gd rfl) rfl (nb01 (in_w 0 1 (in_c 0 rfl) rfl)) (hP _ _ ⟨s, hI, fr_rf, (Int32.ofInt 0), rfl, rfl, in_w 0 1 (in_c 0 rfl) rfl⟩)
        · skip
          have i149 := z_lt (-1) (-1) c149 i148 rfl
          have c149a := lc_lt e148 c149
          have i149a := lr_lt1 (-9223372036854775808) 9223372036854775806 c149a (l_rng z141) (l_rng z147) rfl
          have i149b := lr_lt2 (-9223372036854775807) 9223372036854775807 c149a (l_rng z141) (l_rng z147) rfl
          refine g_aload_n 153 (gd rfl) rfl rfl ?_
          refine g_getA (q2 := 75) 156 (gd rfl) rfl rfl rfl rfl ?_
          refine g_iload_n 157 (gd rfl) rfl rfl ?_
          refine g_aload_n 158 (gd rfl) rfl rfl ?_
          refine g_getA (q2 := 75) 161 (gd rfl) rfl rfl rfl rfl ?_
          refine g_iload 163 (gd rfl) rfl rfl ?_
          refine g_laload 164 (gd rfl) rfl (n := 32) rfl (in_ix i12 rfl) (fun z163 e163 => ?_)
          refine g_aload_n 165 (gd rfl) rfl rfl ?_
          refine g_getA (q2 := 71) 168 (gd rfl) rfl rfl rfl rfl ?_
          refine g_iload_n 169 (gd rfl) rfl rfl ?_
          refine g_iaload 170 (gd rfl) rfl (n := 160) rfl (in_ix h1 rfl) (fun z169 e169 => ?_)
          have q169 : z139 = z169 := (e139).trans e169.symm
          subst q169
          refine g_i2l 171 (gd rfl) rfl (fun z170 e170 => ?_)
          have i170 := l_i e170 i139
          refine g_lsub 172 (gd rfl) rfl (fun z171 e171 => ?_)
          refine g_lastore 173 (gd rfl) rfl (n := 32) rfl (in_ix i5 rfl) ?_
          have hI172 := inv_sL (q := 75) (j := z5.toNatClampNeg) (x := z171) hI rfl (l_rng z171)
          refine g_aload_n 174 (gd rfl) rfl rfl ?_
          refine g_getA (q2 := 68) 177 (gd rfl) rfl rfl rfl rfl ?_
          refine g_iload_n 178 (gd rfl) rfl rfl ?_
          refine g_iconst 2 179 (gd rfl) rfl rfl ?_
          refine g_iload_n 180 (gd rfl) rfl rfl ?_
          refine g_imul 181 (gd rfl) rfl (fun z180 e180 => ?_)
          have i180 := in_mulc 2 0 318 (Or.inl e180) h1 rfl rfl
          refine g_iconst 1 182 (gd rfl) rfl rfl ?_
          refine g_iadd 183 (gd rfl) rfl (fun z182 e182 => ?_)
          have i182 := in_add 1 319 e182 i180 (in_c 1 rfl) rfl rfl
          refine g_iastore 184 (gd rfl) rfl (n := 32) rfl (in_ix i5 rfl) ?_
          have hI183 := inv_sI (q := 68) (j := z5.toNatClampNeg) hI172 rfl (in_w (-1) 319 i182 rfl)
          refine g_iconst 1 185 (gd rfl) rfl rfl ?_
          exact g_ireturn (gd rfl) rfl (nb01 (in_w 0 1 (in_c 1 rfl) rfl)) (hP _ _ ⟨(sI (sL s 75 z5.toNatClampNeg z171) 68 z5.toNatClampNeg z182), hI183, (fr_sI rfl (fr_sL rfl fr_rf)), (Int32.ofInt 1), rfl, rfl, in_w 0 1 (in_c 1 rfl) rfl⟩)
  · skip
    have i29 := r_le2 1 2147483647 c29 h2 (i_rng z27) rfl
    refine g_aload_n 33 (gd rfl) rfl rfl ?_
    refine g_getA (q2 := 75) 36 (gd rfl) rfl rfl rfl rfl ?_
    refine g_iload_n 37 (gd rfl) rfl rfl ?_
    refine g_laload 38 (gd rfl) rfl (n := 32) rfl (in_ix i5 rfl) (fun z37 e37 => ?_)
    refine g_ldc2_w 9223372036854775807 41 (gd rfl) rfl rfl ?_
    refine g_lcmp 42 (gd rfl) rfl (fun z41 e41 => ?_)
    have i41 := lc_in e41
    refine g_if_eq 45 103 (gd rfl) rfl rfl (fun c42 => ?_) (fun c42 => ?_)
    · skip
      have i42 := z_eq 0 0 c42 i41 rfl
      have c42a := lc_eq e41 c42
      have i42a := lr_eq1 9223372036854775807 9223372036854775807 c42a (l_rng z37) (l_c 9223372036854775807 rfl) rfl
      refine g_aload_n 104 (gd rfl) rfl rfl ?_
      refine g_getA (q2 := 73) 107 (gd rfl) rfl rfl rfl rfl ?_
      refine g_iload_n 108 (gd rfl) rfl rfl ?_
      refine g_iaload 109 (gd rfl) rfl (n := 160) rfl (in_ix h1 rfl) (fun z108 e108 => ?_)
      have q108 : z26 = z108 := (e26).trans e108.symm
      subst q108
      refine g_iload_n 110 (gd rfl) rfl rfl ?_
      refine g_cmp_lt 113 186 (gd rfl) rfl rfl (fun c110 => ?_) (fun c110 => ?_)
      · skip
        have i110 := r_lt1 (-2147483648) 1048575 c110 (i_rng z26) h2 rfl
        refine g_iconst 0 187 (gd rfl) rfl rfl ?_
        exact g_ireturn (gd rfl) rfl (nb01 (in_w 0 1 (in_c 0 rfl) rfl)) (hP _ _ ⟨s, hI, fr_rf, (Int32.ofInt 0), rfl, rfl, in_w 0 1 (in_c 0 rfl) rfl⟩)
      · skip
        have i110 := r_le2 1 2147483647 c110 h2 (i_rng z26) rfl
        refine g_aload_n 114 (gd rfl) rfl rfl ?_
        refine g_getA (q2 := 75) 117 (gd rfl) rfl rfl rfl rfl ?_
        refine g_iload 119 (gd rfl) rfl rfl ?_
        refine g_laload 120 (gd rfl) rfl (n := 32) rfl (in_ix i12 rfl) (fun z119 e119 => ?_)
        refine g_ldc2_w 9223372036854775807 123 (gd rfl) rfl rfl ?_
        refine g_lcmp 124 (gd rfl) rfl (fun z123 e123 => ?_)
        have i123 := lc_in e123
        refine g_if_eq 127 186 (gd rfl) rfl rfl (fun c124 => ?_) (fun c124 => ?_)
        · skip
          have i124 := z_eq 0 0 c124 i123 rfl
          have c124a := lc_eq e123 c124
          have i124a := lr_eq1 9223372036854775807 9223372036854775807 c124a (l_rng z119) (l_c 9223372036854775807 rfl) rfl
          refine g_iconst 0 187 (gd rfl) rfl rfl ?_
          exact g_ireturn (gd rfl) rfl (nb01 (in_w 0 1 (in_c 0 rfl) rfl)) (hP _ _ ⟨s, hI, fr_rf, (Int32.ofInt 0), rfl, rfl, in_w 0 1 (in_c 0 rfl) rfl⟩)
        · skip
          have c124a := lc_ne e123 c124
          have i124 := lr_ne1 (-9223372036854775808) 9223372036854775806 c124a (l_rng z119) (l_c 9223372036854775807 rfl) rfl
          refine g_aload_n 128 (gd rfl) rfl rfl ?_
          refine g_getA (q2 := 75) 131 (gd rfl) rfl rfl rfl rfl ?_
          refine g_iload 133 (gd rfl) rfl rfl ?_
          refine g_laload 134 (gd rfl) rfl (n := 32) rfl (in_ix i12 rfl) (fun z133 e133 => ?_)
          refine g_aload_n 135 (gd rfl) rfl rfl ?_
          refine g_getA (q2 := 71) 138 (gd rfl) rfl rfl rfl rfl ?_
          refine g_iload_n 139 (gd rfl) rfl rfl ?_
          refine g_iaload 140 (gd rfl) rfl (n := 160) rfl (in_ix h1 rfl) (fun z139 e139 => ?_)
          have i139 := inv_I hI (n := 160) (t := 0) (-1000000) 1000000 rfl (in_ix h1 rfl) rfl e139
          refine g_i2l 141 (gd rfl) rfl (fun z140 e140 => ?_)
          have i140 := l_i e140 i139
          refine g_lsub 142 (gd rfl) rfl (fun z141 e141 => ?_)
          refine g_aload_n 143 (gd rfl) rfl rfl ?_
          refine g_getA (q2 := 75) 146 (gd rfl) rfl rfl rfl rfl ?_
          refine g_iload_n 147 (gd rfl) rfl rfl ?_
          refine g_laload 148 (gd rfl) rfl (n := 32) rfl (in_ix i5 rfl) (fun z147 e147 => ?_)
          refine g_lcmp 149 (gd rfl) rfl (fun z148 e148 => ?_)
          have i148 := lc_in e148
          refine g_if_ge 152 186 (gd rfl) rfl rfl (fun c149 => ?_) (fun c149 => ?_)
          · skip
            have i149 := z_ge 0 1 c149 i148 rfl
            have c149a := lc_ge e148 c149
            refine g_iconst 0 187 (gd rfl) rfl rfl ?_
            exact g_ireturn (gd rfl) rfl (nb01 (in_w 0 1 (in_c 0 rfl) rfl)) (hP _ _ ⟨s, hI, fr_rf, (Int32.ofInt 0), rfl, rfl, in_w 0 1 (in_c 0 rfl) rfl⟩)
          · skip
            have i149 := z_lt (-1) (-1) c149 i148 rfl
            have c149a := lc_lt e148 c149
            have i149a := lr_lt1 (-9223372036854775808) 9223372036854775806 c149a (l_rng z141) (l_rng z147) rfl
            have i149b := lr_lt2 (-9223372036854775807) 9223372036854775807 c149a (l_rng z141) (l_rng z147) rfl
            refine g_aload_n 153 (gd rfl) rfl rfl ?_
            refine g_getA (q2 := 75) 156 (gd rfl) rfl rfl rfl rfl ?_
            refine g_iload_n 157 (gd rfl) rfl rfl ?_
            refine g_aload_n 158 (gd rfl) rfl rfl ?_
            refine g_getA (q2 := 75) 161 (gd rfl) rfl rfl rfl rfl ?_
            refine g_iload 163 (gd rfl) rfl rfl ?_
            refine g_laload 164 (gd rfl) rfl (n := 32) rfl (in_ix i12 rfl) (fun z163 e163 => ?_)
            refine g_aload_n 165 (gd rfl) rfl rfl ?_
            refine g_getA (q2 := 71) 168 (gd rfl) rfl rfl rfl rfl ?_
            refine g_iload_n 169 (gd rfl) rfl rfl ?_
            refine g_iaload 170 (gd rfl) rfl (n := 160) rfl (in_ix h1 rfl) (fun z169 e169 => ?_)
            have q169 : z139 = z169 := (e139).trans e169.symm
            subst q169
            refine g_i2l 171 (gd rfl) rfl (fun z170 e170 => ?_)
            have i170 := l_i e170 i139
            refine g_lsub 172 (gd rfl) rfl (fun z171 e171 => ?_)
            refine g_lastore 173 (gd rfl) rfl (n := 32) rfl (in_ix i5 rfl) ?_
            have hI172 := inv_sL (q := 75) (j := z5.toNatClampNeg) (x := z171) hI rfl (l_rng z171)
            refine g_aload_n 174 (gd rfl) rfl rfl ?_
            refine g_getA (q2 := 68) 177 (gd rfl) rfl rfl rfl rfl ?_
            refine g_iload_n 178 (gd rfl) rfl rfl ?_
            refine g_iconst 2 179 (gd rfl) rfl rfl ?_
            refine g_iload_n 180 (gd rfl) rfl rfl ?_
            refine g_imul 181 (gd rfl) rfl (fun z180 e180 => ?_)
            have i180 := in_mulc 2 0 318 (Or.inl e180) h1 rfl rfl
            refine g_iconst 1 182 (gd rfl) rfl rfl ?_
            refine g_iadd 183 (gd rfl) rfl (fun z182 e182 => ?_)
            have i182 := in_add 1 319 e182 i180 (in_c 1 rfl) rfl rfl
            refine g_iastore 184 (gd rfl) rfl (n := 32) rfl (in_ix i5 rfl) ?_
            have hI183 := inv_sI (q := 68) (j := z5.toNatClampNeg) hI172 rfl (in_w (-1) 319 i182 rfl)
            refine g_iconst 1 185 (gd rfl) rfl rfl ?_
            exact g_ireturn (gd rfl) rfl (nb01 (in_w 0 1 (in_c 1 rfl) rfl)) (hP _ _ ⟨(sI (sL s 75 z5.toNatClampNeg z171) 68 z5.toNatClampNeg z182), hI183, (fr_sI rfl (fr_sL rfl fr_rf)), (Int32.ofInt 1), rfl, rfl, in_w 0 1 (in_c 1 rfl) rfl⟩)
    · skip
      have c42a := lc_ne e41 c42
      have i42 := lr_ne1 (-9223372036854775808) 9223372036854775806 c42a (l_rng z37) (l_c 9223372036854775807 rfl) rfl
      refine g_aload_n 46 (gd rfl) rfl rfl ?_
      refine g_getA (q2 := 75) 49 (gd rfl) rfl rfl rfl rfl ?_
      refine g_iload_n 50 (gd rfl) rfl rfl ?_
      refine g_laload 51 (gd rfl) rfl (n := 32) rfl (in_ix i5 rfl) (fun z50 e50 => ?_)
      refine g_aload_n 52 (gd rfl) rfl rfl ?_
      refine g_getA (q2 := 71) 55 (gd rfl) rfl rfl rfl rfl ?_
      refine g_iload_n 56 (gd rfl) rfl rfl ?_
      refine g_iaload 57 (gd rfl) rfl (n := 160) rfl (in_ix h1 rfl) (fun z56 e56 => ?_)
      have i56 := inv_I hI (n := 160) (t := 0) (-1000000) 1000000 rfl (in_ix h1 rfl) rfl e56
      refine g_i2l 58 (gd rfl) rfl (fun z57 e57 => ?_)
      have i57 := l_i e57 i56
      refine g_ladd 59 (gd rfl) rfl (fun z58 e58 => ?_)
      refine g_aload_n 60 (gd rfl) rfl rfl ?_
      refine g_getA (q2 := 75) 63 (gd rfl) rfl rfl rfl rfl ?_
      refine g_iload 65 (gd rfl) rfl rfl ?_
      refine g_laload 66 (gd rfl) rfl (n := 32) rfl (in_ix i12 rfl) (fun z65 e65 => ?_)
      refine g_lcmp 67 (gd rfl) rfl (fun z66 e66 => ?_)
      have i66 := lc_in e66
      refine g_if_ge 70 103 (gd rfl) rfl rfl (fun c67 => ?_) (fun c67 => ?_)
      · skip
        have i67 := z_ge 0 1 c67 i66 rfl
        have c67a := lc_ge e66 c67
        refine g_aload_n 104 (gd rfl) rfl rfl ?_
        refine g_getA (q2 := 73) 107 (gd rfl) rfl rfl rfl rfl ?_
        refine g_iload_n 108 (gd rfl) rfl rfl ?_
        refine g_iaload 109 (gd rfl) rfl (n := 160) rfl (in_ix h1 rfl) (fun z108 e108 => ?_)
        have q108 : z26 = z108 := (e26).trans e108.symm
        subst q108
        refine g_iload_n 110 (gd rfl) rfl rfl ?_
        refine g_cmp_lt 113 186 (gd rfl) rfl rfl (fun c110 => ?_) (fun c110 => ?_)
        · skip
          have i110 := r_lt1 (-2147483648) 1048575 c110 (i_rng z26) h2 rfl
          refine g_iconst 0 187 (gd rfl) rfl rfl ?_
          exact g_ireturn (gd rfl) rfl (nb01 (in_w 0 1 (in_c 0 rfl) rfl)) (hP _ _ ⟨s, hI, fr_rf, (Int32.ofInt 0), rfl, rfl, in_w 0 1 (in_c 0 rfl) rfl⟩)
        · skip
          have i110 := r_le2 1 2147483647 c110 h2 (i_rng z26) rfl
          refine g_aload_n 114 (gd rfl) rfl rfl ?_
          refine g_getA (q2 := 75) 117 (gd rfl) rfl rfl rfl rfl ?_
          refine g_iload 119 (gd rfl) rfl rfl ?_
          refine g_laload 120 (gd rfl) rfl (n := 32) rfl (in_ix i12 rfl) (fun z119 e119 => ?_)
          refine g_ldc2_w 9223372036854775807 123 (gd rfl) rfl rfl ?_
          refine g_lcmp 124 (gd rfl) rfl (fun z123 e123 => ?_)
          have i123 := lc_in e123
          refine g_if_eq 127 186 (gd rfl) rfl rfl (fun c124 => ?_) (fun c124 => ?_)
          · skip
            have i124 := z_eq 0 0 c124 i123 rfl
            have c124a := lc_eq e123 c124
            have i124a := lr_eq1 9223372036854775807 9223372036854775807 c124a (l_rng z119) (l_c 9223372036854775807 rfl) rfl
            refine g_iconst 0 187 (gd rfl) rfl rfl ?_
            exact g_ireturn (gd rfl) rfl (nb01 (in_w 0 1 (in_c 0 rfl) rfl)) (hP _ _ ⟨s, hI, fr_rf, (Int32.ofInt 0), rfl, rfl, in_w 0 1 (in_c 0 rfl) rfl⟩)
          · skip
            have c124a := lc_ne e123 c124
            have i124 := lr_ne1 (-9223372036854775808) 9223372036854775806 c124a (l_rng z119) (l_c 9223372036854775807 rfl) rfl
            refine g_aload_n 128 (gd rfl) rfl rfl ?_
            refine g_getA (q2 := 75) 131 (gd rfl) rfl rfl rfl rfl ?_
            refine g_iload 133 (gd rfl) rfl rfl ?_
            refine g_laload 134 (gd rfl) rfl (n := 32) rfl (in_ix i12 rfl) (fun z133 e133 => ?_)
            refine g_aload_n 135 (gd rfl) rfl rfl ?_
            refine g_getA (q2 := 71) 138 (gd rfl) rfl rfl rfl rfl ?_
            refine g_iload_n 139 (gd rfl) rfl rfl ?_
            refine g_iaload 140 (gd rfl) rfl (n := 160) rfl (in_ix h1 rfl) (fun z139 e139 => ?_)
            have q139 : z56 = z139 := (e56).trans e139.symm
            subst q139
            refine g_i2l 141 (gd rfl) rfl (fun z140 e140 => ?_)
            have i140 := l_i e140 i56
            refine g_lsub 142 (gd rfl) rfl (fun z141 e141 => ?_)
            refine g_aload_n 143 (gd rfl) rfl rfl ?_
            refine g_getA (q2 := 75) 146 (gd rfl) rfl rfl rfl rfl ?_
            refine g_iload_n 147 (gd rfl) rfl rfl ?_
            refine g_laload 148 (gd rfl) rfl (n := 32) rfl (in_ix i5 rfl) (fun z147 e147 => ?_)
            refine g_lcmp 149 (gd rfl) rfl (fun z148 e148 => ?_)
            have i148 := lc_in e148
            refine g_if_ge 152 186 (gd rfl) rfl rfl (fun c149 => ?_) (fun c149 => ?_)
            · skip
              have i149 := z_ge 0 1 c149 i148 rfl
              have c149a := lc_ge e148 c149
              refine g_iconst 0 187 (gd rfl) rfl rfl ?_
              exact g_ireturn (gd rfl) rfl (nb01 (in_w 0 1 (in_c 0 rfl) rfl)) (hP _ _ ⟨s, hI, fr_rf, (Int32.ofInt 0), rfl, rfl, in_w 0 1 (in_c 0 rfl) rfl⟩)
            · skip
              have i149 := z_lt (-1) (-1) c149 i148 rfl
              have c149a := lc_lt e148 c149
              have i149a := lr_lt1 (-9223372036854775808) 9223372036854775806 c149a (l_rng z141) (l_rng z147) rfl
              have i149b := lr_lt2 (-9223372036854775807) 9223372036854775807 c149a (l_rng z141) (l_rng z147) rfl
              refine g_aload_n 153 (gd rfl) rfl rfl ?_
              refine g_getA (q2 := 75) 156 (gd rfl) rfl rfl rfl rfl ?_
              refine g_iload_n 157 (gd rfl) rfl rfl ?_
              refine g_aload_n 158 (gd rfl) rfl rfl ?_
              refine g_getA (q2 := 75) 161 (gd rfl) rfl rfl rfl rfl ?_
              refine g_iload 163 (gd rfl) rfl rfl ?_
              refine g_laload 164 (gd rfl) rfl (n := 32) rfl (in_ix i12 rfl) (fun z163 e163 => ?_)
              refine g_aload_n 165 (gd rfl) rfl rfl ?_
              refine g_getA (q2 := 71) 168 (gd rfl) rfl rfl rfl rfl ?_
              refine g_iload_n 169 (gd rfl) rfl rfl ?_
              refine g_iaload 170 (gd rfl) rfl (n := 160) rfl (in_ix h1 rfl) (fun z169 e169 => ?_)
              have q169 : z56 = z169 := (e56).trans e169.symm
              subst q169
              refine g_i2l 171 (gd rfl) rfl (fun z170 e170 => ?_)
              have i170 := l_i e170 i56
              refine g_lsub 172 (gd rfl) rfl (fun z171 e171 => ?_)
              refine g_lastore 173 (gd rfl) rfl (n := 32) rfl (in_ix i5 rfl) ?_
              have hI172 := inv_sL (q := 75) (j := z5.toNatClampNeg) (x := z171) hI rfl (l_rng z171)
              refine g_aload_n 174 (gd rfl) rfl rfl ?_
              refine g_getA (q2 := 68) 177 (gd rfl) rfl rfl rfl rfl ?_
              refine g_iload_n 178 (gd rfl) rfl rfl ?_
              refine g_iconst 2 179 (gd rfl) rfl rfl ?_
              refine g_iload_n 180 (gd rfl) rfl rfl ?_
              refine g_imul 181 (gd rfl) rfl (fun z180 e180 => ?_)
              have i180 := in_mulc 2 0 318 (Or.inl e180) h1 rfl rfl
              refine g_iconst 1 182 (gd rfl) rfl rfl ?_
              refine g_iadd 183 (gd rfl) rfl (fun z182 e182 => ?_)
              have i182 := in_add 1 319 e182 i180 (in_c 1 rfl) rfl rfl
              refine g_iastore 184 (gd rfl) rfl (n := 32) rfl (in_ix i5 rfl) ?_
              have hI183 := inv_sI (q := 68) (j := z5.toNatClampNeg) hI172 rfl (in_w (-1) 319 i182 rfl)
              refine g_iconst 1 185 (gd rfl) rfl rfl ?_
              exact g_ireturn (gd rfl) rfl (nb01 (in_w 0 1 (in_c 1 rfl) rfl)) (hP _ _ ⟨(sI (sL s 75 z5.toNatClampNeg z171) 68 z5.toNatClampNeg z182), hI183, (fr_sI rfl (fr_sL rfl fr_rf)), (Int32.ofInt 1), rfl, rfl, in_w 0 1 (in_c 1 rfl) rfl⟩)
      · skip
        have i67 := z_lt (-1) (-1) c67 i66 rfl
        have c67a := lc_lt e66 c67
        have i67a := lr_lt1 (-9223372036854775808) 9223372036854775806 c67a (l_rng z58) (l_rng z65) rfl
        have i67b := lr_lt2 (-9223372036854775807) 9223372036854775807 c67a (l_rng z58) (l_rng z65) rfl
        refine g_aload_n 71 (gd rfl) rfl rfl ?_
        refine g_getA (q2 := 75) 74 (gd rfl) rfl rfl rfl rfl ?_
        refine g_iload 76 (gd rfl) rfl rfl ?_
        refine g_aload_n 77 (gd rfl) rfl rfl ?_
        refine g_getA (q2 := 75) 80 (gd rfl) rfl rfl rfl rfl ?_
        refine g_iload_n 81 (gd rfl) rfl rfl ?_
        refine g_laload 82 (gd rfl) rfl (n := 32) rfl (in_ix i5 rfl) (fun z81 e81 => ?_)
        refine g_aload_n 83 (gd rfl) rfl rfl ?_
        refine g_getA (q2 := 71) 86 (gd rfl) rfl rfl rfl rfl ?_
        refine g_iload_n 87 (gd rfl) rfl rfl ?_
        refine g_iaload 88 (gd rfl) rfl (n := 160) rfl (in_ix h1 rfl) (fun z87 e87 => ?_)
        have q87 : z56 = z87 := (e56).trans e87.symm
        subst q87
        refine g_i2l 89 (gd rfl) rfl (fun z88 e88 => ?_)
        have i88 := l_i e88 i56
        refine g_ladd 90 (gd rfl) rfl (fun z89 e89 => ?_)
        refine g_lastore 91 (gd rfl) rfl (n := 32) rfl (in_ix i12 rfl) ?_
        have hI90 := inv_sL (q := 75) (j := z12.toNatClampNeg) (x := z89) hI rfl (l_rng z89)
        refine g_aload_n 92 (gd rfl) rfl rfl ?_
        refine g_getA (q2 := 68) 95 (gd rfl) rfl rfl rfl rfl ?_
        refine g_iload 97 (gd rfl) rfl rfl ?_
        refine g_iconst 2 98 (gd rfl) rfl rfl ?_
        refine g_iload_n 99 (gd rfl) rfl rfl ?_
        refine g_imul 100 (gd rfl) rfl (fun z99 e99 => ?_)
        have i99 := in_mulc 2 0 318 (Or.inl e99) h1 rfl rfl
        refine g_iastore 101 (gd rfl) rfl (n := 32) rfl (in_ix i12 rfl) ?_
        have hI100 := inv_sI (q := 68) (j := z12.toNatClampNeg) hI90 rfl (in_w (-1) 319 i99 rfl)
        refine g_iconst 1 102 (gd rfl) rfl rfl ?_
        exact g_ireturn (gd rfl) rfl (nb01 (in_w 0 1 (in_c 1 rfl) rfl)) (hP _ _ ⟨(sI (sL s 75 z12.toNatClampNeg z89) 68 z12.toNatClampNeg z99), hI100, (fr_sI rfl (fr_sL rfl fr_rf)), (Int32.ofInt 1), rfl, rfl, in_w 0 1 (in_c 1 rfl) rfl⟩)

def fm_88_65 : FM := ([73, 74], [], [], [])
/-- GraphHouse$Flows.carryTo -/
theorem k_88_65 {Z : AmZ} {A : Nat → Nat} {s : GS} {ex : va_W} {d : Nat} {X : AmX} {x1 : Int32} (hd : 3 ≤ d) (hI : Inv s) (h1 : In x1 0 31) : GC Z d 88 [.ref (A 65), .int x1] (WW Z A s ++ ex) 0 0 (fun v u => ∃ t : GS, Inv t ∧ Fr fm_88_65 s t ∧ ∃ z : Int64, v = some (.long z) ∧ u = WW Z A t ++ ex) X := by
  intro post xp hP hX
  have ct253 : ∀ (sc253 : GS) (y253_2 : Int32) (y253_3 : Int32) (y253_4 : Int32), Inv sc253 → Fr fm_88_65 s sc253 → (In y253_3 0 31) → (In y253_4 0 32) → GG Z (d - 1) 88 post (gx xp) (901) 253 (fun j => xlook j [(0, .ref (A 65)), (1, .int x1), (2, .int y253_2), (3, .int y253_3), (4, .int y253_4)]) [] (WW Z A sc253 ++ ex) 0 0 := by
    intro sc253 y253_2 y253_3 y253_4 hIc253 hFc253 j253_3 j253_4
    refine g_aload_n 254 (gd rfl) rfl rfl ?_
    refine g_getA (q2 := 75) 257 (gd rfl) rfl rfl rfl rfl ?_
    refine g_iload_n 258 (gd rfl) rfl rfl ?_
    refine g_laload 259 (gd rfl) rfl (n := 32) rfl (in_ix h1 rfl) (fun z258 e258 => ?_)
    refine g_iload_n 260 (gd rfl) rfl rfl ?_
    refine g_i2l 261 (gd rfl) rfl (fun z260 e260 => ?_)
    have i260 := l_i e260 (i_rng y253_2)
    refine g_lmul 262 (gd rfl) rfl (fun z261 e261 => ?_)
    exact g_lreturn (gd rfl) rfl (hP _ _ ⟨sc253, hIc253, hFc253, z261, rfl, rfl⟩)
  have ct158 : ∀ (k158 : Nat) (sc158 : GS) (y158_2 : Int32) (y158_3 : Int32) (y158_4 : Int32), Inv sc158 → Fr fm_88_65 s sc158 → (In y158_3 0 31) → (In y158_4 0 32) → 32 - (y158_4).toInt < (k158 : Int) → GG Z (d - 1) 88 post (gx xp) (902 + k158 * 900) 158 (fun j => xlook j [(0, .ref (A 65)), (1, .int x1), (2, .int y158_2), (3, .int y158_3), (4, .int y158_4)]) [] (WW Z A sc158 ++ ex) 0 0 := by
    intro k158
    induction k158 with
    | zero => intro sc158 y158_2 y158_3 y158_4 hIc158 hFc158 j158_3 j158_4 mm158; exact m_no mm158 j158_4 rfl
    | succ k158 ih158 =>
      intro sc158 y158_2 y158_3 y158_4 hIc158 hFc158 j158_3 j158_4 mm158
      refine gg_w (M := 902 + k158 * 900 + 900) gws ?_
      refine g_iload 160 (gd rfl) rfl rfl ?_
      refine g_bipush 32 162 (gd rfl) rfl rfl ?_
      refine g_cmp_ge 165 253 (gd rfl) rfl rfl (fun c162 => ?_) (fun c162 => ?_)
      · skip
        have i162 := r_le2 32 32 c162 (in_c 32 rfl) j158_4 rfl
        exact gg_w (by first | exact Nat.le_add_right _ _ | exact gw2 | exact gw3 | exact gwe rfl | exact gwf rfl | exact gwg rfl | exact gwh rfl | omega) (gg_f (gf_cons rfl (gf_cons rfl (gf_cons rfl (gf_cons rfl (gf_cons rfl gf_nil))))) (ct253 sc158 y158_2 y158_3 y158_4 hIc158 hFc158 (in_w 0 31 j158_3 rfl) (in_w 0 32 i162 rfl)))
      · skip
        have i162 := r_lt1 0 31 c162 j158_4 (in_c 32 rfl) rfl
        refine g_aload_n 166 (gd rfl) rfl rfl ?_
        refine g_getA (q2 := 68) 169 (gd rfl) rfl rfl rfl rfl ?_
        refine g_iload_n 170 (gd rfl) rfl rfl ?_
        refine g_iaload 171 (gd rfl) rfl (n := 32) rfl (in_ix j158_3 rfl) (fun z170 e170 => ?_)
        have i170 := inv_I hIc158 (n := 32) (t := 0) (-1) 319 rfl (in_ix j158_3 rfl) rfl e170
        refine g_iconst (-1) 172 (gd rfl) rfl rfl ?_
        refine g_cmp_eq 175 253 (gd rfl) rfl rfl (fun c172 => ?_) (fun c172 => ?_)
        · skip
          have i172 := r_eq1 (-1) (-1) c172 i170 (in_c (-1) rfl) rfl
          exact gg_w (by first | exact Nat.le_add_right _ _ | exact gw2 | exact gw3 | exact gwe rfl | exact gwf rfl | exact gwg rfl | exact gwh rfl | omega) (gg_f (gf_cons rfl (gf_cons rfl (gf_cons rfl (gf_cons rfl (gf_cons rfl gf_nil))))) (ct253 sc158 y158_2 y158_3 y158_4 hIc158 hFc158 (in_w 0 31 j158_3 rfl) (in_w 0 32 i162 rfl)))
        · skip
          have i172 := r_ne1 0 319 c172 i170 (in_c (-1) rfl) rfl
          refine g_aload_n 176 (gd rfl) rfl rfl ?_
          refine g_getA (q2 := 68) 179 (gd rfl) rfl rfl rfl rfl ?_
          refine g_iload_n 180 (gd rfl) rfl rfl ?_
          refine g_iaload 181 (gd rfl) rfl (n := 32) rfl (in_ix j158_3 rfl) (fun z180 e180 => ?_)
          have q180 : z170 = z180 := (e170).trans e180.symm
          subst q180
          refine g_iconst 1 182 (gd rfl) rfl rfl ?_
          refine g_ishr 183 (gd rfl) rfl (fun z182 e182 => ?_)
          have i182 := in_shrc 1 0 159 e182 i172 rfl rfl
          refine g_istore 185 (gd rfl) rfl (Nat.le_of_ble_eq_true rfl) ?_
          refine g_aload_n 186 (gd rfl) rfl rfl ?_
          refine g_getA (q2 := 68) 189 (gd rfl) rfl rfl rfl rfl ?_
          refine g_iload_n 190 (gd rfl) rfl rfl ?_
          refine g_iaload 191 (gd rfl) rfl (n := 32) rfl (in_ix j158_3 rfl) (fun z190 e190 => ?_)
          have q190 : z170 = z190 := (e170).trans e190.symm
          subst q190
          refine g_iconst 1 192 (gd rfl) rfl rfl ?_
          refine g_iand 193 (gd rfl) rfl (fun z192 e192 => ?_)
          have i192 := in_and2 e192 (in_c 1 rfl) rfl
          refine g_if_ne 196 200 (gd rfl) rfl rfl (fun c193 => ?_) (fun c193 => ?_)
          · skip
            have i193 := z_ne 1 1 c193 i192 rfl
            refine g_iconst 0 201 (gd rfl) rfl rfl ?_
            refine g_istore 203 (gd rfl) rfl (Nat.le_of_ble_eq_true rfl) ?_
            refine g_aload_n 204 (gd rfl) rfl rfl ?_
            refine g_getA (q2 := 73) 207 (gd rfl) rfl rfl rfl rfl ?_
            refine g_iload 209 (gd rfl) rfl rfl ?_
            refine g_dup2 210 (gd rfl) rfl rfl rfl ?_
            refine g_iaload 211 (gd rfl) rfl (n := 160) rfl (in_ix i182 rfl) (fun z210 e210 => ?_)
            refine g_iload 213 (gd rfl) rfl rfl ?_
            refine g_if_eq 216 220 (gd rfl) rfl rfl (fun c213 => ?_) (fun c213 => ?_)
            · skip
              refine g_iload_n 221 (gd rfl) rfl rfl ?_
              refine g_ineg 222 (gd rfl) rfl (fun z221 e221 => ?_)
              refine g_iadd 223 (gd rfl) rfl (fun z222 e222 => ?_)
              refine g_iastore 224 (gd rfl) rfl (n := 160) rfl (in_ix i182 rfl) ?_
              have hI223 := inv_sI (q := 73) (j := z182.toNatClampNeg) hIc158 rfl (in_w (-2147483648) 2147483647 (i_rng z222) rfl)
              refine g_iload 226 (gd rfl) rfl rfl ?_
              refine g_if_eq 229 239 (gd rfl) rfl rfl (fun c226 => ?_) (fun c226 => ?_)
              · skip
                refine g_aload_n 240 (gd rfl) rfl rfl ?_
                refine g_getA (q2 := 70) 243 (gd rfl) rfl rfl rfl rfl ?_
                refine g_iload 245 (gd rfl) rfl rfl ?_
                refine g_iaload 246 (gd rfl) rfl (n := 160) rfl (in_ix i182 rfl) (fun z245 e245 => ?_)
                have i245 := inv_I hI223 (n := 160) (t := 0) 0 31 rfl (in_ix i182 rfl) rfl e245
                refine g_istore_n 247 (gd rfl) rfl (Nat.le_of_ble_eq_true rfl) ?_
                refine g_iinc 250 (gd rfl) rfl rfl (Nat.le_of_ble_eq_true rfl) (fun z247 e247 => ?_)
                have i247 := in_add 1 32 e247 i162 (in_c 1 rfl) rfl rfl
                refine g_goto 158 (gd rfl) rfl ?_
                exact gg_w (by first | exact Nat.le_add_right _ _ | exact gw2 | exact gw3 | exact gwe rfl | exact gwf rfl | exact gwg rfl | exact gwh rfl | omega) (gg_f (gf_cons rfl (gf_cons rfl (gf_cons rfl (gf_cons rfl (gf_cons rfl gf_nil))))) (ih158 (sI sc158 73 z182.toNatClampNeg z222) y158_2 z245 z247 hI223 (fr_sI rfl hFc158) (in_w 0 31 i245 rfl) (in_w 0 32 i247 rfl) (m_up mm158 (t_add e247 i162 (in_c 1 rfl) rfl) (in_w 1 1 (in_c 1 rfl) rfl))))
              · skip
                exact zn_ne c226 (in_c 0 rfl) rfl
            · skip
              exact zn_ne c213 (in_c 0 rfl) rfl
          · skip
            have i193 := z_eq 0 0 c193 i192 rfl
            refine g_iconst 1 197 (gd rfl) rfl rfl ?_
            refine g_goto 201 (gd rfl) rfl ?_
            refine g_istore 203 (gd rfl) rfl (Nat.le_of_ble_eq_true rfl) ?_
            refine g_aload_n 204 (gd rfl) rfl rfl ?_
            refine g_getA (q2 := 73) 207 (gd rfl) rfl rfl rfl rfl ?_
            refine g_iload 209 (gd rfl) rfl rfl ?_
            refine g_dup2 210 (gd rfl) rfl rfl rfl ?_
            refine g_iaload 211 (gd rfl) rfl (n := 160) rfl (in_ix i182 rfl) (fun z210 e210 => ?_)
            refine g_iload 213 (gd rfl) rfl rfl ?_
            refine g_if_eq 216 220 (gd rfl) rfl rfl (fun c213 => ?_) (fun c213 => ?_)
            · skip
              exact zn_eq c213 (in_c 1 rfl) rfl
            · skip
              refine g_iload_n 217 (gd rfl) rfl rfl ?_
              refine g_goto 222 (gd rfl) rfl ?_
              refine g_iadd 223 (gd rfl) rfl (fun z222 e222 => ?_)
              refine g_iastore 224 (gd rfl) rfl (n := 160) rfl (in_ix i182 rfl) ?_
              have hI223 := inv_sI (q := 73) (j := z182.toNatClampNeg) hIc158 rfl (in_w (-2147483648) 2147483647 (i_rng z222) rfl)
              refine g_iload 226 (gd rfl) rfl rfl ?_
              refine g_if_eq 229 239 (gd rfl) rfl rfl (fun c226 => ?_) (fun c226 => ?_)
              · skip
                exact zn_eq c226 (in_c 1 rfl) rfl
              · skip
                refine g_aload_n 230 (gd rfl) rfl rfl ?_
                refine g_getA (q2 := 69) 233 (gd rfl) rfl rfl rfl rfl ?_
                refine g_iload 235 (gd rfl) rfl rfl ?_
                refine g_iaload 236 (gd rfl) rfl (n := 160) rfl (in_ix i182 rfl) (fun z235 e235 => ?_)
                have i235 := inv_I hI223 (n := 160) (t := 0) 0 31 rfl (in_ix i182 rfl) rfl e235
                refine g_goto 246 (gd rfl) rfl ?_
                refine g_istore_n 247 (gd rfl) rfl (Nat.le_of_ble_eq_true rfl) ?_
                refine g_iinc 250 (gd rfl) rfl rfl (Nat.le_of_ble_eq_true rfl) (fun z247 e247 => ?_)
                have i247 := in_add 1 32 e247 i162 (in_c 1 rfl) rfl rfl
                refine g_goto 158 (gd rfl) rfl ?_
                exact gg_w (by first | exact Nat.le_add_right _ _ | exact gw2 | exact gw3 | exact gwe rfl | exact gwf rfl | exact gwg rfl | exact gwh rfl | omega) (gg_f (gf_cons rfl (gf_cons rfl (gf_cons rfl (gf_cons rfl (gf_cons rfl gf_nil))))) (ih158 (sI sc158 73 z182.toNatClampNeg z222) y158_2 z235 z247 hI223 (fr_sI rfl hFc158) (in_w 0 31 i235 rfl) (in_w 0 32 i247 rfl) (m_up mm158 (t_add e247 i162 (in_c 1 rfl) rfl) (in_w 1 1 (in_c 1 rfl) rfl))))
  have ct122 : ∀ (sc122 : GS) (y122_2 : Int32) (y122_3 : Int32) (y122_4 : Int32), Inv sc122 → Fr fm_88_65 s sc122 → (In y122_3 0 31) → (In y122_4 0 32) → GG Z (d - 1) 88 post (gx xp) (31503) 122 (fun j => xlook j [(0, .ref (A 65)), (1, .int x1), (2, .int y122_2), (3, .int y122_3), (4, .int y122_4)]) [] (WW Z A sc122 ++ ex) 0 0 := by
    intro sc122 y122_2 y122_3 y122_4 hIc122 hFc122 j122_3 j122_4
    refine g_iload_n 123 (gd rfl) rfl rfl ?_
    refine g_aload_n 124 (gd rfl) rfl rfl ?_
    refine g_getA (q2 := 74) 127 (gd rfl) rfl rfl rfl rfl ?_
    refine g_iload_n 128 (gd rfl) rfl rfl ?_
    refine g_iaload 129 (gd rfl) rfl (n := 32) rfl (in_ix j122_3 rfl) (fun z128 e128 => ?_)
    refine g_calls (As := [.int y122_2, .int z128]) (r := []) 132 (gd rfl) rfl rfl rfl rfl rfl (Nat.le_of_ble_eq_true rfl) (mc := 0) (ms := 0) (Nat.zero_le _) (Nat.zero_le _) (P := fun v u => _) ?_ (fun v u h => h)
    intro po129 xx129 hp129 hx129
    refine g_enter2 (k := 424) (N := 300) (by first | exact dq1 hd rfl | exact dq0 hd rfl | exact dq2 hd rfl | exact dq3 hd rfl | omega) rfl (Nat.le_of_ble_eq_true rfl) ?_
    refine g_iload_n 1 (gd rfl) rfl rfl ?_
    refine g_iload_n 2 (gd rfl) rfl rfl ?_
    refine g_cmp_gt 5 9 (gd rfl) rfl rfl (fun c129x2 => ?_) (fun c129x2 => ?_)
    · skip
      have i129x2 := r_lt1 (-2147483648) 2147483646 c129x2 (i_rng z128) (i_rng y122_2) rfl
      have i129x2a := r_lt2 (-2147483647) 2147483647 c129x2 (i_rng z128) (i_rng y122_2) rfl
      refine g_iload_n 10 (gd rfl) rfl rfl ?_
      refine g_ireturn (gd rfl) rfl rfl (hp129 _ _ ?_)
      show GG _ _ _ _ _ _ _ _ [.int z128] _ _ _
      refine g_istore_n 133 (gd rfl) rfl (Nat.le_of_ble_eq_true rfl) ?_
      refine g_aload_n 134 (gd rfl) rfl rfl ?_
      refine g_getA (q2 := 74) 137 (gd rfl) rfl rfl rfl rfl ?_
      refine g_iload_n 138 (gd rfl) rfl rfl ?_
      refine g_dup2 139 (gd rfl) rfl rfl rfl ?_
      refine g_iaload 140 (gd rfl) rfl (n := 32) rfl (in_ix j122_3 rfl) (fun z139 e139 => ?_)
      have q139 : z128 = z139 := (e128).trans e139.symm
      subst q139
      refine g_iload_n 141 (gd rfl) rfl rfl ?_
      refine g_isub 142 (gd rfl) rfl (fun z141 e141 => ?_)
      refine g_iastore 143 (gd rfl) rfl (n := 32) rfl (in_ix j122_3 rfl) ?_
      have hI142 := inv_sI (q := 74) (j := y122_3.toNatClampNeg) hIc122 rfl (in_w (-2147483648) 2147483647 (i_rng z141) rfl)
      refine g_aload_n 144 (gd rfl) rfl rfl ?_
      refine g_getA (q2 := 74) 147 (gd rfl) rfl rfl rfl rfl ?_
      refine g_iload_n 148 (gd rfl) rfl rfl ?_
      refine g_dup2 149 (gd rfl) rfl rfl rfl ?_
      refine g_iaload 150 (gd rfl) rfl (n := 32) rfl (in_ix h1 rfl) (fun z149 e149 => ?_)
      refine g_iload_n 151 (gd rfl) rfl rfl ?_
      refine g_iadd 152 (gd rfl) rfl (fun z151 e151 => ?_)
      refine g_iastore 153 (gd rfl) rfl (n := 32) rfl (in_ix h1 rfl) ?_
      have hI152 := inv_sI (q := 74) (j := x1.toNatClampNeg) hI142 rfl (in_w (-2147483648) 2147483647 (i_rng z151) rfl)
      refine g_iload_n 154 (gd rfl) rfl rfl ?_
      refine g_istore_n 155 (gd rfl) rfl (Nat.le_of_ble_eq_true rfl) ?_
      refine g_iconst 0 156 (gd rfl) rfl rfl ?_
      refine g_istore 158 (gd rfl) rfl (Nat.le_of_ble_eq_true rfl) ?_
      exact gg_w (by first | exact Nat.le_of_ble_eq_true rfl | omega) (gg_f (gf_cons rfl (gf_cons rfl (gf_cons rfl (gf_cons rfl (gf_cons rfl gf_nil))))) (ct158 33 (sI (sI sc122 74 y122_3.toNatClampNeg z141) 74 x1.toNatClampNeg z151) z128 x1 (Int32.ofInt 0) hI152 (fr_sI rfl (fr_sI rfl hFc122)) (in_w 0 31 h1 rfl) (in_w 0 32 (in_c 0 rfl) rfl) (m_in 33 (in_w 0 32 (in_c 0 rfl) rfl) rfl)))
    · skip
      refine g_iload_n 6 (gd rfl) rfl rfl ?_
      refine g_goto 10 (gd rfl) rfl ?_
      refine g_ireturn (gd rfl) rfl rfl (hp129 _ _ ?_)
      show GG _ _ _ _ _ _ _ _ [.int y122_2] _ _ _
      refine g_istore_n 133 (gd rfl) rfl (Nat.le_of_ble_eq_true rfl) ?_
      refine g_aload_n 134 (gd rfl) rfl rfl ?_
      refine g_getA (q2 := 74) 137 (gd rfl) rfl rfl rfl rfl ?_
      refine g_iload_n 138 (gd rfl) rfl rfl ?_
      refine g_dup2 139 (gd rfl) rfl rfl rfl ?_
      refine g_iaload 140 (gd rfl) rfl (n := 32) rfl (in_ix j122_3 rfl) (fun z139 e139 => ?_)
      have q139 : z128 = z139 := (e128).trans e139.symm
      subst q139
      refine g_iload_n 141 (gd rfl) rfl rfl ?_
      refine g_isub 142 (gd rfl) rfl (fun z141 e141 => ?_)
      refine g_iastore 143 (gd rfl) rfl (n := 32) rfl (in_ix j122_3 rfl) ?_
      have hI142 := inv_sI (q := 74) (j := y122_3.toNatClampNeg) hIc122 rfl (in_w (-2147483648) 2147483647 (i_rng z141) rfl)
      refine g_aload_n 144 (gd rfl) rfl rfl ?_
      refine g_getA (q2 := 74) 147 (gd rfl) rfl rfl rfl rfl ?_
      refine g_iload_n 148 (gd rfl) rfl rfl ?_
      refine g_dup2 149 (gd rfl) rfl rfl rfl ?_
      refine g_iaload 150 (gd rfl) rfl (n := 32) rfl (in_ix h1 rfl) (fun z149 e149 => ?_)
      refine g_iload_n 151 (gd rfl) rfl rfl ?_
      refine g_iadd 152 (gd rfl) rfl (fun z151 e151 => ?_)
      refine g_iastore 153 (gd rfl) rfl (n := 32) rfl (in_ix h1 rfl) ?_
      have hI152 := inv_sI (q := 74) (j := x1.toNatClampNeg) hI142 rfl (in_w (-2147483648) 2147483647 (i_rng z151) rfl)
      refine g_iload_n 154 (gd rfl) rfl rfl ?_
      refine g_istore_n 155 (gd rfl) rfl (Nat.le_of_ble_eq_true rfl) ?_
      refine g_iconst 0 156 (gd rfl) rfl rfl ?_
      refine g_istore 158 (gd rfl) rfl (Nat.le_of_ble_eq_true rfl) ?_
      exact gg_w (by first | exact Nat.le_of_ble_eq_true rfl | omega) (gg_f (gf_cons rfl (gf_cons rfl (gf_cons rfl (gf_cons rfl (gf_cons rfl gf_nil))))) (ct158 33 (sI (sI sc122 74 y122_3.toNatClampNeg z141) 74 x1.toNatClampNeg z151) y122_2 x1 (Int32.ofInt 0) hI152 (fr_sI rfl (fr_sI rfl hFc122)) (in_w 0 31 h1 rfl) (in_w 0 32 (in_c 0 rfl) rfl) (m_in 33 (in_w 0 32 (in_c 0 rfl) rfl) rfl)))
  have ct13 : ∀ (k13 : Nat) (sc13 : GS) (y13_2 : Int32) (y13_3 : Int32) (y13_4 : Int32), Inv sc13 → Fr fm_88_65 s sc13 → (In y13_3 0 31) → (In y13_4 0 32) → 32 - (y13_4).toInt < (k13 : Int) → GG Z (d - 1) 88 post (gx xp) (31504 + k13 * 900) 13 (fun j => xlook j [(0, .ref (A 65)), (1, .int x1), (2, .int y13_2), (3, .int y13_3), (4, .int y13_4)]) [] (WW Z A sc13 ++ ex) 0 0 := by
    intro k13
    induction k13 with
    | zero => intro sc13 y13_2 y13_3 y13_4 hIc13 hFc13 j13_3 j13_4 mm13; exact m_no mm13 j13_4 rfl
    | succ k13 ih13 =>
      intro sc13 y13_2 y13_3 y13_4 hIc13 hFc13 j13_3 j13_4 mm13
      refine gg_w (M := 31504 + k13 * 900 + 900) gws ?_
      refine g_iload 15 (gd rfl) rfl rfl ?_
      refine g_bipush 32 17 (gd rfl) rfl rfl ?_
      refine g_cmp_ge 20 122 (gd rfl) rfl rfl (fun c17 => ?_) (fun c17 => ?_)
      · skip
        have i17 := r_le2 32 32 c17 (in_c 32 rfl) j13_4 rfl
        exact gg_w (by first | exact Nat.le_add_right _ _ | exact gw2 | exact gw3 | exact gwe rfl | exact gwf rfl | exact gwg rfl | exact gwh rfl | omega) (gg_f (gf_cons rfl (gf_cons rfl (gf_cons rfl (gf_cons rfl (gf_cons rfl gf_nil))))) (ct122 sc13 y13_2 y13_3 y13_4 hIc13 hFc13 (in_w 0 31 j13_3 rfl) (in_w 0 32 i17 rfl)))
      · skip
        have i17 := r_lt1 0 31 c17 j13_4 (in_c 32 rfl) rfl
        refine g_aload_n 21 (gd rfl) rfl rfl ?_
        refine g_getA (q2 := 68) 24 (gd rfl) rfl rfl rfl rfl ?_
        refine g_iload_n 25 (gd rfl) rfl rfl ?_
        refine g_iaload 26 (gd rfl) rfl (n := 32) rfl (in_ix j13_3 rfl) (fun z25 e25 => ?_)
        have i25 := inv_I hIc13 (n := 32) (t := 0) (-1) 319 rfl (in_ix j13_3 rfl) rfl e25
        refine g_iconst (-1) 27 (gd rfl) rfl rfl ?_
        refine g_cmp_eq 30 122 (gd rfl) rfl rfl (fun c27 => ?_) (fun c27 => ?_)
        · skip
          have i27 := r_eq1 (-1) (-1) c27 i25 (in_c (-1) rfl) rfl
          exact gg_w (by first | exact Nat.le_add_right _ _ | exact gw2 | exact gw3 | exact gwe rfl | exact gwf rfl | exact gwg rfl | exact gwh rfl | omega) (gg_f (gf_cons rfl (gf_cons rfl (gf_cons rfl (gf_cons rfl (gf_cons rfl gf_nil))))) (ct122 sc13 y13_2 y13_3 y13_4 hIc13 hFc13 (in_w 0 31 j13_3 rfl) (in_w 0 32 i17 rfl)))
        · skip
          have i27 := r_ne1 0 319 c27 i25 (in_c (-1) rfl) rfl
          refine g_aload_n 31 (gd rfl) rfl rfl ?_
          refine g_getA (q2 := 68) 34 (gd rfl) rfl rfl rfl rfl ?_
          refine g_iload_n 35 (gd rfl) rfl rfl ?_
          refine g_iaload 36 (gd rfl) rfl (n := 32) rfl (in_ix j13_3 rfl) (fun z35 e35 => ?_)
          have q35 : z25 = z35 := (e25).trans e35.symm
          subst q35
          refine g_iconst 1 37 (gd rfl) rfl rfl ?_
          refine g_ishr 38 (gd rfl) rfl (fun z37 e37 => ?_)
          have i37 := in_shrc 1 0 159 e37 i27 rfl rfl
          refine g_istore 40 (gd rfl) rfl (Nat.le_of_ble_eq_true rfl) ?_
          refine g_aload_n 41 (gd rfl) rfl rfl ?_
          refine g_getA (q2 := 68) 44 (gd rfl) rfl rfl rfl rfl ?_
          refine g_iload_n 45 (gd rfl) rfl rfl ?_
          refine g_iaload 46 (gd rfl) rfl (n := 32) rfl (in_ix j13_3 rfl) (fun z45 e45 => ?_)
          have q45 : z25 = z45 := (e25).trans e45.symm
          subst q45
          refine g_iconst 1 47 (gd rfl) rfl rfl ?_
          refine g_iand 48 (gd rfl) rfl (fun z47 e47 => ?_)
          have i47 := in_and2 e47 (in_c 1 rfl) rfl
          refine g_if_ne 51 55 (gd rfl) rfl rfl (fun c48 => ?_) (fun c48 => ?_)
          · skip
            have i48 := z_ne 1 1 c48 i47 rfl
            refine g_iconst 0 56 (gd rfl) rfl rfl ?_
            refine g_istore 58 (gd rfl) rfl (Nat.le_of_ble_eq_true rfl) ?_
            refine g_iload_n 59 (gd rfl) rfl rfl ?_
            refine g_iload 61 (gd rfl) rfl rfl ?_
            refine g_if_eq 64 82 (gd rfl) rfl rfl (fun c61 => ?_) (fun c61 => ?_)
            · skip
              refine g_aload_n 83 (gd rfl) rfl rfl ?_
              refine g_getA (q2 := 73) 86 (gd rfl) rfl rfl rfl rfl ?_
              refine g_iload 88 (gd rfl) rfl rfl ?_
              refine g_iaload 89 (gd rfl) rfl (n := 160) rfl (in_ix i37 rfl) (fun z88 e88 => ?_)
              refine g_calls (As := [.int y13_2, .int z88]) (r := []) 92 (gd rfl) rfl rfl rfl rfl rfl (Nat.le_of_ble_eq_true rfl) (mc := 0) (ms := 0) (Nat.zero_le _) (Nat.zero_le _) (P := fun v u => _) ?_ (fun v u h => h)
              intro po89 xx89 hp89 hx89
              refine g_enter2 (k := 424) (N := 300) (by first | exact dq1 hd rfl | exact dq0 hd rfl | exact dq2 hd rfl | exact dq3 hd rfl | omega) rfl (Nat.le_of_ble_eq_true rfl) ?_
              refine g_iload_n 1 (gd rfl) rfl rfl ?_
              refine g_iload_n 2 (gd rfl) rfl rfl ?_
              refine g_cmp_gt 5 9 (gd rfl) rfl rfl (fun c89x2 => ?_) (fun c89x2 => ?_)
              · skip
                have i89x2 := r_lt1 (-2147483648) 2147483646 c89x2 (i_rng z88) (i_rng y13_2) rfl
                have i89x2a := r_lt2 (-2147483647) 2147483647 c89x2 (i_rng z88) (i_rng y13_2) rfl
                refine g_iload_n 10 (gd rfl) rfl rfl ?_
                refine g_ireturn (gd rfl) rfl rfl (hp89 _ _ ?_)
                show GG _ _ _ _ _ _ _ _ [.int z88] _ _ _
                refine g_istore_n 93 (gd rfl) rfl (Nat.le_of_ble_eq_true rfl) ?_
                refine g_iload 95 (gd rfl) rfl rfl ?_
                refine g_if_eq 98 108 (gd rfl) rfl rfl (fun c95 => ?_) (fun c95 => ?_)
                · skip
                  refine g_aload_n 109 (gd rfl) rfl rfl ?_
                  refine g_getA (q2 := 70) 112 (gd rfl) rfl rfl rfl rfl ?_
                  refine g_iload 114 (gd rfl) rfl rfl ?_
                  refine g_iaload 115 (gd rfl) rfl (n := 160) rfl (in_ix i37 rfl) (fun z114 e114 => ?_)
                  have i114 := inv_I hIc13 (n := 160) (t := 0) 0 31 rfl (in_ix i37 rfl) rfl e114
                  refine g_istore_n 116 (gd rfl) rfl (Nat.le_of_ble_eq_true rfl) ?_
                  refine g_iinc 119 (gd rfl) rfl rfl (Nat.le_of_ble_eq_true rfl) (fun z116 e116 => ?_)
                  have i116 := in_add 1 32 e116 i17 (in_c 1 rfl) rfl rfl
                  refine g_goto 13 (gd rfl) rfl ?_
                  exact gg_w (by first | exact Nat.le_add_right _ _ | exact gw2 | exact gw3 | exact gwe rfl | exact gwf rfl | exact gwg rfl | exact gwh rfl | omega) (gg_f (gf_cons rfl (gf_cons rfl (gf_cons rfl (gf_cons rfl (gf_cons rfl gf_nil))))) (ih13 sc13 z88 z114 z116 hIc13 hFc13 (in_w 0 31 i114 rfl) (in_w 0 32 i116 rfl) (m_up mm13 (t_add e116 i17 (in_c 1 rfl) rfl) (in_w 1 1 (in_c 1 rfl) rfl))))
                · skip
                  exact zn_ne c95 (in_c 0 rfl) rfl
              · skip
                refine g_iload_n 6 (gd rfl) rfl rfl ?_
                refine g_goto 10 (gd rfl) rfl ?_
                refine g_ireturn (gd rfl) rfl rfl (hp89 _ _ ?_)
                show GG _ _ _ _ _ _ _ _ [.int y13_2] _ _ _
                refine g_istore_n 93 (gd rfl) rfl (Nat.le_of_ble_eq_true rfl) ?_
                refine g_iload 95 (gd rfl) rfl rfl ?_
                refine g_if_eq 98 108 (gd rfl) rfl rfl (fun c95 => ?_) (fun c95 => ?_)
                · skip
                  refine g_aload_n 109 (gd rfl) rfl rfl ?_
                  refine g_getA (q2 := 70) 112 (gd rfl) rfl rfl rfl rfl ?_
                  refine g_iload 114 (gd rfl) rfl rfl ?_
                  refine g_iaload 115 (gd rfl) rfl (n := 160) rfl (in_ix i37 rfl) (fun z114 e114 => ?_)
                  have i114 := inv_I hIc13 (n := 160) (t := 0) 0 31 rfl (in_ix i37 rfl) rfl e114
                  refine g_istore_n 116 (gd rfl) rfl (Nat.le_of_ble_eq_true rfl) ?_
                  refine g_iinc 119 (gd rfl) rfl rfl (Nat.le_of_ble_eq_true rfl) (fun z116 e116 => ?_)
                  have i116 := in_add 1 32 e116 i17 (in_c 1 rfl) rfl rfl
                  refine g_goto 13 (gd rfl) rfl ?_
                  exact gg_w (by first | exact Nat.le_add_right _ _ | exact gw2 | exact gw3 | exact gwe rfl | exact gwf rfl | exact gwg rfl | exact gwh rfl | omega) (gg_f (gf_cons rfl (gf_cons rfl (gf_cons rfl (gf_cons rfl (gf_cons rfl gf_nil))))) (ih13 sc13 y13_2 z114 z116 hIc13 hFc13 (in_w 0 31 i114 rfl) (in_w 0 32 i116 rfl) (m_up mm13 (t_add e116 i17 (in_c 1 rfl) rfl) (in_w 1 1 (in_c 1 rfl) rfl))))
                · skip
                  exact zn_ne c95 (in_c 0 rfl) rfl
            · skip
              exact zn_ne c61 (in_c 0 rfl) rfl
          · skip
            have i48 := z_eq 0 0 c48 i47 rfl
            refine g_iconst 1 52 (gd rfl) rfl rfl ?_
            refine g_goto 56 (gd rfl) rfl ?_
            refine g_istore 58 (gd rfl) rfl (Nat.le_of_ble_eq_true rfl) ?_
            refine g_iload_n 59 (gd rfl) rfl rfl ?_
            refine g_iload 61 (gd rfl) rfl rfl ?_
            refine g_if_eq 64 82 (gd rfl) rfl rfl (fun c61 => ?_) (fun c61 => ?_)
            · skip
              exact zn_eq c61 (in_c 1 rfl) rfl
            · skip
              refine g_aload_n 65 (gd rfl) rfl rfl ?_
              refine g_getA (q2 := 72) 68 (gd rfl) rfl rfl rfl rfl ?_
              refine g_iload 70 (gd rfl) rfl rfl ?_
              refine g_iaload 71 (gd rfl) rfl (n := 160) rfl (in_ix i37 rfl) (fun z70 e70 => ?_)
              have i70 := inv_I hIc13 (n := 160) (t := 0) 0 1000000 rfl (in_ix i37 rfl) rfl e70
              refine g_aload_n 72 (gd rfl) rfl rfl ?_
              refine g_getA (q2 := 73) 75 (gd rfl) rfl rfl rfl rfl ?_
              refine g_iload 77 (gd rfl) rfl rfl ?_
              refine g_iaload 78 (gd rfl) rfl (n := 160) rfl (in_ix i37 rfl) (fun z77 e77 => ?_)
              refine g_isub 79 (gd rfl) rfl (fun z78 e78 => ?_)
              refine g_goto 89 (gd rfl) rfl ?_
              refine g_calls (As := [.int y13_2, .int z78]) (r := []) 92 (gd rfl) rfl rfl rfl rfl rfl (Nat.le_of_ble_eq_true rfl) (mc := 0) (ms := 0) (Nat.zero_le _) (Nat.zero_le _) (P := fun v u => _) ?_ (fun v u h => h)
              intro po89 xx89 hp89 hx89
              refine g_enter2 (k := 424) (N := 300) (by first | exact dq1 hd rfl | exact dq0 hd rfl | exact dq2 hd rfl | exact dq3 hd rfl | omega) rfl (Nat.le_of_ble_eq_true rfl) ?_
              refine g_iload_n 1 (gd rfl) rfl rfl ?_
              refine g_iload_n 2 (gd rfl) rfl rfl ?_
              refine g_cmp_gt 5 9 (gd rfl) rfl rfl (fun c89x2 => ?_) (fun c89x2 => ?_)
              · skip
                have i89x2 := r_lt1 (-2147483648) 2147483646 c89x2 (i_rng z78) (i_rng y13_2) rfl
                have i89x2a := r_lt2 (-2147483647) 2147483647 c89x2 (i_rng z78) (i_rng y13_2) rfl
                refine g_iload_n 10 (gd rfl) rfl rfl ?_
                refine g_ireturn (gd rfl) rfl rfl (hp89 _ _ ?_)
                show GG _ _ _ _ _ _ _ _ [.int z78] _ _ _
                refine g_istore_n 93 (gd rfl) rfl (Nat.le_of_ble_eq_true rfl) ?_
                refine g_iload 95 (gd rfl) rfl rfl ?_
                refine g_if_eq 98 108 (gd rfl) rfl rfl (fun c95 => ?_) (fun c95 => ?_)
                · skip
                  exact zn_eq c95 (in_c 1 rfl) rfl
                · skip
                  refine g_aload_n 99 (gd rfl) rfl rfl ?_
                  refine g_getA (q2 := 69) 102 (gd rfl) rfl rfl rfl rfl ?_
                  refine g_iload 104 (gd rfl) rfl rfl ?_
                  refine g_iaload 105 (gd rfl) rfl (n := 160) rfl (in_ix i37 rfl) (fun z104 e104 => ?_)
                  have i104 := inv_I hIc13 (n := 160) (t := 0) 0 31 rfl (in_ix i37 rfl) rfl e104
                  refine g_goto 115 (gd rfl) rfl ?_
                  refine g_istore_n 116 (gd rfl) rfl (Nat.le_of_ble_eq_true rfl) ?_
                  refine g_iinc 119 (gd rfl) rfl rfl (Nat.le_of_ble_eq_true rfl) (fun z116 e116 => ?_)
                  have i116 := in_add 1 32 e116 i17 (in_c 1 rfl) rfl rfl
                  refine g_goto 13 (gd rfl) rfl ?_
                  exact gg_w (by first | exact Nat.le_add_right _ _ | exact gw2 | exact gw3 | exact gwe rfl | exact gwf rfl | exact gwg rfl | exact gwh rfl | omega) (gg_f (gf_cons rfl (gf_cons rfl (gf_cons rfl (gf_cons rfl (gf_cons rfl gf_nil))))) (ih13 sc13 z78 z104 z116 hIc13 hFc13 (in_w 0 31 i104 rfl) (in_w 0 32 i116 rfl) (m_up mm13 (t_add e116 i17 (in_c 1 rfl) rfl) (in_w 1 1 (in_c 1 rfl) rfl))))
              · skip
                refine g_iload_n 6 (gd rfl) rfl rfl ?_
                refine g_goto 10 (gd rfl) rfl ?_
                refine g_ireturn (gd rfl) rfl rfl (hp89 _ _ ?_)
                show GG _ _ _ _ _ _ _ _ [.int y13_2] _ _ _
                refine g_istore_n 93 (gd rfl) rfl (Nat.le_of_ble_eq_true rfl) ?_
                refine g_iload 95 (gd rfl) rfl rfl ?_
                refine g_if_eq 98 108 (gd rfl) rfl rfl (fun c95 => ?_) (fun c95 => ?_)
                · skip
                  exact zn_eq c95 (in_c 1 rfl) rfl
                · skip
                  refine g_aload_n 99 (gd rfl) rfl rfl ?_
                  refine g_getA (q2 := 69) 102 (gd rfl) rfl rfl rfl rfl ?_
                  refine g_iload 104 (gd rfl) rfl rfl ?_
                  refine g_iaload 105 (gd rfl) rfl (n := 160) rfl (in_ix i37 rfl) (fun z104 e104 => ?_)
                  have i104 := inv_I hIc13 (n := 160) (t := 0) 0 31 rfl (in_ix i37 rfl) rfl e104
                  refine g_goto 115 (gd rfl) rfl ?_
                  refine g_istore_n 116 (gd rfl) rfl (Nat.le_of_ble_eq_true rfl) ?_
                  refine g_iinc 119 (gd rfl) rfl rfl (Nat.le_of_ble_eq_true rfl) (fun z116 e116 => ?_)
                  have i116 := in_add 1 32 e116 i17 (in_c 1 rfl) rfl rfl
                  refine g_goto 13 (gd rfl) rfl ?_
                  exact gg_w (by first | exact Nat.le_add_right _ _ | exact gw2 | exact gw3 | exact gwe rfl | exact gwf rfl | exact gwg rfl | exact gwh rfl | omega) (gg_f (gf_cons rfl (gf_cons rfl (gf_cons rfl (gf_cons rfl (gf_cons rfl gf_nil))))) (ih13 sc13 y13_2 z104 z116 hIc13 hFc13 (in_w 0 31 i104 rfl) (in_w 0 32 i116 rfl) (m_up mm13 (t_add e116 i17 (in_c 1 rfl) rfl) (in_w 1 1 (in_c 1 rfl) rfl))))
  refine g_enter2 (k := 88) (N := 62104) (by first | exact dq1 hd rfl | exact dq0 hd rfl | exact dq2 hd rfl | exact dq3 hd rfl | omega) rfl (Nat.le_of_ble_eq_true rfl) ?_
  refine g_aload_n 1 (gd rfl) rfl rfl ?_
  refine g_getA (q2 := 74) 4 (gd rfl) rfl rfl rfl rfl ?_
  refine g_iload_n 5 (gd rfl) rfl rfl ?_
  refine g_iaload 6 (gd rfl) rfl (n := 32) rfl (in_ix h1 rfl) (fun z5 e5 => ?_)
  refine g_ineg 7 (gd rfl) rfl (fun z6 e6 => ?_)
  refine g_istore_n 8 (gd rfl) rfl (Nat.le_of_ble_eq_true rfl) ?_
  refine g_iload_n 9 (gd rfl) rfl rfl ?_
  refine g_istore_n 10 (gd rfl) rfl (Nat.le_of_ble_eq_true rfl) ?_
  refine g_iconst 0 11 (gd rfl) rfl rfl ?_
  refine g_istore 13 (gd rfl) rfl (Nat.le_of_ble_eq_true rfl) ?_
  exact gg_w (by first | exact Nat.le_of_ble_eq_true rfl | omega) (gg_f (gf_cons rfl (gf_cons rfl (gf_cons rfl (gf_cons rfl (gf_cons rfl gf_nil))))) (ct13 33 s z6 x1 (Int32.ofInt 0) hI fr_rf (in_w 0 31 h1 rfl) (in_w 0 32 (in_c 0 rfl) rfl) (m_in 33 (in_w 0 32 (in_c 0 rfl) rfl) rfl)))

def fm_92_32 : FM := ([34], [], [(32, 0), (32, 1), (32, 2), (32, 3), (32, 4)], [])
def fm_93_2_16 : FM := ([3, 4, 5, 6, 7, 8], [], [(2, 0), (2, 1), (2, 2), (2, 3), (2, 4)], [])
def fm_93_16_2 : FM := ([17, 18, 19, 20, 21, 22], [], [(16, 0), (16, 1), (16, 2), (16, 3), (16, 4)], [])
/-- GraphHouse$Graph.joints -/
theorem k_98_2 {Z : AmZ} {A : Nat → Nat} {s : GS} {ex : va_W} {d : Nat} {X : AmX}  (hd : 3 ≤ d) (hI : Inv s)  : GC Z d 98 [.ref (A 2)] (WW Z A s ++ ex) 0 0 (fun v u => ∃ z : Int32, v = some (.int z) ∧ u = WW Z A s ++ ex ∧ In z 0 160) X := by
  intro post xp hP hX
  obtain ⟨u_2_3, e_2_3⟩ : ∃ w, w = s.2.2.1 2 3 := ⟨_, rfl⟩
  have ro_2_3 := inv_F hI 0 160 rfl e_2_3
  have ct4 : ∀ (k4 : Nat) (y4_1 : Int32) (y4_2 : Int32), (In y4_1 0 160) → (In y4_2 0 160) → ((y4_1).toInt ≤ (y4_2).toInt + 0) → 160 - (y4_2).toInt < (k4 : Int) → GG Z (d - 1) 98 post (gx xp) (1 + k4 * 900) 4 (fun j => xlook j [(0, .ref (A 2)), (1, .int y4_1), (2, .int y4_2)]) [] (WW Z A s ++ ex) 0 0 := by
    intro k4
    induction k4 with
    | zero => intro y4_1 y4_2 j4_1 j4_2 l4_1 mm4; exact m_no mm4 j4_2 rfl
    | succ k4 ih4 =>
      intro y4_1 y4_2 j4_1 j4_2 l4_1 mm4
      refine gg_w (M := 1 + k4 * 900 + 900) gws ?_
      refine g_iload_n 5 (gd rfl) rfl rfl ?_
      refine g_aload_n 6 (gd rfl) rfl rfl ?_
      refine g_getI 9 (gd rfl) rfl rfl rfl (fun z6 e6 => ?_)
      have q6 : u_2_3 = z6 := (e_2_3).trans e6.symm
      subst q6
      refine g_cmp_ge 12 29 (gd rfl) rfl rfl (fun c9 => ?_) (fun c9 => ?_)
      · skip
        refine g_iload_n 30 (gd rfl) rfl rfl ?_
        exact g_ireturn (gd rfl) rfl rfl (hP _ _ ⟨y4_1, rfl, rfl, in_w 0 160 j4_1 rfl⟩)
      · skip
        have i9 := r_lt1 0 159 c9 j4_2 ro_2_3 rfl
        have i9a := r_lt2 1 160 c9 j4_2 ro_2_3 rfl
        refine g_aload_n 13 (gd rfl) rfl rfl ?_
        refine g_iload_n 14 (gd rfl) rfl rfl ?_
        refine g_callv (X := _) (As := [.int y4_2]) (r := []) (b := A 2) (q := 2) 17 (gd rfl) rfl rfl rfl rfl rfl (ww_o rfl) (Nat.le_of_ble_eq_true rfl) (mc := 0) (ms := 0) (Nat.zero_le _) (Nat.zero_le _) (P := fun v u => _) ?_ (fun e u h => h) (fun v u h => h)
        intro po14 xx14 hp14 hx14
        refine g_enter2 (k := 97) (N := 300) (by first | exact dq1 hd rfl | exact dq0 hd rfl | exact dq2 hd rfl | exact dq3 hd rfl | omega) rfl (Nat.le_of_ble_eq_true rfl) ?_
        refine g_aload_n 1 (gd rfl) rfl rfl ?_
        refine g_getA (q2 := 4) 4 (gd rfl) rfl rfl rfl rfl ?_
        refine g_iload_n 5 (gd rfl) rfl rfl ?_
        refine g_iaload 6 (gd rfl) rfl (n := 160) rfl (in_ix i9 rfl) (fun z14x5 e14x5 => ?_)
        have i14x5 := inv_I hI (n := 160) (t := 0) (-1) 31 rfl (in_ix i9 rfl) rfl e14x5
        refine g_iconst (-1) 7 (gd rfl) rfl rfl ?_
        refine g_cmp_eq 10 29 (gd rfl) rfl rfl (fun c14x7 => ?_) (fun c14x7 => ?_)
        · skip
          have i14x7 := r_eq1 (-1) (-1) c14x7 i14x5 (in_c (-1) rfl) rfl
          refine g_iconst 0 30 (gd rfl) rfl rfl ?_
          refine g_ireturn (gd rfl) rfl (nb01 (in_w 0 1 (in_c 0 rfl) rfl)) (hp14 _ _ ?_)
          show GG _ _ _ _ _ _ _ _ [.int (Int32.ofInt 0)] _ _ _
          refine g_if_eq 20 23 (gd rfl) rfl rfl (fun c17 => ?_) (fun c17 => ?_)
          · skip
            refine g_iinc 26 (gd rfl) rfl rfl (Nat.le_of_ble_eq_true rfl) (fun z23 e23 => ?_)
            have i23 := in_add 1 160 e23 i9 (in_c 1 rfl) rfl rfl
            refine g_goto 4 (gd rfl) rfl ?_
            have l4 := rl_0 l4_1 (t_add e23 i9 (in_c 1 rfl) rfl) (in_w 0 1 (in_c 1 rfl) rfl)
            exact gg_w (by first | exact Nat.le_add_right _ _ | exact gw2 | exact gw3 | exact gwe rfl | exact gwf rfl | exact gwg rfl | exact gwh rfl | omega) (gg_f (gf_cons rfl (gf_cons rfl (gf_cons rfl gf_nil))) (ih4  y4_1 z23  (rl_w 0 160 l4 j4_1 (in_w 0 160 i23 rfl) rfl) (in_w 0 160 i23 rfl) l4 (m_up mm4 (t_add e23 i9 (in_c 1 rfl) rfl) (in_w 1 1 (in_c 1 rfl) rfl))))
          · skip
            exact zn_ne c17 (in_c 0 rfl) rfl
        · skip
          have i14x7 := r_ne1 0 31 c14x7 i14x5 (in_c (-1) rfl) rfl
          refine g_aload_n 11 (gd rfl) rfl rfl ?_
          refine g_getA (q2 := 4) 14 (gd rfl) rfl rfl rfl rfl ?_
          refine g_iload_n 15 (gd rfl) rfl rfl ?_
          refine g_iaload 16 (gd rfl) rfl (n := 160) rfl (in_ix i9 rfl) (fun z14x15 e14x15 => ?_)
          have q14x15 : z14x5 = z14x15 := (e14x5).trans e14x15.symm
          subst q14x15
          refine g_aload_n 17 (gd rfl) rfl rfl ?_
          refine g_getA (q2 := 5) 20 (gd rfl) rfl rfl rfl rfl ?_
          refine g_iload_n 21 (gd rfl) rfl rfl ?_
          refine g_iaload 22 (gd rfl) rfl (n := 160) rfl (in_ix i9 rfl) (fun z14x21 e14x21 => ?_)
          have i14x21 := inv_I hI (n := 160) (t := 0) 0 31 rfl (in_ix i9 rfl) rfl e14x21
          refine g_cmp_eq 25 29 (gd rfl) rfl rfl (fun c14x22 => ?_) (fun c14x22 => ?_)
          · skip
            refine g_iconst 0 30 (gd rfl) rfl rfl ?_
            refine g_ireturn (gd rfl) rfl (nb01 (in_w 0 1 (in_c 0 rfl) rfl)) (hp14 _ _ ?_)
            show GG _ _ _ _ _ _ _ _ [.int (Int32.ofInt 0)] _ _ _
            refine g_if_eq 20 23 (gd rfl) rfl rfl (fun c17 => ?_) (fun c17 => ?_)
            · skip
              refine g_iinc 26 (gd rfl) rfl rfl (Nat.le_of_ble_eq_true rfl) (fun z23 e23 => ?_)
              have i23 := in_add 1 160 e23 i9 (in_c 1 rfl) rfl rfl
              refine g_goto 4 (gd rfl) rfl ?_
              have l4 := rl_0 l4_1 (t_add e23 i9 (in_c 1 rfl) rfl) (in_w 0 1 (in_c 1 rfl) rfl)
              exact gg_w (by first | exact Nat.le_add_right _ _ | exact gw2 | exact gw3 | exact gwe rfl | exact gwf rfl | exact gwg rfl | exact gwh rfl | omega) (gg_f (gf_cons rfl (gf_cons rfl (gf_cons rfl gf_nil))) (ih4  y4_1 z23  (rl_w 0 160 l4 j4_1 (in_w 0 160 i23 rfl) rfl) (in_w 0 160 i23 rfl) l4 (m_up mm4 (t_add e23 i9 (in_c 1 rfl) rfl) (in_w 1 1 (in_c 1 rfl) rfl))))
            · skip
              exact zn_ne c17 (in_c 0 rfl) rfl
          · skip
            refine g_iconst 1 26 (gd rfl) rfl rfl ?_
            refine g_goto 30 (gd rfl) rfl ?_
            refine g_ireturn (gd rfl) rfl (nb01 (in_w 0 1 (in_c 1 rfl) rfl)) (hp14 _ _ ?_)
            show GG _ _ _ _ _ _ _ _ [.int (Int32.ofInt 1)] _ _ _
            refine g_if_eq 20 23 (gd rfl) rfl rfl (fun c17 => ?_) (fun c17 => ?_)
            · skip
              exact zn_eq c17 (in_c 1 rfl) rfl
            · skip
              refine g_iinc 23 (gd rfl) rfl rfl (Nat.le_of_ble_eq_true rfl) (fun z20 e20 => ?_)
              have i20 := in_add 1 161 e20 j4_1 (in_c 1 rfl) rfl rfl
              refine g_iinc 26 (gd rfl) rfl rfl (Nat.le_of_ble_eq_true rfl) (fun z23 e23 => ?_)
              have i23 := in_add 1 160 e23 i9 (in_c 1 rfl) rfl rfl
              refine g_goto 4 (gd rfl) rfl ?_
              have l4 := rl_1 l4_1 (t_add e20 j4_1 (in_c 1 rfl) rfl) (in_c 1 rfl) (t_add e23 i9 (in_c 1 rfl) rfl) (in_c 1 rfl) rfl
              exact gg_w (by first | exact Nat.le_add_right _ _ | exact gw2 | exact gw3 | exact gwe rfl | exact gwf rfl | exact gwg rfl | exact gwh rfl | omega) (gg_f (gf_cons rfl (gf_cons rfl (gf_cons rfl gf_nil))) (ih4  z20 z23  (rl_w 0 160 l4 i20 (in_w 0 160 i23 rfl) rfl) (in_w 0 160 i23 rfl) l4 (m_up mm4 (t_add e23 i9 (in_c 1 rfl) rfl) (in_w 1 1 (in_c 1 rfl) rfl))))
  refine g_enter2 (k := 98) (N := 145801) (by first | exact dq1 hd rfl | exact dq0 hd rfl | exact dq2 hd rfl | exact dq3 hd rfl | omega) rfl (Nat.le_of_ble_eq_true rfl) ?_
  refine g_iconst 0 1 (gd rfl) rfl rfl ?_
  refine g_istore_n 2 (gd rfl) rfl (Nat.le_of_ble_eq_true rfl) ?_
  refine g_iconst 0 3 (gd rfl) rfl rfl ?_
  refine g_istore_n 4 (gd rfl) rfl (Nat.le_of_ble_eq_true rfl) ?_
  have l4 := rl_in 0 (in_c 0 rfl) (in_c 0 rfl) rfl
  exact gg_w (by first | exact Nat.le_of_ble_eq_true rfl | omega) (gg_f (gf_cons rfl (gf_cons rfl (gf_cons rfl gf_nil))) (ct4 161  (Int32.ofInt 0) (Int32.ofInt 0)  (rl_w 0 160 l4 (in_c 0 rfl) (in_w 0 160 (in_c 0 rfl) rfl) rfl) (in_w 0 160 (in_c 0 rfl) rfl) l4 (m_in 161 (in_w 0 160 (in_c 0 rfl) rfl) rfl)))

/-- GraphHouse$Graph.joints -/
theorem k_98_32 {Z : AmZ} {A : Nat → Nat} {s : GS} {ex : va_W} {d : Nat} {X : AmX}  (hd : 3 ≤ d) (hI : Inv s)  : GC Z d 98 [.ref (A 32)] (WW Z A s ++ ex) 0 0 (fun v u => ∃ z : Int32, v = some (.int z) ∧ u = WW Z A s ++ ex ∧ In z 0 160) X := by
  intro post xp hP hX
  obtain ⟨u_32_3, e_32_3⟩ : ∃ w, w = s.2.2.1 32 3 := ⟨_, rfl⟩
  have ro_32_3 := inv_F hI 0 160 rfl e_32_3
  have ct4 : ∀ (k4 : Nat) (y4_1 : Int32) (y4_2 : Int32), (In y4_1 0 160) → (In y4_2 0 160) → ((y4_1).toInt ≤ (y4_2).toInt + 0) → 160 - (y4_2).toInt < (k4 : Int) → GG Z (d - 1) 98 post (gx xp) (1 + k4 * 900) 4 (fun j => xlook j [(0, .ref (A 32)), (1, .int y4_1), (2, .int y4_2)]) [] (WW Z A s ++ ex) 0 0 := by
    intro k4
    induction k4 with
    | zero => intro y4_1 y4_2 j4_1 j4_2 l4_1 mm4; exact m_no mm4 j4_2 rfl
    | succ k4 ih4 =>
      intro y4_1 y4_2 j4_1 j4_2 l4_1 mm4
      refine gg_w (M := 1 + k4 * 900 + 900) gws ?_
      refine g_iload_n 5 (gd rfl) rfl rfl ?_
      refine g_aload_n 6 (gd rfl) rfl rfl ?_
      refine g_getI 9 (gd rfl) rfl rfl rfl (fun z6 e6 => ?_)
      have q6 : u_32_3 = z6 := (e_32_3).trans e6.symm
      subst q6
      refine g_cmp_ge 12 29 (gd rfl) rfl rfl (fun c9 => ?_) (fun c9 => ?_)
      · skip
        refine g_iload_n 30 (gd rfl) rfl rfl ?_
        exact g_ireturn (gd rfl) rfl rfl (hP _ _ ⟨y4_1, rfl, rfl, in_w 0 160 j4_1 rfl⟩)
      · skip
        have i9 := r_lt1 0 159 c9 j4_2 ro_32_3 rfl
        have i9a := r_lt2 1 160 c9 j4_2 ro_32_3 rfl
        refine g_aload_n 13 (gd rfl) rfl rfl ?_
        refine g_iload_n 14 (gd rfl) rfl rfl ?_
        refine g_callv (X := _) (As := [.int y4_2]) (r := []) (b := A 32) (q := 32) 17 (gd rfl) rfl rfl rfl rfl rfl (ww_o rfl) (Nat.le_of_ble_eq_true rfl) (mc := 0) (ms := 0) (Nat.zero_le _) (Nat.zero_le _) (P := fun v u => _) ?_ (fun e u h => h) (fun v u h => h)
        intro po14 xx14 hp14 hx14
        refine g_enter2 (k := 97) (N := 300) (by first | exact dq1 hd rfl | exact dq0 hd rfl | exact dq2 hd rfl | exact dq3 hd rfl | omega) rfl (Nat.le_of_ble_eq_true rfl) ?_
        refine g_aload_n 1 (gd rfl) rfl rfl ?_
        refine g_getA (q2 := 34) 4 (gd rfl) rfl rfl rfl rfl ?_
        refine g_iload_n 5 (gd rfl) rfl rfl ?_
        refine g_iaload 6 (gd rfl) rfl (n := 160) rfl (in_ix i9 rfl) (fun z14x5 e14x5 => ?_)
        have i14x5 := inv_I hI (n := 160) (t := 0) (-1) 31 rfl (in_ix i9 rfl) rfl e14x5
        refine g_iconst (-1) 7 (gd rfl) rfl rfl ?_
        refine g_cmp_eq 10 29 (gd rfl) rfl rfl (fun c14x7 => ?_) (fun c14x7 => ?_)
        · skip
          have i14x7 := r_eq1 (-1) (-1) c14x7 i14x5 (in_c (-1) rfl) rfl
          refine g_iconst 0 30 (gd rfl) rfl rfl ?_
          refine g_ireturn (gd rfl) rfl (nb01 (in_w 0 1 (in_c 0 rfl) rfl)) (hp14 _ _ ?_)
          show GG _ _ _ _ _ _ _ _ [.int (Int32.ofInt 0)] _ _ _
          refine g_if_eq 20 23 (gd rfl) rfl rfl (fun c17 => ?_) (fun c17 => ?_)
          · skip
            refine g_iinc 26 (gd rfl) rfl rfl (Nat.le_of_ble_eq_true rfl) (fun z23 e23 => ?_)
            have i23 := in_add 1 160 e23 i9 (in_c 1 rfl) rfl rfl
            refine g_goto 4 (gd rfl) rfl ?_
            have l4 := rl_0 l4_1 (t_add e23 i9 (in_c 1 rfl) rfl) (in_w 0 1 (in_c 1 rfl) rfl)
            exact gg_w (by first | exact Nat.le_add_right _ _ | exact gw2 | exact gw3 | exact gwe rfl | exact gwf rfl | exact gwg rfl | exact gwh rfl | omega) (gg_f (gf_cons rfl (gf_cons rfl (gf_cons rfl gf_nil))) (ih4  y4_1 z23  (rl_w 0 160 l4 j4_1 (in_w 0 160 i23 rfl) rfl) (in_w 0 160 i23 rfl) l4 (m_up mm4 (t_add e23 i9 (in_c 1 rfl) rfl) (in_w 1 1 (in_c 1 rfl) rfl))))
          · skip
            exact zn_ne c17 (in_c 0 rfl) rfl
        · skip
          have i14x7 := r_ne1 0 31 c14x7 i14x5 (in_c (-1) rfl) rfl
          refine g_aload_n 11 (gd rfl) rfl rfl ?_
          refine g_getA (q2 := 34) 14 (gd rfl) rfl rfl rfl rfl ?_
          refine g_iload_n 15 (gd rfl) rfl rfl ?_
          refine g_iaload 16 (gd rfl) rfl (n := 160) rfl (in_ix i9 rfl) (fun z14x15 e14x15 => ?_)
          have q14x15 : z14x5 = z14x15 := (e14x5).trans e14x15.symm
          subst q14x15
          refine g_aload_n 17 (gd rfl) rfl rfl ?_
          refine g_getA (q2 := 35) 20 (gd rfl) rfl rfl rfl rfl ?_
          refine g_iload_n 21 (gd rfl) rfl rfl ?_
          refine g_iaload 22 (gd rfl) rfl (n := 160) rfl (in_ix i9 rfl) (fun z14x21 e14x21 => ?_)
          have i14x21 := inv_I hI (n := 160) (t := 0) 0 31 rfl (in_ix i9 rfl) rfl e14x21
          refine g_cmp_eq 25 29 (gd rfl) rfl rfl (fun c14x22 => ?_) (fun c14x22 => ?_)
          · skip
            refine g_iconst 0 30 (gd rfl) rfl rfl ?_
            refine g_ireturn (gd rfl) rfl (nb01 (in_w 0 1 (in_c 0 rfl) rfl)) (hp14 _ _ ?_)
            show GG _ _ _ _ _ _ _ _ [.int (Int32.ofInt 0)] _ _ _
            refine g_if_eq 20 23 (gd rfl) rfl rfl (fun c17 => ?_) (fun c17 => ?_)
            · skip
              refine g_iinc 26 (gd rfl) rfl rfl (Nat.le_of_ble_eq_true rfl) (fun z23 e23 => ?_)
              have i23 := in_add 1 160 e23 i9 (in_c 1 rfl) rfl rfl
              refine g_goto 4 (gd rfl) rfl ?_
              have l4 := rl_0 l4_1 (t_add e23 i9 (in_c 1 rfl) rfl) (in_w 0 1 (in_c 1 rfl) rfl)
              exact gg_w (by first | exact Nat.le_add_right _ _ | exact gw2 | exact gw3 | exact gwe rfl | exact gwf rfl | exact gwg rfl | exact gwh rfl | omega) (gg_f (gf_cons rfl (gf_cons rfl (gf_cons rfl gf_nil))) (ih4  y4_1 z23  (rl_w 0 160 l4 j4_1 (in_w 0 160 i23 rfl) rfl) (in_w 0 160 i23 rfl) l4 (m_up mm4 (t_add e23 i9 (in_c 1 rfl) rfl) (in_w 1 1 (in_c 1 rfl) rfl))))
            · skip
              exact zn_ne c17 (in_c 0 rfl) rfl
          · skip
            refine g_iconst 1 26 (gd rfl) rfl rfl ?_
            refine g_goto 30 (gd rfl) rfl ?_
            refine g_ireturn (gd rfl) rfl (nb01 (in_w 0 1 (in_c 1 rfl) rfl)) (hp14 _ _ ?_)
            show GG _ _ _ _ _ _ _ _ [.int (Int32.ofInt 1)] _ _ _
            refine g_if_eq 20 23 (gd rfl) rfl rfl (fun c17 => ?_) (fun c17 => ?_)
            · skip
              exact zn_eq c17 (in_c 1 rfl) rfl
            · skip
              refine g_iinc 23 (gd rfl) rfl rfl (Nat.le_of_ble_eq_true rfl) (fun z20 e20 => ?_)
              have i20 := in_add 1 161 e20 j4_1 (in_c 1 rfl) rfl rfl
              refine g_iinc 26 (gd rfl) rfl rfl (Nat.le_of_ble_eq_true rfl) (fun z23 e23 => ?_)
              have i23 := in_add 1 160 e23 i9 (in_c 1 rfl) rfl rfl
              refine g_goto 4 (gd rfl) rfl ?_
              have l4 := rl_1 l4_1 (t_add e20 j4_1 (in_c 1 rfl) rfl) (in_c 1 rfl) (t_add e23 i9 (in_c 1 rfl) rfl) (in_c 1 rfl) rfl
              exact gg_w (by first | exact Nat.le_add_right _ _ | exact gw2 | exact gw3 | exact gwe rfl | exact gwf rfl | exact gwg rfl | exact gwh rfl | omega) (gg_f (gf_cons rfl (gf_cons rfl (gf_cons rfl gf_nil))) (ih4  z20 z23  (rl_w 0 160 l4 i20 (in_w 0 160 i23 rfl) rfl) (in_w 0 160 i23 rfl) l4 (m_up mm4 (t_add e23 i9 (in_c 1 rfl) rfl) (in_w 1 1 (in_c 1 rfl) rfl))))
  refine g_enter2 (k := 98) (N := 145801) (by first | exact dq1 hd rfl | exact dq0 hd rfl | exact dq2 hd rfl | exact dq3 hd rfl | omega) rfl (Nat.le_of_ble_eq_true rfl) ?_
  refine g_iconst 0 1 (gd rfl) rfl rfl ?_
  refine g_istore_n 2 (gd rfl) rfl (Nat.le_of_ble_eq_true rfl) ?_
  refine g_iconst 0 3 (gd rfl) rfl rfl ?_
  refine g_istore_n 4 (gd rfl) rfl (Nat.le_of_ble_eq_true rfl) ?_
  have l4 := rl_in 0 (in_c 0 rfl) (in_c 0 rfl) rfl
  exact gg_w (by first | exact Nat.le_of_ble_eq_true rfl | omega) (gg_f (gf_cons rfl (gf_cons rfl (gf_cons rfl gf_nil))) (ct4 161  (Int32.ofInt 0) (Int32.ofInt 0)  (rl_w 0 160 l4 (in_c 0 rfl) (in_w 0 160 (in_c 0 rfl) rfl) rfl) (in_w 0 160 (in_c 0 rfl) rfl) l4 (m_in 161 (in_w 0 160 (in_c 0 rfl) rfl) rfl)))

def fm_99_2_59 : FM := ([59], [], [], [])
/-- GraphHouse$Graph.countJoints -/
theorem k_99_2_59 {Z : AmZ} {A : Nat → Nat} {s : GS} {ex : va_W} {d : Nat} {X : AmX}  (hd : 3 ≤ d) (hI : Inv s)  : GC Z d 99 [.ref (A 2), .ref (A 59)] (WW Z A s ++ ex) 0 0 (fun v u => ∃ t : GS, Inv t ∧ Fr fm_99_2_59 s t ∧ v = none ∧ u = WW Z A t ++ ex) X := by
  intro post xp hP hX
  obtain ⟨u_2_3, e_2_3⟩ : ∃ w, w = s.2.2.1 2 3 := ⟨_, rfl⟩
  have ro_2_3 := inv_F hI 0 160 rfl e_2_3
  have ct7 : ∀ (k7 : Nat) (sc7 : GS) (y7_2 : Int32), Inv sc7 → Fr fm_99_2_59 s sc7 → (In y7_2 0 160) → 160 - (y7_2).toInt < (k7 : Int) → GG Z (d - 1) 99 post (gx xp) (1 + k7 * 900) 7 (fun j => xlook j [(0, .ref (A 2)), (1, .ref (A 59)), (2, .int y7_2)]) [] (WW Z A sc7 ++ ex) 0 0 := by
    intro k7
    induction k7 with
    | zero => intro sc7 y7_2 hIc7 hFc7 j7_2 mm7; exact m_no mm7 j7_2 rfl
    | succ k7 ih7 =>
      intro sc7 y7_2 hIc7 hFc7 j7_2 mm7
      refine gg_w (M := 1 + k7 * 900 + 900) gws ?_
      refine g_iload_n 8 (gd rfl) rfl rfl ?_
      refine g_aload_n 9 (gd rfl) rfl rfl ?_
      refine g_getI 12 (gd rfl) rfl rfl rfl (fun z9 e9 => ?_)
      have q9 : u_2_3 = z9 := (fr_F e_2_3 hFc7 rfl).trans e9.symm
      subst q9
      refine g_cmp_ge 15 53 (gd rfl) rfl rfl (fun c12 => ?_) (fun c12 => ?_)
      · skip
        exact g_return (gd rfl) rfl (hP _ _ ⟨sc7, hIc7, hFc7, rfl, rfl⟩)
      · skip
        have i12 := r_lt1 0 159 c12 j7_2 ro_2_3 rfl
        have i12a := r_lt2 1 160 c12 j7_2 ro_2_3 rfl
        refine g_aload_n 16 (gd rfl) rfl rfl ?_
        refine g_iload_n 17 (gd rfl) rfl rfl ?_
        refine g_callv (X := _) (As := [.int y7_2]) (r := []) (b := A 2) (q := 2) 20 (gd rfl) rfl rfl rfl rfl rfl (ww_o rfl) (Nat.le_of_ble_eq_true rfl) (mc := 0) (ms := 0) (Nat.zero_le _) (Nat.zero_le _) (P := fun v u => _) ?_ (fun e u h => h) (fun v u h => h)
        intro po17 xx17 hp17 hx17
        refine g_enter2 (k := 97) (N := 300) (by first | exact dq1 hd rfl | exact dq0 hd rfl | exact dq2 hd rfl | exact dq3 hd rfl | omega) rfl (Nat.le_of_ble_eq_true rfl) ?_
        refine g_aload_n 1 (gd rfl) rfl rfl ?_
        refine g_getA (q2 := 4) 4 (gd rfl) rfl rfl rfl rfl ?_
        refine g_iload_n 5 (gd rfl) rfl rfl ?_
        refine g_iaload 6 (gd rfl) rfl (n := 160) rfl (in_ix i12 rfl) (fun z17x5 e17x5 => ?_)
        have i17x5 := inv_I hIc7 (n := 160) (t := 0) (-1) 31 rfl (in_ix i12 rfl) rfl e17x5
        refine g_iconst (-1) 7 (gd rfl) rfl rfl ?_
        refine g_cmp_eq 10 29 (gd rfl) rfl rfl (fun c17x7 => ?_) (fun c17x7 => ?_)
        · skip
          have i17x7 := r_eq1 (-1) (-1) c17x7 i17x5 (in_c (-1) rfl) rfl
          refine g_iconst 0 30 (gd rfl) rfl rfl ?_
          refine g_ireturn (gd rfl) rfl (nb01 (in_w 0 1 (in_c 0 rfl) rfl)) (hp17 _ _ ?_)
          show GG _ _ _ _ _ _ _ _ [.int (Int32.ofInt 0)] _ _ _
          refine g_if_eq 23 47 (gd rfl) rfl rfl (fun c20 => ?_) (fun c20 => ?_)
          · skip
            refine g_iinc 50 (gd rfl) rfl rfl (Nat.le_of_ble_eq_true rfl) (fun z47 e47 => ?_)
            have i47 := in_add 1 160 e47 i12 (in_c 1 rfl) rfl rfl
            refine g_goto 7 (gd rfl) rfl ?_
            exact gg_w (by first | exact Nat.le_add_right _ _ | exact gw2 | exact gw3 | exact gwe rfl | exact gwf rfl | exact gwg rfl | exact gwh rfl | omega) (gg_f (gf_cons rfl (gf_cons rfl (gf_cons rfl gf_nil))) (ih7 sc7 z47 hIc7 hFc7 (in_w 0 160 i47 rfl) (m_up mm7 (t_add e47 i12 (in_c 1 rfl) rfl) (in_w 1 1 (in_c 1 rfl) rfl))))
          · skip
            exact zn_ne c20 (in_c 0 rfl) rfl
        · skip
          have i17x7 := r_ne1 0 31 c17x7 i17x5 (in_c (-1) rfl) rfl
          refine g_aload_n 11 (gd rfl) rfl rfl ?_
          refine g_getA (q2 := 4) 14 (gd rfl) rfl rfl rfl rfl ?_
          refine g_iload_n 15 (gd rfl) rfl rfl ?_
          refine g_iaload 16 (gd rfl) rfl (n := 160) rfl (in_ix i12 rfl) (fun z17x15 e17x15 => ?_)
          have q17x15 : z17x5 = z17x15 := (e17x5).trans e17x15.symm
          subst q17x15
          refine g_aload_n 17 (gd rfl) rfl rfl ?_
          refine g_getA (q2 := 5) 20 (gd rfl) rfl rfl rfl rfl ?_
          refine g_iload_n 21 (gd rfl) rfl rfl ?_
          refine g_iaload 22 (gd rfl) rfl (n := 160) rfl (in_ix i12 rfl) (fun z17x21 e17x21 => ?_)
          have i17x21 := inv_I hIc7 (n := 160) (t := 0) 0 31 rfl (in_ix i12 rfl) rfl e17x21
          refine g_cmp_eq 25 29 (gd rfl) rfl rfl (fun c17x22 => ?_) (fun c17x22 => ?_)
          · skip
            refine g_iconst 0 30 (gd rfl) rfl rfl ?_
            refine g_ireturn (gd rfl) rfl (nb01 (in_w 0 1 (in_c 0 rfl) rfl)) (hp17 _ _ ?_)
            show GG _ _ _ _ _ _ _ _ [.int (Int32.ofInt 0)] _ _ _
            refine g_if_eq 23 47 (gd rfl) rfl rfl (fun c20 => ?_) (fun c20 => ?_)
            · skip
              refine g_iinc 50 (gd rfl) rfl rfl (Nat.le_of_ble_eq_true rfl) (fun z47 e47 => ?_)
              have i47 := in_add 1 160 e47 i12 (in_c 1 rfl) rfl rfl
              refine g_goto 7 (gd rfl) rfl ?_
              exact gg_w (by first | exact Nat.le_add_right _ _ | exact gw2 | exact gw3 | exact gwe rfl | exact gwf rfl | exact gwg rfl | exact gwh rfl | omega) (gg_f (gf_cons rfl (gf_cons rfl (gf_cons rfl gf_nil))) (ih7 sc7 z47 hIc7 hFc7 (in_w 0 160 i47 rfl) (m_up mm7 (t_add e47 i12 (in_c 1 rfl) rfl) (in_w 1 1 (in_c 1 rfl) rfl))))
            · skip
              exact zn_ne c20 (in_c 0 rfl) rfl
          · skip
            refine g_iconst 1 26 (gd rfl) rfl rfl ?_
            refine g_goto 30 (gd rfl) rfl ?_
            refine g_ireturn (gd rfl) rfl (nb01 (in_w 0 1 (in_c 1 rfl) rfl)) (hp17 _ _ ?_)
            show GG _ _ _ _ _ _ _ _ [.int (Int32.ofInt 1)] _ _ _
            refine g_if_eq 23 47 (gd rfl) rfl rfl (fun c20 => ?_) (fun c20 => ?_)
            · skip
              exact zn_eq c20 (in_c 1 rfl) rfl
            · skip
              refine g_aload_n 24 (gd rfl) rfl rfl ?_
              refine g_aload_n 25 (gd rfl) rfl rfl ?_
              refine g_getA (q2 := 4) 28 (gd rfl) rfl rfl rfl rfl ?_
              refine g_iload_n 29 (gd rfl) rfl rfl ?_
              refine g_iaload 30 (gd rfl) rfl (n := 160) rfl (in_ix i12 rfl) (fun z29 e29 => ?_)
              have q29 : z17x5 = z29 := (e17x5).trans e29.symm
              subst q29
              refine g_dup2 31 (gd rfl) rfl rfl rfl ?_
              refine g_iaload 32 (gd rfl) rfl (n := 32) rfl (in_ix i17x7 rfl) (fun z31 e31 => ?_)
              refine g_iconst 1 33 (gd rfl) rfl rfl ?_
              refine g_iadd 34 (gd rfl) rfl (fun z33 e33 => ?_)
              refine g_iastore 35 (gd rfl) rfl (n := 32) rfl (in_ix i17x7 rfl) ?_
              have hI34 := inv_sI (q := 59) (j := z17x5.toNatClampNeg) hIc7 rfl (in_w (-2147483648) 2147483647 (i_rng z33) rfl)
              refine g_aload_n 36 (gd rfl) rfl rfl ?_
              refine g_aload_n 37 (gd rfl) rfl rfl ?_
              refine g_getA (q2 := 5) 40 (gd rfl) rfl rfl rfl rfl ?_
              refine g_iload_n 41 (gd rfl) rfl rfl ?_
              refine g_iaload 42 (gd rfl) rfl (n := 160) rfl (in_ix i12 rfl) (fun z41 e41 => ?_)
              have q41 : z17x21 = z41 := (sI_ne rfl (e17x21)).trans e41.symm
              subst q41
              refine g_dup2 43 (gd rfl) rfl rfl rfl ?_
              refine g_iaload 44 (gd rfl) rfl (n := 32) rfl (in_ix i17x21 rfl) (fun z43 e43 => ?_)
              refine g_iconst 1 45 (gd rfl) rfl rfl ?_
              refine g_iadd 46 (gd rfl) rfl (fun z45 e45 => ?_)
              refine g_iastore 47 (gd rfl) rfl (n := 32) rfl (in_ix i17x21 rfl) ?_
              have hI46 := inv_sI (q := 59) (j := z17x21.toNatClampNeg) hI34 rfl (in_w (-2147483648) 2147483647 (i_rng z45) rfl)
              refine g_iinc 50 (gd rfl) rfl rfl (Nat.le_of_ble_eq_true rfl) (fun z47 e47 => ?_)
              have i47 := in_add 1 160 e47 i12 (in_c 1 rfl) rfl rfl
              refine g_goto 7 (gd rfl) rfl ?_
              exact gg_w (by first | exact Nat.le_add_right _ _ | exact gw2 | exact gw3 | exact gwe rfl | exact gwf rfl | exact gwg rfl | exact gwh rfl | omega) (gg_f (gf_cons rfl (gf_cons rfl (gf_cons rfl gf_nil))) (ih7 (sI (sI sc7 59 z17x5.toNatClampNeg z33) 59 z17x21.toNatClampNeg z45) z47 hI46 (fr_sI rfl (fr_sI rfl hFc7)) (in_w 0 160 i47 rfl) (m_up mm7 (t_add e47 i12 (in_c 1 rfl) rfl) (in_w 1 1 (in_c 1 rfl) rfl))))
  refine g_enter2 (k := 99) (N := 145801) (by first | exact dq1 hd rfl | exact dq0 hd rfl | exact dq2 hd rfl | exact dq3 hd rfl | omega) rfl (Nat.le_of_ble_eq_true rfl) ?_
  refine g_aload_n 1 (gd rfl) rfl rfl ?_
  refine g_iconst 0 2 (gd rfl) rfl rfl ?_
  refine g_calls (As := [.ref (A 59), .int (Int32.ofInt 0)]) (r := []) 5 (gd rfl) rfl rfl rfl rfl rfl (Nat.le_of_ble_eq_true rfl) (Nat.zero_le _) (Nat.zero_le _) (k_fillI 59 (by first | exact dq1 hd rfl | exact dq0 hd rfl | exact dq2 hd rfl | exact dq3 hd rfl | omega) hI (in_c 0 rfl) (n := 32) rfl rfl rfl rfl) (fun v u h => ?_)
  obtain ⟨s2, hI2, hF2, rfl, rfl, fl2⟩ := h
  show GG _ _ _ _ _ _ _ _ [] _ _ _
  refine g_iconst 0 6 (gd rfl) rfl rfl ?_
  refine g_istore_n 7 (gd rfl) rfl (Nat.le_of_ble_eq_true rfl) ?_
  exact gg_w (by first | exact Nat.le_of_ble_eq_true rfl | omega) (gg_f (gf_cons rfl (gf_cons rfl (gf_cons rfl gf_nil))) (ct7 161 s2 (Int32.ofInt 0) hI2 (fr_tr rfl fr_rf hF2) (in_w 0 160 (in_c 0 rfl) rfl) (m_in 161 (in_w 0 160 (in_c 0 rfl) rfl) rfl)))

def fm_99_2_91 : FM := ([91], [], [], [])
/-- GraphHouse$Graph.countJoints -/
theorem k_99_2_91 {Z : AmZ} {A : Nat → Nat} {s : GS} {ex : va_W} {d : Nat} {X : AmX}  (hd : 3 ≤ d) (hI : Inv s)  : GC Z d 99 [.ref (A 2), .ref (A 91)] (WW Z A s ++ ex) 0 0 (fun v u => ∃ t : GS, Inv t ∧ Fr fm_99_2_91 s t ∧ v = none ∧ u = WW Z A t ++ ex) X := by
  intro post xp hP hX
  obtain ⟨u_2_3, e_2_3⟩ : ∃ w, w = s.2.2.1 2 3 := ⟨_, rfl⟩
  have ro_2_3 := inv_F hI 0 160 rfl e_2_3
  have ct7 : ∀ (k7 : Nat) (sc7 : GS) (y7_2 : Int32), Inv sc7 → Fr fm_99_2_91 s sc7 → (In y7_2 0 160) → 160 - (y7_2).toInt < (k7 : Int) → GG Z (d - 1) 99 post (gx xp) (1 + k7 * 900) 7 (fun j => xlook j [(0, .ref (A 2)), (1, .ref (A 91)), (2, .int y7_2)]) [] (WW Z A sc7 ++ ex) 0 0 := by
    intro k7
    induction k7 with
    | zero => intro sc7 y7_2 hIc7 hFc7 j7_2 mm7; exact m_no mm7 j7_2 rfl
    | succ k7 ih7 =>
      intro sc7 y7_2 hIc7 hFc7 j7_2 mm7
      refine gg_w (M := 1 + k7 * 900 + 900) gws ?_
      refine g_iload_n 8 (gd rfl) rfl rfl ?_
      refine g_aload_n 9 (gd rfl) rfl rfl ?_
      refine g_getI 12 (gd rfl) rfl rfl rfl (fun z9 e9 => ?_)
      have q9 : u_2_3 = z9 := (fr_F e_2_3 hFc7 rfl).trans e9.symm
      subst q9
      refine g_cmp_ge 15 53 (gd rfl) rfl rfl (fun c12 => ?_) (fun c12 => ?_)
      · skip
        exact g_return (gd rfl) rfl (hP _ _ ⟨sc7, hIc7, hFc7, rfl, rfl⟩)
      · skip
        have i12 := r_lt1 0 159 c12 j7_2 ro_2_3 rfl
        have i12a := r_lt2 1 160 c12 j7_2 ro_2_3 rfl
        refine g_aload_n 16 (gd rfl) rfl rfl ?_
        refine g_iload_n 17 (gd rfl) rfl rfl ?_
        refine g_callv (X := _) (As := [.int y7_2]) (r := []) (b := A 2) (q := 2) 20 (gd rfl) rfl rfl rfl rfl rfl (ww_o rfl) (Nat.le_of_ble_eq_true rfl) (mc := 0) (ms := 0) (Nat.zero_le _) (Nat.zero_le _) (P := fun v u => _) ?_ (fun e u h => h) (fun v u h => h)
        intro po17 xx17 hp17 hx17
        refine g_enter2 (k := 97) (N := 300) (by first | exact dq1 hd rfl | exact dq0 hd rfl | exact dq2 hd rfl | exact dq3 hd rfl | omega) rfl (Nat.le_of_ble_eq_true rfl) ?_
        refine g_aload_n 1 (gd rfl) rfl rfl ?_
        refine g_getA (q2 := 4) 4 (gd rfl) rfl rfl rfl rfl ?_
        refine g_iload_n 5 (gd rfl) rfl rfl ?_
        refine g_iaload 6 (gd rfl) rfl (n := 160) rfl (in_ix i12 rfl) (fun z17x5 e17x5 => ?_)
        have i17x5 := inv_I hIc7 (n := 160) (t := 0) (-1) 31 rfl (in_ix i12 rfl) rfl e17x5
        refine g_iconst (-1) 7 (gd rfl) rfl rfl ?_
        refine g_cmp_eq 10 29 (gd rfl) rfl rfl (fun c17x7 => ?_) (fun c17x7 => ?_)
        · skip
          have i17x7 := r_eq1 (-1) (-1) c17x7 i17x5 (in_c (-1) rfl) rfl
          refine g_iconst 0 30 (gd rfl) rfl rfl ?_
          refine g_ireturn (gd rfl) rfl (nb01 (in_w 0 1 (in_c 0 rfl) rfl)) (hp17 _ _ ?_)
          show GG _ _ _ _ _ _ _ _ [.int (Int32.ofInt 0)] _ _ _
          refine g_if_eq 23 47 (gd rfl) rfl rfl (fun c20 => ?_) (fun c20 => ?_)
          · skip
            refine g_iinc 50 (gd rfl) rfl rfl (Nat.le_of_ble_eq_true rfl) (fun z47 e47 => ?_)
            have i47 := in_add 1 160 e47 i12 (in_c 1 rfl) rfl rfl
            refine g_goto 7 (gd rfl) rfl ?_
            exact gg_w (by first | exact Nat.le_add_right _ _ | exact gw2 | exact gw3 | exact gwe rfl | exact gwf rfl | exact gwg rfl | exact gwh rfl | omega) (gg_f (gf_cons rfl (gf_cons rfl (gf_cons rfl gf_nil))) (ih7 sc7 z47 hIc7 hFc7 (in_w 0 160 i47 rfl) (m_up mm7 (t_add e47 i12 (in_c 1 rfl) rfl) (in_w 1 1 (in_c 1 rfl) rfl))))
          · skip
            exact zn_ne c20 (in_c 0 rfl) rfl
        · skip
          have i17x7 := r_ne1 0 31 c17x7 i17x5 (in_c (-1) rfl) rfl
          refine g_aload_n 11 (gd rfl) rfl rfl ?_
          refine g_getA (q2 := 4) 14 (gd rfl) rfl rfl rfl rfl ?_
          refine g_iload_n 15 (gd rfl) rfl rfl ?_
          refine g_iaload 16 (gd rfl) rfl (n := 160) rfl (in_ix i12 rfl) (fun z17x15 e17x15 => ?_)
          have q17x15 : z17x5 = z17x15 := (e17x5).trans e17x15.symm
          subst q17x15
          refine g_aload_n 17 (gd rfl) rfl rfl ?_
          refine g_getA (q2 := 5) 20 (gd rfl) rfl rfl rfl rfl ?_
          refine g_iload_n 21 (gd rfl) rfl rfl ?_
          refine g_iaload 22 (gd rfl) rfl (n := 160) rfl (in_ix i12 rfl) (fun z17x21 e17x21 => ?_)
          have i17x21 := inv_I hIc7 (n := 160) (t := 0) 0 31 rfl (in_ix i12 rfl) rfl e17x21
          refine g_cmp_eq 25 29 (gd rfl) rfl rfl (fun c17x22 => ?_) (fun c17x22 => ?_)
          · skip
            refine g_iconst 0 30 (gd rfl) rfl rfl ?_
            refine g_ireturn (gd rfl) rfl (nb01 (in_w 0 1 (in_c 0 rfl) rfl)) (hp17 _ _ ?_)
            show GG _ _ _ _ _ _ _ _ [.int (Int32.ofInt 0)] _ _ _
            refine g_if_eq 23 47 (gd rfl) rfl rfl (fun c20 => ?_) (fun c20 => ?_)
            · skip
              refine g_iinc 50 (gd rfl) rfl rfl (Nat.le_of_ble_eq_true rfl) (fun z47 e47 => ?_)
              have i47 := in_add 1 160 e47 i12 (in_c 1 rfl) rfl rfl
              refine g_goto 7 (gd rfl) rfl ?_
              exact gg_w (by first | exact Nat.le_add_right _ _ | exact gw2 | exact gw3 | exact gwe rfl | exact gwf rfl | exact gwg rfl | exact gwh rfl | omega) (gg_f (gf_cons rfl (gf_cons rfl (gf_cons rfl gf_nil))) (ih7 sc7 z47 hIc7 hFc7 (in_w 0 160 i47 rfl) (m_up mm7 (t_add e47 i12 (in_c 1 rfl) rfl) (in_w 1 1 (in_c 1 rfl) rfl))))
            · skip
              exact zn_ne c20 (in_c 0 rfl) rfl
          · skip
            refine g_iconst 1 26 (gd rfl) rfl rfl ?_
            refine g_goto 30 (gd rfl) rfl ?_
            refine g_ireturn (gd rfl) rfl (nb01 (in_w 0 1 (in_c 1 rfl) rfl)) (hp17 _ _ ?_)
            show GG _ _ _ _ _ _ _ _ [.int (Int32.ofInt 1)] _ _ _
            refine g_if_eq 23 47 (gd rfl) rfl rfl (fun c20 => ?_) (fun c20 => ?_)
            · skip
              exact zn_eq c20 (in_c 1 rfl) rfl
            · skip
              refine g_aload_n 24 (gd rfl) rfl rfl ?_
              refine g_aload_n 25 (gd rfl) rfl rfl ?_
              refine g_getA (q2 := 4) 28 (gd rfl) rfl rfl rfl rfl ?_
              refine g_iload_n 29 (gd rfl) rfl rfl ?_
              refine g_iaload 30 (gd rfl) rfl (n := 160) rfl (in_ix i12 rfl) (fun z29 e29 => ?_)
              have q29 : z17x5 = z29 := (e17x5).trans e29.symm
              subst q29
              refine g_dup2 31 (gd rfl) rfl rfl rfl ?_
              refine g_iaload 32 (gd rfl) rfl (n := 32) rfl (in_ix i17x7 rfl) (fun z31 e31 => ?_)
              refine g_iconst 1 33 (gd rfl) rfl rfl ?_
              refine g_iadd 34 (gd rfl) rfl (fun z33 e33 => ?_)
              refine g_iastore 35 (gd rfl) rfl (n := 32) rfl (in_ix i17x7 rfl) ?_
              have hI34 := inv_sI (q := 91) (j := z17x5.toNatClampNeg) hIc7 rfl (in_w (-2147483648) 2147483647 (i_rng z33) rfl)
              refine g_aload_n 36 (gd rfl) rfl rfl ?_
              refine g_aload_n 37 (gd rfl) rfl rfl ?_
              refine g_getA (q2 := 5) 40 (gd rfl) rfl rfl rfl rfl ?_
              refine g_iload_n 41 (gd rfl) rfl rfl ?_
              refine g_iaload 42 (gd rfl) rfl (n := 160) rfl (in_ix i12 rfl) (fun z41 e41 => ?_)
              have q41 : z17x21 = z41 := (sI_ne rfl (e17x21)).trans e41.symm
              subst q41
              refine g_dup2 43 (gd rfl) rfl rfl rfl ?_
              refine g_iaload 44 (gd rfl) rfl (n := 32) rfl (in_ix i17x21 rfl) (fun z43 e43 => ?_)
              refine g_iconst 1 45 (gd rfl) rfl rfl ?_
              refine g_iadd 46 (gd rfl) rfl (fun z45 e45 => ?_)
              refine g_iastore 47 (gd rfl) rfl (n := 32) rfl (in_ix i17x21 rfl) ?_
              have hI46 := inv_sI (q := 91) (j := z17x21.toNatClampNeg) hI34 rfl (in_w (-2147483648) 2147483647 (i_rng z45) rfl)
              refine g_iinc 50 (gd rfl) rfl rfl (Nat.le_of_ble_eq_true rfl) (fun z47 e47 => ?_)
              have i47 := in_add 1 160 e47 i12 (in_c 1 rfl) rfl rfl
              refine g_goto 7 (gd rfl) rfl ?_
              exact gg_w (by first | exact Nat.le_add_right _ _ | exact gw2 | exact gw3 | exact gwe rfl | exact gwf rfl | exact gwg rfl | exact gwh rfl | omega) (gg_f (gf_cons rfl (gf_cons rfl (gf_cons rfl gf_nil))) (ih7 (sI (sI sc7 91 z17x5.toNatClampNeg z33) 91 z17x21.toNatClampNeg z45) z47 hI46 (fr_sI rfl (fr_sI rfl hFc7)) (in_w 0 160 i47 rfl) (m_up mm7 (t_add e47 i12 (in_c 1 rfl) rfl) (in_w 1 1 (in_c 1 rfl) rfl))))
  refine g_enter2 (k := 99) (N := 145801) (by first | exact dq1 hd rfl | exact dq0 hd rfl | exact dq2 hd rfl | exact dq3 hd rfl | omega) rfl (Nat.le_of_ble_eq_true rfl) ?_
  refine g_aload_n 1 (gd rfl) rfl rfl ?_
  refine g_iconst 0 2 (gd rfl) rfl rfl ?_
  refine g_calls (As := [.ref (A 91), .int (Int32.ofInt 0)]) (r := []) 5 (gd rfl) rfl rfl rfl rfl rfl (Nat.le_of_ble_eq_true rfl) (Nat.zero_le _) (Nat.zero_le _) (k_fillI 91 (by first | exact dq1 hd rfl | exact dq0 hd rfl | exact dq2 hd rfl | exact dq3 hd rfl | omega) hI (in_c 0 rfl) (n := 32) rfl rfl rfl rfl) (fun v u h => ?_)
  obtain ⟨s2, hI2, hF2, rfl, rfl, fl2⟩ := h
  show GG _ _ _ _ _ _ _ _ [] _ _ _
  refine g_iconst 0 6 (gd rfl) rfl rfl ?_
  refine g_istore_n 7 (gd rfl) rfl (Nat.le_of_ble_eq_true rfl) ?_
  exact gg_w (by first | exact Nat.le_of_ble_eq_true rfl | omega) (gg_f (gf_cons rfl (gf_cons rfl (gf_cons rfl gf_nil))) (ct7 161 s2 (Int32.ofInt 0) hI2 (fr_tr rfl fr_rf hF2) (in_w 0 160 (in_c 0 rfl) rfl) (m_in 161 (in_w 0 160 (in_c 0 rfl) rfl) rfl)))

def fm_99_32_59 : FM := ([59], [], [], [])
/-- GraphHouse$Graph.countJoints -/
theorem k_99_32_59 {Z : AmZ} {A : Nat → Nat} {s : GS} {ex : va_W} {d : Nat} {X : AmX}  (hd : 3 ≤ d) (hI : Inv s)  : GC Z d 99 [.ref (A 32), .ref (A 59)] (WW Z A s ++ ex) 0 0 (fun v u => ∃ t : GS, Inv t ∧ Fr fm_99_32_59 s t ∧ v = none ∧ u = WW Z A t ++ ex) X := by
  intro post xp hP hX
  obtain ⟨u_32_3, e_32_3⟩ : ∃ w, w = s.2.2.1 32 3 := ⟨_, rfl⟩
  have ro_32_3 := inv_F hI 0 160 rfl e_32_3
  have ct7 : ∀ (k7 : Nat) (sc7 : GS) (y7_2 : Int32), Inv sc7 → Fr fm_99_32_59 s sc7 → (In y7_2 0 160) → 160 - (y7_2).toInt < (k7 : Int) → GG Z (d - 1) 99 post (gx xp) (1 + k7 * 900) 7 (fun j => xlook j [(0, .ref (A 32)), (1, .ref (A 59)), (2, .int y7_2)]) [] (WW Z A sc7 ++ ex) 0 0 := by
    intro k7
    induction k7 with
    | zero => intro sc7 y7_2 hIc7 hFc7 j7_2 mm7; exact m_no mm7 j7_2 rfl
    | succ k7 ih7 =>
      intro sc7 y7_2 hIc7 hFc7 j7_2 mm7
      refine gg_w (M := 1 + k7 * 900 + 900) gws ?_
      refine g_iload_n 8 (gd rfl) rfl rfl ?_
      refine g_aload_n 9 (gd rfl) rfl rfl ?_
      refine g_getI 12 (gd rfl) rfl rfl rfl (fun z9 e9 => ?_)
      have q9 : u_32_3 = z9 := (fr_F e_32_3 hFc7 rfl).trans e9.symm
      subst q9
      refine g_cmp_ge 15 53 (gd rfl) rfl rfl (fun c12 => ?_) (fun c12 => ?_)
      · skip
        exact g_return (gd rfl) rfl (hP _ _ ⟨sc7, hIc7, hFc7, rfl, rfl⟩)
      · skip
        have i12 := r_lt1 0 159 c12 j7_2 ro_32_3 rfl
        have i12a := r_lt2 1 160 c12 j7_2 ro_32_3 rfl
        refine g_aload_n 16 (gd rfl) rfl rfl ?_
        refine g_iload_n 17 (gd rfl) rfl rfl ?_
        refine g_callv (X := _) (As := [.int y7_2]) (r := []) (b := A 32) (q := 32) 20 (gd rfl) rfl rfl rfl rfl rfl (ww_o rfl) (Nat.le_of_ble_eq_true rfl) (mc := 0) (ms := 0) (Nat.zero_le _) (Nat.zero_le _) (P := fun v u => _) ?_ (fun e u h => h) (fun v u h => h)
        intro po17 xx17 hp17 hx17
        refine g_enter2 (k := 97) (N := 300) (by first | exact dq1 hd rfl | exact dq0 hd rfl | exact dq2 hd rfl | exact dq3 hd rfl | omega) rfl (Nat.le_of_ble_eq_true rfl) ?_
        refine g_aload_n 1 (gd rfl) rfl rfl ?_
        refine g_getA (q2 := 34) 4 (gd rfl) rfl rfl rfl rfl ?_
        refine g_iload_n 5 (gd rfl) rfl rfl ?_
        refine g_iaload 6 (gd rfl) rfl (n := 160) rfl (in_ix i12 rfl) (fun z17x5 e17x5 => ?_)
        have i17x5 := inv_I hIc7 (n := 160) (t := 0) (-1) 31 rfl (in_ix i12 rfl) rfl e17x5
        refine g_iconst (-1) 7 (gd rfl) rfl rfl ?_
        refine g_cmp_eq 10 29 (gd rfl) rfl rfl (fun c17x7 => ?_) (fun c17x7 => ?_)
        · skip
          have i17x7 := r_eq1 (-1) (-1) c17x7 i17x5 (in_c (-1) rfl) rfl
          refine g_iconst 0 30 (gd rfl) rfl rfl ?_
          refine g_ireturn (gd rfl) rfl (nb01 (in_w 0 1 (in_c 0 rfl) rfl)) (hp17 _ _ ?_)
          show GG _ _ _ _ _ _ _ _ [.int (Int32.ofInt 0)] _ _ _
          refine g_if_eq 23 47 (gd rfl) rfl rfl (fun c20 => ?_) (fun c20 => ?_)
          · skip
            refine g_iinc 50 (gd rfl) rfl rfl (Nat.le_of_ble_eq_true rfl) (fun z47 e47 => ?_)
            have i47 := in_add 1 160 e47 i12 (in_c 1 rfl) rfl rfl
            refine g_goto 7 (gd rfl) rfl ?_
            exact gg_w (by first | exact Nat.le_add_right _ _ | exact gw2 | exact gw3 | exact gwe rfl | exact gwf rfl | exact gwg rfl | exact gwh rfl | omega) (gg_f (gf_cons rfl (gf_cons rfl (gf_cons rfl gf_nil))) (ih7 sc7 z47 hIc7 hFc7 (in_w 0 160 i47 rfl) (m_up mm7 (t_add e47 i12 (in_c 1 rfl) rfl) (in_w 1 1 (in_c 1 rfl) rfl))))
          · skip
            exact zn_ne c20 (in_c 0 rfl) rfl
        · skip
          have i17x7 := r_ne1 0 31 c17x7 i17x5 (in_c (-1) rfl) rfl
          refine g_aload_n 11 (gd rfl) rfl rfl ?_
          refine g_getA (q2 := 34) 14 (gd rfl) rfl rfl rfl rfl ?_
          refine g_iload_n 15 (gd rfl) rfl rfl ?_
          refine g_iaload 16 (gd rfl) rfl (n := 160) rfl (in_ix i12 rfl) (fun z17x15 e17x15 => ?_)
          have q17x15 : z17x5 = z17x15 := (e17x5).trans e17x15.symm
          subst q17x15
          refine g_aload_n 17 (gd rfl) rfl rfl ?_
          refine g_getA (q2 := 35) 20 (gd rfl) rfl rfl rfl rfl ?_
          refine g_iload_n 21 (gd rfl) rfl rfl ?_
          refine g_iaload 22 (gd rfl) rfl (n := 160) rfl (in_ix i12 rfl) (fun z17x21 e17x21 => ?_)
          have i17x21 := inv_I hIc7 (n := 160) (t := 0) 0 31 rfl (in_ix i12 rfl) rfl e17x21
          refine g_cmp_eq 25 29 (gd rfl) rfl rfl (fun c17x22 => ?_) (fun c17x22 => ?_)
          · skip
            refine g_iconst 0 30 (gd rfl) rfl rfl ?_
            refine g_ireturn (gd rfl) rfl (nb01 (in_w 0 1 (in_c 0 rfl) rfl)) (hp17 _ _ ?_)
            show GG _ _ _ _ _ _ _ _ [.int (Int32.ofInt 0)] _ _ _
            refine g_if_eq 23 47 (gd rfl) rfl rfl (fun c20 => ?_) (fun c20 => ?_)
            · skip
              refine g_iinc 50 (gd rfl) rfl rfl (Nat.le_of_ble_eq_true rfl) (fun z47 e47 => ?_)
              have i47 := in_add 1 160 e47 i12 (in_c 1 rfl) rfl rfl
              refine g_goto 7 (gd rfl) rfl ?_
              exact gg_w (by first | exact Nat.le_add_right _ _ | exact gw2 | exact gw3 | exact gwe rfl | exact gwf rfl | exact gwg rfl | exact gwh rfl | omega) (gg_f (gf_cons rfl (gf_cons rfl (gf_cons rfl gf_nil))) (ih7 sc7 z47 hIc7 hFc7 (in_w 0 160 i47 rfl) (m_up mm7 (t_add e47 i12 (in_c 1 rfl) rfl) (in_w 1 1 (in_c 1 rfl) rfl))))
            · skip
              exact zn_ne c20 (in_c 0 rfl) rfl
          · skip
            refine g_iconst 1 26 (gd rfl) rfl rfl ?_
            refine g_goto 30 (gd rfl) rfl ?_
            refine g_ireturn (gd rfl) rfl (nb01 (in_w 0 1 (in_c 1 rfl) rfl)) (hp17 _ _ ?_)
            show GG _ _ _ _ _ _ _ _ [.int (Int32.ofInt 1)] _ _ _
            refine g_if_eq 23 47 (gd rfl) rfl rfl (fun c20 => ?_) (fun c20 => ?_)
            · skip
              exact zn_eq c20 (in_c 1 rfl) rfl
            · skip
              refine g_aload_n 24 (gd rfl) rfl rfl ?_
              refine g_aload_n 25 (gd rfl) rfl rfl ?_
              refine g_getA (q2 := 34) 28 (gd rfl) rfl rfl rfl rfl ?_
              refine g_iload_n 29 (gd rfl) rfl rfl ?_
              refine g_iaload 30 (gd rfl) rfl (n := 160) rfl (in_ix i12 rfl) (fun z29 e29 => ?_)
              have q29 : z17x5 = z29 := (e17x5).trans e29.symm
              subst q29
              refine g_dup2 31 (gd rfl) rfl rfl rfl ?_
              refine g_iaload 32 (gd rfl) rfl (n := 32) rfl (in_ix i17x7 rfl) (fun z31 e31 => ?_)
              refine g_iconst 1 33 (gd rfl) rfl rfl ?_
              refine g_iadd 34 (gd rfl) rfl (fun z33 e33 => ?_)
              refine g_iastore 35 (gd rfl) rfl (n := 32) rfl (in_ix i17x7 rfl) ?_
              have hI34 := inv_sI (q := 59) (j := z17x5.toNatClampNeg) hIc7 rfl (in_w (-2147483648) 2147483647 (i_rng z33) rfl)
              refine g_aload_n 36 (gd rfl) rfl rfl ?_
              refine g_aload_n 37 (gd rfl) rfl rfl ?_
              refine g_getA (q2 := 35) 40 (gd rfl) rfl rfl rfl rfl ?_
              refine g_iload_n 41 (gd rfl) rfl rfl ?_
              refine g_iaload 42 (gd rfl) rfl (n := 160) rfl (in_ix i12 rfl) (fun z41 e41 => ?_)
              have q41 : z17x21 = z41 := (sI_ne rfl (e17x21)).trans e41.symm
              subst q41
              refine g_dup2 43 (gd rfl) rfl rfl rfl ?_
              refine g_iaload 44 (gd rfl) rfl (n := 32) rfl (in_ix i17x21 rfl) (fun z43 e43 => ?_)
              refine g_iconst 1 45 (gd rfl) rfl rfl ?_
              refine g_iadd 46 (gd rfl) rfl (fun z45 e45 => ?_)
              refine g_iastore 47 (gd rfl) rfl (n := 32) rfl (in_ix i17x21 rfl) ?_
              have hI46 := inv_sI (q := 59) (j := z17x21.toNatClampNeg) hI34 rfl (in_w (-2147483648) 2147483647 (i_rng z45) rfl)
              refine g_iinc 50 (gd rfl) rfl rfl (Nat.le_of_ble_eq_true rfl) (fun z47 e47 => ?_)
              have i47 := in_add 1 160 e47 i12 (in_c 1 rfl) rfl rfl
              refine g_goto 7 (gd rfl) rfl ?_
              exact gg_w (by first | exact Nat.le_add_right _ _ | exact gw2 | exact gw3 | exact gwe rfl | exact gwf rfl | exact gwg rfl | exact gwh rfl | omega) (gg_f (gf_cons rfl (gf_cons rfl (gf_cons rfl gf_nil))) (ih7 (sI (sI sc7 59 z17x5.toNatClampNeg z33) 59 z17x21.toNatClampNeg z45) z47 hI46 (fr_sI rfl (fr_sI rfl hFc7)) (in_w 0 160 i47 rfl) (m_up mm7 (t_add e47 i12 (in_c 1 rfl) rfl) (in_w 1 1 (in_c 1 rfl) rfl))))
  refine g_enter2 (k := 99) (N := 145801) (by first | exact dq1 hd rfl | exact dq0 hd rfl | exact dq2 hd rfl | exact dq3 hd rfl | omega) rfl (Nat.le_of_ble_eq_true rfl) ?_
  refine g_aload_n 1 (gd rfl) rfl rfl ?_
  refine g_iconst 0 2 (gd rfl) rfl rfl ?_
  refine g_calls (As := [.ref (A 59), .int (Int32.ofInt 0)]) (r := []) 5 (gd rfl) rfl rfl rfl rfl rfl (Nat.le_of_ble_eq_true rfl) (Nat.zero_le _) (Nat.zero_le _) (k_fillI 59 (by first | exact dq1 hd rfl | exact dq0 hd rfl | exact dq2 hd rfl | exact dq3 hd rfl | omega) hI (in_c 0 rfl) (n := 32) rfl rfl rfl rfl) (fun v u h => ?_)
  obtain ⟨s2, hI2, hF2, rfl, rfl, fl2⟩ := h
  show GG _ _ _ _ _ _ _ _ [] _ _ _
  refine g_iconst 0 6 (gd rfl) rfl rfl ?_
  refine g_istore_n 7 (gd rfl) rfl (Nat.le_of_ble_eq_true rfl) ?_
  exact gg_w (by first | exact Nat.le_of_ble_eq_true rfl | omega) (gg_f (gf_cons rfl (gf_cons rfl (gf_cons rfl gf_nil))) (ct7 161 s2 (Int32.ofInt 0) hI2 (fr_tr rfl fr_rf hF2) (in_w 0 160 (in_c 0 rfl) rfl) (m_in 161 (in_w 0 160 (in_c 0 rfl) rfl) rfl)))

def fm_99_32_91 : FM := ([91], [], [], [])
/-- GraphHouse$Graph.countJoints -/
theorem k_99_32_91 {Z : AmZ} {A : Nat → Nat} {s : GS} {ex : va_W} {d : Nat} {X : AmX}  (hd : 3 ≤ d) (hI : Inv s)  : GC Z d 99 [.ref (A 32), .ref (A 91)] (WW Z A s ++ ex) 0 0 (fun v u => ∃ t : GS, Inv t ∧ Fr fm_99_32_91 s t ∧ v = none ∧ u = WW Z A t ++ ex) X := by
  intro post xp hP hX
  obtain ⟨u_32_3, e_32_3⟩ : ∃ w, w = s.2.2.1 32 3 := ⟨_, rfl⟩
  have ro_32_3 := inv_F hI 0 160 rfl e_32_3
  have ct7 : ∀ (k7 : Nat) (sc7 : GS) (y7_2 : Int32), Inv sc7 → Fr fm_99_32_91 s sc7 → (In y7_2 0 160) → 160 - (y7_2).toInt < (k7 : Int) → GG Z (d - 1) 99 post (gx xp) (1 + k7 * 900) 7 (fun j => xlook j [(0, .ref (A 32)), (1, .ref (A 91)), (2, .int y7_2)]) [] (WW Z A sc7 ++ ex) 0 0 := by
    intro k7
    induction k7 with
    | zero => intro sc7 y7_2 hIc7 hFc7 j7_2 mm7; exact m_no mm7 j7_2 rfl
    | succ k7 ih7 =>
      intro sc7 y7_2 hIc7 hFc7 j7_2 mm7
      refine gg_w (M := 1 + k7 * 900 + 900) gws ?_
      refine g_iload_n 8 (gd rfl) rfl rfl ?_
      refine g_aload_n 9 (gd rfl) rfl rfl ?_
      refine g_getI 12 (gd rfl) rfl rfl rfl (fun z9 e9 => ?_)
      have q9 : u_32_3 = z9 := (fr_F e_32_3 hFc7 rfl).trans e9.symm
      subst q9
      refine g_cmp_ge 15 53 (gd rfl) rfl rfl (fun c12 => ?_) (fun c12 => ?_)
      · skip
        exact g_return (gd rfl) rfl (hP _ _ ⟨sc7, hIc7, hFc7, rfl, rfl⟩)
      · skip
        have i12 := r_lt1 0 159 c12 j7_2 ro_32_3 rfl
        have i12a := r_lt2 1 160 c12 j7_2 ro_32_3 rfl
        refine g_aload_n 16 (gd rfl) rfl rfl ?_
        refine g_iload_n 17 (gd rfl) rfl rfl ?_
        refine g_callv (X := _) (As := [.int y7_2]) (r := []) (b := A 32) (q := 32) 20 (gd rfl) rfl rfl rfl rfl rfl (ww_o rfl) (Nat.le_of_ble_eq_true rfl) (mc := 0) (ms := 0) (Nat.zero_le _) (Nat.zero_le _) (P := fun v u => _) ?_ (fun e u h => h) (fun v u h => h)
        intro po17 xx17 hp17 hx17
        refine g_enter2 (k := 97) (N := 300) (by first | exact dq1 hd rfl | exact dq0 hd rfl | exact dq2 hd rfl | exact dq3 hd rfl | omega) rfl (Nat.le_of_ble_eq_true rfl) ?_
        refine g_aload_n 1 (gd rfl) rfl rfl ?_
        refine g_getA (q2 := 34) 4 (gd rfl) rfl rfl rfl rfl ?_
        refine g_iload_n 5 (gd rfl) rfl rfl ?_
        refine g_iaload 6 (gd rfl) rfl (n := 160) rfl (in_ix i12 rfl) (fun z17x5 e17x5 => ?_)
        have i17x5 := inv_I hIc7 (n := 160) (t := 0) (-1) 31 rfl (in_ix i12 rfl) rfl e17x5
        refine g_iconst (-1) 7 (gd rfl) rfl rfl ?_
        refine g_cmp_eq 10 29 (gd rfl) rfl rfl (fun c17x7 => ?_) (fun c17x7 => ?_)
        · skip
          have i17x7 := r_eq1 (-1) (-1) c17x7 i17x5 (in_c (-1) rfl) rfl
          refine g_iconst 0 30 (gd rfl) rfl rfl ?_
          refine g_ireturn (gd rfl) rfl (nb01 (in_w 0 1 (in_c 0 rfl) rfl)) (hp17 _ _ ?_)
          show GG _ _ _ _ _ _ _ _ [.int (Int32.ofInt 0)] _ _ _
          refine g_if_eq 23 47 (gd rfl) rfl rfl (fun c20 => ?_) (fun c20 => ?_)
          · skip
            refine g_iinc 50 (gd rfl) rfl rfl (Nat.le_of_ble_eq_true rfl) (fun z47 e47 => ?_)
            have i47 := in_add 1 160 e47 i12 (in_c 1 rfl) rfl rfl
            refine g_goto 7 (gd rfl) rfl ?_
            exact gg_w (by first | exact Nat.le_add_right _ _ | exact gw2 | exact gw3 | exact gwe rfl | exact gwf rfl | exact gwg rfl | exact gwh rfl | omega) (gg_f (gf_cons rfl (gf_cons rfl (gf_cons rfl gf_nil))) (ih7 sc7 z47 hIc7 hFc7 (in_w 0 160 i47 rfl) (m_up mm7 (t_add e47 i12 (in_c 1 rfl) rfl) (in_w 1 1 (in_c 1 rfl) rfl))))
          · skip
            exact zn_ne c20 (in_c 0 rfl) rfl
        · skip
          have i17x7 := r_ne1 0 31 c17x7 i17x5 (in_c (-1) rfl) rfl
          refine g_aload_n 11 (gd rfl) rfl rfl ?_
          refine g_getA (q2 := 34) 14 (gd rfl) rfl rfl rfl rfl ?_
          refine g_iload_n 15 (gd rfl) rfl rfl ?_
          refine g_iaload 16 (gd rfl) rfl (n := 160) rfl (in_ix i12 rfl) (fun z17x15 e17x15 => ?_)
          have q17x15 : z17x5 = z17x15 := (e17x5).trans e17x15.symm
          subst q17x15
          refine g_aload_n 17 (gd rfl) rfl rfl ?_
          refine g_getA (q2 := 35) 20 (gd rfl) rfl rfl rfl rfl ?_
          refine g_iload_n 21 (gd rfl) rfl rfl ?_
          refine g_iaload 22 (gd rfl) rfl (n := 160) rfl (in_ix i12 rfl) (fun z17x21 e17x21 => ?_)
          have i17x21 := inv_I hIc7 (n := 160) (t := 0) 0 31 rfl (in_ix i12 rfl) rfl e17x21
          refine g_cmp_eq 25 29 (gd rfl) rfl rfl (fun c17x22 => ?_) (fun c17x22 => ?_)
          · skip
            refine g_iconst 0 30 (gd rfl) rfl rfl ?_
            refine g_ireturn (gd rfl) rfl (nb01 (in_w 0 1 (in_c 0 rfl) rfl)) (hp17 _ _ ?_)
            show GG _ _ _ _ _ _ _ _ [.int (Int32.ofInt 0)] _ _ _
            refine g_if_eq 23 47 (gd rfl) rfl rfl (fun c20 => ?_) (fun c20 => ?_)
            · skip
              refine g_iinc 50 (gd rfl) rfl rfl (Nat.le_of_ble_eq_true rfl) (fun z47 e47 => ?_)
              have i47 := in_add 1 160 e47 i12 (in_c 1 rfl) rfl rfl
              refine g_goto 7 (gd rfl) rfl ?_
              exact gg_w (by first | exact Nat.le_add_right _ _ | exact gw2 | exact gw3 | exact gwe rfl | exact gwf rfl | exact gwg rfl | exact gwh rfl | omega) (gg_f (gf_cons rfl (gf_cons rfl (gf_cons rfl gf_nil))) (ih7 sc7 z47 hIc7 hFc7 (in_w 0 160 i47 rfl) (m_up mm7 (t_add e47 i12 (in_c 1 rfl) rfl) (in_w 1 1 (in_c 1 rfl) rfl))))
            · skip
              exact zn_ne c20 (in_c 0 rfl) rfl
          · skip
            refine g_iconst 1 26 (gd rfl) rfl rfl ?_
            refine g_goto 30 (gd rfl) rfl ?_
            refine g_ireturn (gd rfl) rfl (nb01 (in_w 0 1 (in_c 1 rfl) rfl)) (hp17 _ _ ?_)
            show GG _ _ _ _ _ _ _ _ [.int (Int32.ofInt 1)] _ _ _
            refine g_if_eq 23 47 (gd rfl) rfl rfl (fun c20 => ?_) (fun c20 => ?_)
            · skip
              exact zn_eq c20 (in_c 1 rfl) rfl
            · skip
              refine g_aload_n 24 (gd rfl) rfl rfl ?_
              refine g_aload_n 25 (gd rfl) rfl rfl ?_
              refine g_getA (q2 := 34) 28 (gd rfl) rfl rfl rfl rfl ?_
              refine g_iload_n 29 (gd rfl) rfl rfl ?_
              refine g_iaload 30 (gd rfl) rfl (n := 160) rfl (in_ix i12 rfl) (fun z29 e29 => ?_)
              have q29 : z17x5 = z29 := (e17x5).trans e29.symm
              subst q29
              refine g_dup2 31 (gd rfl) rfl rfl rfl ?_
              refine g_iaload 32 (gd rfl) rfl (n := 32) rfl (in_ix i17x7 rfl) (fun z31 e31 => ?_)
              refine g_iconst 1 33 (gd rfl) rfl rfl ?_
              refine g_iadd 34 (gd rfl) rfl (fun z33 e33 => ?_)
              refine g_iastore 35 (gd rfl) rfl (n := 32) rfl (in_ix i17x7 rfl) ?_
              have hI34 := inv_sI (q := 91) (j := z17x5.toNatClampNeg) hIc7 rfl (in_w (-2147483648) 2147483647 (i_rng z33) rfl)
              refine g_aload_n 36 (gd rfl) rfl rfl ?_
              refine g_aload_n 37 (gd rfl) rfl rfl ?_
              refine g_getA (q2 := 35) 40 (gd rfl) rfl rfl rfl rfl ?_
              refine g_iload_n 41 (gd rfl) rfl rfl ?_
              refine g_iaload 42 (gd rfl) rfl (n := 160) rfl (in_ix i12 rfl) (fun z41 e41 => ?_)
              have q41 : z17x21 = z41 := (sI_ne rfl (e17x21)).trans e41.symm
              subst q41
              refine g_dup2 43 (gd rfl) rfl rfl rfl ?_
              refine g_iaload 44 (gd rfl) rfl (n := 32) rfl (in_ix i17x21 rfl) (fun z43 e43 => ?_)
              refine g_iconst 1 45 (gd rfl) rfl rfl ?_
              refine g_iadd 46 (gd rfl) rfl (fun z45 e45 => ?_)
              refine g_iastore 47 (gd rfl) rfl (n := 32) rfl (in_ix i17x21 rfl) ?_
              have hI46 := inv_sI (q := 91) (j := z17x21.toNatClampNeg) hI34 rfl (in_w (-2147483648) 2147483647 (i_rng z45) rfl)
              refine g_iinc 50 (gd rfl) rfl rfl (Nat.le_of_ble_eq_true rfl) (fun z47 e47 => ?_)
              have i47 := in_add 1 160 e47 i12 (in_c 1 rfl) rfl rfl
              refine g_goto 7 (gd rfl) rfl ?_
              exact gg_w (by first | exact Nat.le_add_right _ _ | exact gw2 | exact gw3 | exact gwe rfl | exact gwf rfl | exact gwg rfl | exact gwh rfl | omega) (gg_f (gf_cons rfl (gf_cons rfl (gf_cons rfl gf_nil))) (ih7 (sI (sI sc7 91 z17x5.toNatClampNeg z33) 91 z17x21.toNatClampNeg z45) z47 hI46 (fr_sI rfl (fr_sI rfl hFc7)) (in_w 0 160 i47 rfl) (m_up mm7 (t_add e47 i12 (in_c 1 rfl) rfl) (in_w 1 1 (in_c 1 rfl) rfl))))
  refine g_enter2 (k := 99) (N := 145801) (by first | exact dq1 hd rfl | exact dq0 hd rfl | exact dq2 hd rfl | exact dq3 hd rfl | omega) rfl (Nat.le_of_ble_eq_true rfl) ?_
  refine g_aload_n 1 (gd rfl) rfl rfl ?_
  refine g_iconst 0 2 (gd rfl) rfl rfl ?_
  refine g_calls (As := [.ref (A 91), .int (Int32.ofInt 0)]) (r := []) 5 (gd rfl) rfl rfl rfl rfl rfl (Nat.le_of_ble_eq_true rfl) (Nat.zero_le _) (Nat.zero_le _) (k_fillI 91 (by first | exact dq1 hd rfl | exact dq0 hd rfl | exact dq2 hd rfl | exact dq3 hd rfl | omega) hI (in_c 0 rfl) (n := 32) rfl rfl rfl rfl) (fun v u h => ?_)
  obtain ⟨s2, hI2, hF2, rfl, rfl, fl2⟩ := h
  show GG _ _ _ _ _ _ _ _ [] _ _ _
  refine g_iconst 0 6 (gd rfl) rfl rfl ?_
  refine g_istore_n 7 (gd rfl) rfl (Nat.le_of_ble_eq_true rfl) ?_
  exact gg_w (by first | exact Nat.le_of_ble_eq_true rfl | omega) (gg_f (gf_cons rfl (gf_cons rfl (gf_cons rfl gf_nil))) (ct7 161 s2 (Int32.ofInt 0) hI2 (fr_tr rfl fr_rf hF2) (in_w 0 160 (in_c 0 rfl) rfl) (m_in 161 (in_w 0 160 (in_c 0 rfl) rfl) rfl)))

def fm_114_86_2 : FM := ([9, 10, 11, 12, 13, 14, 15, 89, 90, 91, 92], [], [(2, 4), (86, 5)], [])
/-- GraphHouse$Groups.begin -/
theorem k_114_86_2 {Z : AmZ} {A : Nat → Nat} {s : GS} {ex : va_W} {d : Nat} {X : AmX}  (hd : 4 ≤ d) (hI : Inv s)  : GC Z d 114 [.ref (A 86), .ref (A 2)] (WW Z A s ++ ex) 0 0 (fun v u => ∃ t : GS, Inv t ∧ Fr fm_114_86_2 s t ∧ ((t.2.2.1 2 4).toInt = (t.2.2.1 2 0).toInt) ∧ v = none ∧ u = WW Z A t ++ ex) X := by
  intro post xp hP hX
  obtain ⟨u_2_1, e_2_1⟩ : ∃ w, w = s.2.2.1 2 1 := ⟨_, rfl⟩
  have ro_2_1 := inv_F hI 0 32 rfl e_2_1
  have ct30 : ∀ (k30 : Nat) (sc30 : GS) (y30_2 : Int32) (w30_2_4 : Int32) (w30_2_0 : Int32), Inv sc30 → Fr fm_114_86_2 s sc30 → (In y30_2 0 32) → (w30_2_4 = sc30.2.2.1 2 4) → (w30_2_0 = sc30.2.2.1 2 0) → ((w30_2_4).toInt = (w30_2_0).toInt) → 32 - (y30_2).toInt < (k30 : Int) → GG Z (d - 1) 114 post (gx xp) (1 + k30 * 900) 30 (fun j => xlook j [(0, .ref (A 86)), (1, .ref (A 2)), (2, .int y30_2)]) [] (WW Z A sc30 ++ ex) 0 0 := by
    intro k30
    induction k30 with
    | zero => intro sc30 y30_2 w30_2_4 w30_2_0 hIc30 hFc30 j30_2 v30_2_4 v30_2_0 n30_0 mm30; exact m_no mm30 j30_2 rfl
    | succ k30 ih30 =>
      intro sc30 y30_2 w30_2_4 w30_2_0 hIc30 hFc30 j30_2 v30_2_4 v30_2_0 n30_0 mm30
      refine gg_w (M := 1 + k30 * 900 + 900) gws ?_
      refine g_iload_n 31 (gd rfl) rfl rfl ?_
      refine g_aload_n 32 (gd rfl) rfl rfl ?_
      refine g_getI 35 (gd rfl) rfl rfl rfl (fun z32 e32 => ?_)
      have q32 : u_2_1 = z32 := (fr_F e_2_1 hFc30 rfl).trans e32.symm
      subst q32
      refine g_cmp_ge 38 72 (gd rfl) rfl rfl (fun c35 => ?_) (fun c35 => ?_)
      · skip
        have n72 : (w30_2_4).toInt = (w30_2_0).toInt := by first | exact n30_0 | ((first | have a0 := oa4 ro_2_1 ((inv_F hIc30 0 4000 rfl v30_2_0)) ((inv_F hIc30 (-1) 4000 rfl v30_2_4)) j30_2 | ((first | have a0 := in_u ro_2_1 | (have a0 := ro_2_1; unfold In at a0)); (first | have a1 := in_u ((inv_F hIc30 0 4000 rfl v30_2_0)) | (have a1 := (inv_F hIc30 0 4000 rfl v30_2_0); unfold In at a1)); (first | have a2 := in_u ((inv_F hIc30 (-1) 4000 rfl v30_2_4)) | (have a2 := (inv_F hIc30 (-1) 4000 rfl v30_2_4); unfold In at a2)); (first | have a3 := in_u j30_2 | (have a3 := j30_2; unfold In at a3)))); omega)
        have n72a : (sc30.2.2.1 2 4).toInt = (sc30.2.2.1 2 0).toInt := by have b0 : w30_2_4 = sc30.2.2.1 2 4 := v30_2_4; have b1 : w30_2_0 = sc30.2.2.1 2 0 := v30_2_0; rw [← b0, ← b1]; exact n72
        exact g_return (gd rfl) rfl (hP _ _ ⟨sc30, hIc30, hFc30, n72a, rfl, rfl⟩)
      · skip
        have i35 := r_lt1 0 31 c35 j30_2 ro_2_1 rfl
        have i35a := r_lt2 1 32 c35 j30_2 ro_2_1 rfl
        refine g_aload_n 39 (gd rfl) rfl rfl ?_
        refine g_getA (q2 := 89) 42 (gd rfl) rfl rfl rfl rfl ?_
        refine g_iload_n 43 (gd rfl) rfl rfl ?_
        refine g_iload_n 44 (gd rfl) rfl rfl ?_
        refine g_iastore 45 (gd rfl) rfl (n := 32) rfl (in_ix i35 rfl) ?_
        have hI44 := inv_sI (q := 89) (j := y30_2.toNatClampNeg) hIc30 rfl (in_w 0 31 i35 rfl)
        refine g_aload_n 46 (gd rfl) rfl rfl ?_
        refine g_getA (q2 := 90) 49 (gd rfl) rfl rfl rfl rfl ?_
        refine g_iload_n 50 (gd rfl) rfl rfl ?_
        refine g_iconst 1 51 (gd rfl) rfl rfl ?_
        refine g_iload_n 52 (gd rfl) rfl rfl ?_
        refine g_ishl 53 (gd rfl) rfl (fun z52 e52 => ?_)
        refine g_iastore 54 (gd rfl) rfl (n := 32) rfl (in_ix i35 rfl) ?_
        have hI53 := inv_sI (q := 90) (j := y30_2.toNatClampNeg) hI44 rfl (in_w (-2147483648) 2147483647 (i_rng z52) rfl)
        refine g_aload_n 55 (gd rfl) rfl rfl ?_
        refine g_getA (q2 := 92) 58 (gd rfl) rfl rfl rfl rfl ?_
        refine g_iload_n 59 (gd rfl) rfl rfl ?_
        refine g_aload_n 60 (gd rfl) rfl rfl ?_
        refine g_getA (q2 := 91) 63 (gd rfl) rfl rfl rfl rfl ?_
        refine g_iload_n 64 (gd rfl) rfl rfl ?_
        refine g_iaload 65 (gd rfl) rfl (n := 32) rfl (in_ix i35 rfl) (fun z64 e64 => ?_)
        refine g_iastore 66 (gd rfl) rfl (n := 32) rfl (in_ix i35 rfl) ?_
        have hI65 := inv_sI (q := 92) (j := y30_2.toNatClampNeg) hI53 rfl (in_w (-2147483648) 2147483647 (i_rng z64) rfl)
        refine g_iinc 69 (gd rfl) rfl rfl (Nat.le_of_ble_eq_true rfl) (fun z66 e66 => ?_)
        have i66 := in_add 1 32 e66 i35 (in_c 1 rfl) rfl rfl
        refine g_goto 30 (gd rfl) rfl ?_
        have v30 : w30_2_4 = (sI (sI (sI sc30 89 y30_2.toNatClampNeg y30_2) 90 y30_2.toNatClampNeg z52) 92 y30_2.toNatClampNeg z64).2.2.1 2 4 := sI_F (sI_F (sI_F (v30_2_4)))
        have v30a : w30_2_0 = (sI (sI (sI sc30 89 y30_2.toNatClampNeg y30_2) 90 y30_2.toNatClampNeg z52) 92 y30_2.toNatClampNeg z64).2.2.1 2 0 := sI_F (sI_F (sI_F (v30_2_0)))
        have n30 : (w30_2_4).toInt = (w30_2_0).toInt := by first | exact n30_0 | ((first | have a0 := oa5 i35a ((inv_F hIc30 0 4000 rfl v30_2_0)) ((inv_F hIc30 (-1) 4000 rfl v30_2_4)) i35 i66 | ((first | have a0 := in_u i35a | (have a0 := i35a; unfold In at a0)); (first | have a1 := in_u ((inv_F hIc30 0 4000 rfl v30_2_0)) | (have a1 := (inv_F hIc30 0 4000 rfl v30_2_0); unfold In at a1)); (first | have a2 := in_u ((inv_F hIc30 (-1) 4000 rfl v30_2_4)) | (have a2 := (inv_F hIc30 (-1) 4000 rfl v30_2_4); unfold In at a2)); (first | have a3 := in_u i35 | (have a3 := i35; unfold In at a3)); (first | have a4 := in_u i66 | (have a4 := i66; unfold In at a4)))); have a5 := t_add e66 i35 (in_c 1 rfl) rfl; (first | have a6 := in_u ((in_c 1 rfl)) | (have a6 := (in_c 1 rfl); unfold In at a6)); omega)
        exact gg_w (by first | exact Nat.le_add_right _ _ | exact gw2 | exact gw3 | exact gwe rfl | exact gwf rfl | exact gwg rfl | exact gwh rfl | omega) (gg_f (gf_cons rfl (gf_cons rfl (gf_cons rfl gf_nil))) (ih30 (sI (sI (sI sc30 89 y30_2.toNatClampNeg y30_2) 90 y30_2.toNatClampNeg z52) 92 y30_2.toNatClampNeg z64) z66 w30_2_4 w30_2_0 hI65 (fr_sI rfl (fr_sI rfl (fr_sI rfl hFc30))) (in_w 0 32 i66 rfl) v30 v30a n30 (m_up mm30 (t_add e66 i35 (in_c 1 rfl) rfl) (in_w 1 1 (in_c 1 rfl) rfl))))
  refine g_enter2 (k := 114) (N := 30601) (by first | exact dq1 hd rfl | exact dq0 hd rfl | exact dq2 hd rfl | exact dq3 hd rfl | omega) rfl (Nat.le_of_ble_eq_true rfl) ?_
  refine g_aload_n 1 (gd rfl) rfl rfl ?_
  refine g_callv (X := _) (As := []) (r := []) (b := A 2) (q := 2) 4 (gd rfl) rfl rfl rfl rfl rfl (ww_o rfl) (Nat.le_of_ble_eq_true rfl) (Nat.zero_le _) (Nat.zero_le _) (k_106_2 (by first | exact dq1 hd rfl | exact dq0 hd rfl | exact dq2 hd rfl | exact dq3 hd rfl | omega) hI ) (fun e u h => h) (fun v u h => ?_)
  obtain ⟨s1, hI1, hF1, n1, rfl, rfl⟩ := h
  obtain ⟨z1a, e1⟩ : ∃ w, w = s1.2.2.1 2 4 := ⟨_, rfl⟩
  have i1a := inv_F hI1 (-1) 4000 rfl e1
  obtain ⟨z1b, e1a⟩ : ∃ w, w = s1.2.2.1 2 0 := ⟨_, rfl⟩
  have i1b := inv_F hI1 0 4000 rfl e1a
  rw [← (show z1a = s1.2.2.1 2 4 from e1)] at n1
  rw [← (show z1b = s1.2.2.1 2 0 from e1a)] at n1
  show GG _ _ _ _ _ _ _ _ [] _ _ _
  refine g_aload_n 5 (gd rfl) rfl rfl ?_
  refine g_aload_n 6 (gd rfl) rfl rfl ?_
  refine g_callv (X := _) (As := []) (r := [.ref (A 86)]) (b := A 2) (q := 2) 9 (gd rfl) rfl rfl rfl rfl rfl (ww_o rfl) (Nat.le_of_ble_eq_true rfl) (Nat.zero_le _) (Nat.zero_le _) (k_98_2 (by first | exact dq1 hd rfl | exact dq0 hd rfl | exact dq2 hd rfl | exact dq3 hd rfl | omega) hI1 ) (fun e u h => h) (fun v u h => ?_)
  obtain ⟨z6, rfl, rfl, i6⟩ := h
  show GG _ _ _ _ _ _ _ _ [.int z6, .ref (A 86)] _ _ _
  refine g_putI 12 (gd rfl) rfl rfl rfl rfl ?_
  have hI9 := inv_sF (q := 86) (j := 5) hI1 rfl (in_w 0 160 i6 rfl)
  refine g_aload_n 13 (gd rfl) rfl rfl ?_
  refine g_aload_n 14 (gd rfl) rfl rfl ?_
  refine g_getA (q2 := 91) 17 (gd rfl) rfl rfl rfl rfl ?_
  refine g_callv (X := _) (As := [.ref (A 91)]) (r := []) (b := A 2) (q := 2) 20 (gd rfl) rfl rfl rfl rfl rfl (ww_o rfl) (Nat.le_of_ble_eq_true rfl) (Nat.zero_le _) (Nat.zero_le _) (k_99_2_91 (by first | exact dq1 hd rfl | exact dq0 hd rfl | exact dq2 hd rfl | exact dq3 hd rfl | omega) hI9 ) (fun e u h => h) (fun v u h => ?_)
  obtain ⟨s17, hI17, hF17, rfl, rfl⟩ := h
  show GG _ _ _ _ _ _ _ _ [] _ _ _
  refine g_aload_n 21 (gd rfl) rfl rfl ?_
  refine g_getA (q2 := 90) 24 (gd rfl) rfl rfl rfl rfl ?_
  refine g_iconst 0 25 (gd rfl) rfl rfl ?_
  refine g_calls (As := [.ref (A 90), .int (Int32.ofInt 0)]) (r := []) 28 (gd rfl) rfl rfl rfl rfl rfl (Nat.le_of_ble_eq_true rfl) (Nat.zero_le _) (Nat.zero_le _) (k_fillI 90 (by first | exact dq1 hd rfl | exact dq0 hd rfl | exact dq2 hd rfl | exact dq3 hd rfl | omega) hI17 (in_c 0 rfl) (n := 32) rfl rfl rfl rfl) (fun v u h => ?_)
  obtain ⟨s25, hI25, hF25, rfl, rfl, fl25⟩ := h
  show GG _ _ _ _ _ _ _ _ [] _ _ _
  refine g_iconst 0 29 (gd rfl) rfl rfl ?_
  refine g_istore_n 30 (gd rfl) rfl (Nat.le_of_ble_eq_true rfl) ?_
  have v30 : z1a = s25.2.2.1 2 4 := fr_F (fr_F (s := (sF s1 86 5 z6)) (sF_ne rfl (e1)) hF17 rfl) hF25 rfl
  have v30a : z1b = s25.2.2.1 2 0 := fr_F (fr_F (s := (sF s1 86 5 z6)) (sF_ne rfl (e1a)) hF17 rfl) hF25 rfl
  have n30 : (z1a).toInt = (z1b).toInt := by (first | have a0 := oa5 ro_2_1 ((in_c 0 rfl)) i6 i1b i1a | ((first | have a0 := in_u ro_2_1 | (have a0 := ro_2_1; unfold In at a0)); (first | have a1 := in_u ((in_c 0 rfl)) | (have a1 := (in_c 0 rfl); unfold In at a1)); (first | have a2 := in_u i6 | (have a2 := i6; unfold In at a2)); (first | have a3 := in_u i1b | (have a3 := i1b; unfold In at a3)); (first | have a4 := in_u i1a | (have a4 := i1a; unfold In at a4)))); omega
  exact gg_w (by first | exact Nat.le_of_ble_eq_true rfl | omega) (gg_f (gf_cons rfl (gf_cons rfl (gf_cons rfl gf_nil))) (ct30 33 s25 (Int32.ofInt 0) z1a z1b hI25 (fr_tr rfl (fr_tr rfl (fr_sF rfl (fr_tr rfl fr_rf hF1)) hF17) hF25) (in_w 0 32 (in_c 0 rfl) rfl) v30 v30a n30 (m_in 33 (in_w 0 32 (in_c 0 rfl) rfl) rfl)))

def fm_114_86_32 : FM := ([39, 40, 41, 42, 43, 44, 45, 89, 90, 91, 92], [], [(32, 4), (86, 5)], [])
/-- GraphHouse$Groups.begin -/
theorem k_114_86_32 {Z : AmZ} {A : Nat → Nat} {s : GS} {ex : va_W} {d : Nat} {X : AmX}  (hd : 4 ≤ d) (hI : Inv s)  : GC Z d 114 [.ref (A 86), .ref (A 32)] (WW Z A s ++ ex) 0 0 (fun v u => ∃ t : GS, Inv t ∧ Fr fm_114_86_32 s t ∧ ((t.2.2.1 32 4).toInt = (t.2.2.1 32 0).toInt) ∧ v = none ∧ u = WW Z A t ++ ex) X := by
  intro post xp hP hX
  obtain ⟨u_32_1, e_32_1⟩ : ∃ w, w = s.2.2.1 32 1 := ⟨_, rfl⟩
  have ro_32_1 := inv_F hI 0 32 rfl e_32_1
  have ct30 : ∀ (k30 : Nat) (sc30 : GS) (y30_2 : Int32) (w30_32_4 : Int32) (w30_32_0 : Int32), Inv sc30 → Fr fm_114_86_32 s sc30 → (In y30_2 0 32) → (w30_32_4 = sc30.2.2.1 32 4) → (w30_32_0 = sc30.2.2.1 32 0) → ((w30_32_4).toInt = (w30_32_0).toInt) → 32 - (y30_2).toInt < (k30 : Int) → GG Z (d - 1) 114 post (gx xp) (1 + k30 * 900) 30 (fun j => xlook j [(0, .ref (A 86)), (1, .ref (A 32)), (2, .int y30_2)]) [] (WW Z A sc30 ++ ex) 0 0 := by
    intro k30
    induction k30 with
    | zero => intro sc30 y30_2 w30_32_4 w30_32_0 hIc30 hFc30 j30_2 v30_32_4 v30_32_0 n30_0 mm30; exact m_no mm30 j30_2 rfl
    | succ k30 ih30 =>
      intro sc30 y30_2 w30_32_4 w30_32_0 hIc30 hFc30 j30_2 v30_32_4 v30_32_0 n30_0 mm30
      refine gg_w (M := 1 + k30 * 900 + 900) gws ?_
      refine g_iload_n 31 (gd rfl) rfl rfl ?_
      refine g_aload_n 32 (gd rfl) rfl rfl ?_
      refine g_getI 35 (gd rfl) rfl rfl rfl (fun z32 e32 => ?_)
      have q32 : u_32_1 = z32 := (fr_F e_32_1 hFc30 rfl).trans e32.symm
      subst q32
      refine g_cmp_ge 38 72 (gd rfl) rfl rfl (fun c35 => ?_) (fun c35 => ?_)
      · skip
        have n72 : (w30_32_4).toInt = (w30_32_0).toInt := by first | exact n30_0 | ((first | have a0 := oa4 ro_32_1 ((inv_F hIc30 0 4000 rfl v30_32_0)) ((inv_F hIc30 (-1) 4000 rfl v30_32_4)) j30_2 | ((first | have a0 := in_u ro_32_1 | (have a0 := ro_32_1; unfold In at a0)); (first | have a1 := in_u ((inv_F hIc30 0 4000 rfl v30_32_0)) | (have a1 := (inv_F hIc30 0 4000 rfl v30_32_0); unfold In at a1)); (first | have a2 := in_u ((inv_F hIc30 (-1) 4000 rfl v30_32_4)) | (have a2 := (inv_F hIc30 (-1) 4000 rfl v30_32_4); unfold In at a2)); (first | have a3 := in_u j30_2 | (have a3 := j30_2; unfold In at a3)))); omega)
        have n72a : (sc30.2.2.1 32 4).toInt = (sc30.2.2.1 32 0).toInt := by have b0 : w30_32_4 = sc30.2.2.1 32 4 := v30_32_4; have b1 : w30_32_0 = sc30.2.2.1 32 0 := v30_32_0; rw [← b0, ← b1]; exact n72
        exact g_return (gd rfl) rfl (hP _ _ ⟨sc30, hIc30, hFc30, n72a, rfl, rfl⟩)
      · skip
        have i35 := r_lt1 0 31 c35 j30_2 ro_32_1 rfl
        have i35a := r_lt2 1 32 c35 j30_2 ro_32_1 rfl
        refine g_aload_n 39 (gd rfl) rfl rfl ?_
        refine g_getA (q2 := 89) 42 (gd rfl) rfl rfl rfl rfl ?_
        refine g_iload_n 43 (gd rfl) rfl rfl ?_
        refine g_iload_n 44 (gd rfl) rfl rfl ?_
        refine g_iastore 45 (gd rfl) rfl (n := 32) rfl (in_ix i35 rfl) ?_
        have hI44 := inv_sI (q := 89) (j := y30_2.toNatClampNeg) hIc30 rfl (in_w 0 31 i35 rfl)
        refine g_aload_n 46 (gd rfl) rfl rfl ?_
        refine g_getA (q2 := 90) 49 (gd rfl) rfl rfl rfl rfl ?_
        refine g_iload_n 50 (gd rfl) rfl rfl ?_
        refine g_iconst 1 51 (gd rfl) rfl rfl ?_
        refine g_iload_n 52 (gd rfl) rfl rfl ?_
        refine g_ishl 53 (gd rfl) rfl (fun z52 e52 => ?_)
        refine g_iastore 54 (gd rfl) rfl (n := 32) rfl (in_ix i35 rfl) ?_
        have hI53 := inv_sI (q := 90) (j := y30_2.toNatClampNeg) hI44 rfl (in_w (-2147483648) 2147483647 (i_rng z52) rfl)
        refine g_aload_n 55 (gd rfl) rfl rfl ?_
        refine g_getA (q2 := 92) 58 (gd rfl) rfl rfl rfl rfl ?_
        refine g_iload_n 59 (gd rfl) rfl rfl ?_
        refine g_aload_n 60 (gd rfl) rfl rfl ?_
        refine g_getA (q2 := 91) 63 (gd rfl) rfl rfl rfl rfl ?_
        refine g_iload_n 64 (gd rfl) rfl rfl ?_
        refine g_iaload 65 (gd rfl) rfl (n := 32) rfl (in_ix i35 rfl) (fun z64 e64 => ?_)
        refine g_iastore 66 (gd rfl) rfl (n := 32) rfl (in_ix i35 rfl) ?_
        have hI65 := inv_sI (q := 92) (j := y30_2.toNatClampNeg) hI53 rfl (in_w (-2147483648) 2147483647 (i_rng z64) rfl)
        refine g_iinc 69 (gd rfl) rfl rfl (Nat.le_of_ble_eq_true rfl) (fun z66 e66 => ?_)
        have i66 := in_add 1 32 e66 i35 (in_c 1 rfl) rfl rfl
        refine g_goto 30 (gd rfl) rfl ?_
        have v30 : w30_32_4 = (sI (sI (sI sc30 89 y30_2.toNatClampNeg y30_2) 90 y30_2.toNatClampNeg z52) 92 y30_2.toNatClampNeg z64).2.2.1 32 4 := sI_F (sI_F (sI_F (v30_32_4)))
        have v30a : w30_32_0 = (sI (sI (sI sc30 89 y30_2.toNatClampNeg y30_2) 90 y30_2.toNatClampNeg z52) 92 y30_2.toNatClampNeg z64).2.2.1 32 0 := sI_F (sI_F (sI_F (v30_32_0)))
        have n30 : (w30_32_4).toInt = (w30_32_0).toInt := by first | exact n30_0 | ((first | have a0 := oa5 i35a ((inv_F hIc30 0 4000 rfl v30_32_0)) ((inv_F hIc30 (-1) 4000 rfl v30_32_4)) i35 i66 | ((first | have a0 := in_u i35a | (have a0 := i35a; unfold In at a0)); (first | have a1 := in_u ((inv_F hIc30 0 4000 rfl v30_32_0)) | (have a1 := (inv_F hIc30 0 4000 rfl v30_32_0); unfold In at a1)); (first | have a2 := in_u ((inv_F hIc30 (-1) 4000 rfl v30_32_4)) | (have a2 := (inv_F hIc30 (-1) 4000 rfl v30_32_4); unfold In at a2)); (first | have a3 := in_u i35 | (have a3 := i35; unfold In at a3)); (first | have a4 := in_u i66 | (have a4 := i66; unfold In at a4)))); have a5 := t_add e66 i35 (in_c 1 rfl) rfl; (first | have a6 := in_u ((in_c 1 rfl)) | (have a6 := (in_c 1 rfl); unfold In at a6)); omega)
        exact gg_w (by first | exact Nat.le_add_right _ _ | exact gw2 | exact gw3 | exact gwe rfl | exact gwf rfl | exact gwg rfl | exact gwh rfl | omega) (gg_f (gf_cons rfl (gf_cons rfl (gf_cons rfl gf_nil))) (ih30 (sI (sI (sI sc30 89 y30_2.toNatClampNeg y30_2) 90 y30_2.toNatClampNeg z52) 92 y30_2.toNatClampNeg z64) z66 w30_32_4 w30_32_0 hI65 (fr_sI rfl (fr_sI rfl (fr_sI rfl hFc30))) (in_w 0 32 i66 rfl) v30 v30a n30 (m_up mm30 (t_add e66 i35 (in_c 1 rfl) rfl) (in_w 1 1 (in_c 1 rfl) rfl))))
  refine g_enter2 (k := 114) (N := 30601) (by first | exact dq1 hd rfl | exact dq0 hd rfl | exact dq2 hd rfl | exact dq3 hd rfl | omega) rfl (Nat.le_of_ble_eq_true rfl) ?_
  refine g_aload_n 1 (gd rfl) rfl rfl ?_
  refine g_callv (X := _) (As := []) (r := []) (b := A 32) (q := 32) 4 (gd rfl) rfl rfl rfl rfl rfl (ww_o rfl) (Nat.le_of_ble_eq_true rfl) (Nat.zero_le _) (Nat.zero_le _) (k_106_32 (by first | exact dq1 hd rfl | exact dq0 hd rfl | exact dq2 hd rfl | exact dq3 hd rfl | omega) hI ) (fun e u h => h) (fun v u h => ?_)
  obtain ⟨s1, hI1, hF1, n1, rfl, rfl⟩ := h
  obtain ⟨z1a, e1⟩ : ∃ w, w = s1.2.2.1 32 4 := ⟨_, rfl⟩
  have i1a := inv_F hI1 (-1) 4000 rfl e1
  obtain ⟨z1b, e1a⟩ : ∃ w, w = s1.2.2.1 32 0 := ⟨_, rfl⟩
  have i1b := inv_F hI1 0 4000 rfl e1a
  rw [← (show z1a = s1.2.2.1 32 4 from e1)] at n1
  rw [← (show z1b = s1.2.2.1 32 0 from e1a)] at n1
  show GG _ _ _ _ _ _ _ _ [] _ _ _
  refine g_aload_n 5 (gd rfl) rfl rfl ?_
  refine g_aload_n 6 (gd rfl) rfl rfl ?_
  refine g_callv (X := _) (As := []) (r := [.ref (A 86)]) (b := A 32) (q := 32) 9 (gd rfl) rfl rfl rfl rfl rfl (ww_o rfl) (Nat.le_of_ble_eq_true rfl) (Nat.zero_le _) (Nat.zero_le _) (k_98_32 (by first | exact dq1 hd rfl | exact dq0 hd rfl | exact dq2 hd rfl | exact dq3 hd rfl | omega) hI1 ) (fun e u h => h) (fun v u h => ?_)
  obtain ⟨z6, rfl, rfl, i6⟩ := h
  show GG _ _ _ _ _ _ _ _ [.int z6, .ref (A 86)] _ _ _
  refine g_putI 12 (gd rfl) rfl rfl rfl rfl ?_
  have hI9 := inv_sF (q := 86) (j := 5) hI1 rfl (in_w 0 160 i6 rfl)
  refine g_aload_n 13 (gd rfl) rfl rfl ?_
  refine g_aload_n 14 (gd rfl) rfl rfl ?_
  refine g_getA (q2 := 91) 17 (gd rfl) rfl rfl rfl rfl ?_
  refine g_callv (X := _) (As := [.ref (A 91)]) (r := []) (b := A 32) (q := 32) 20 (gd rfl) rfl rfl rfl rfl rfl (ww_o rfl) (Nat.le_of_ble_eq_true rfl) (Nat.zero_le _) (Nat.zero_le _) (k_99_32_91 (by first | exact dq1 hd rfl | exact dq0 hd rfl | exact dq2 hd rfl | exact dq3 hd rfl | omega) hI9 ) (fun e u h => h) (fun v u h => ?_)
  obtain ⟨s17, hI17, hF17, rfl, rfl⟩ := h
  show GG _ _ _ _ _ _ _ _ [] _ _ _
  refine g_aload_n 21 (gd rfl) rfl rfl ?_
  refine g_getA (q2 := 90) 24 (gd rfl) rfl rfl rfl rfl ?_
  refine g_iconst 0 25 (gd rfl) rfl rfl ?_
  refine g_calls (As := [.ref (A 90), .int (Int32.ofInt 0)]) (r := []) 28 (gd rfl) rfl rfl rfl rfl rfl (Nat.le_of_ble_eq_true rfl) (Nat.zero_le _) (Nat.zero_le _) (k_fillI 90 (by first | exact dq1 hd rfl | exact dq0 hd rfl | exact dq2 hd rfl | exact dq3 hd rfl | omega) hI17 (in_c 0 rfl) (n := 32) rfl rfl rfl rfl) (fun v u h => ?_)
  obtain ⟨s25, hI25, hF25, rfl, rfl, fl25⟩ := h
  show GG _ _ _ _ _ _ _ _ [] _ _ _
  refine g_iconst 0 29 (gd rfl) rfl rfl ?_
  refine g_istore_n 30 (gd rfl) rfl (Nat.le_of_ble_eq_true rfl) ?_
  have v30 : z1a = s25.2.2.1 32 4 := fr_F (fr_F (s := (sF s1 86 5 z6)) (sF_ne rfl (e1)) hF17 rfl) hF25 rfl
  have v30a : z1b = s25.2.2.1 32 0 := fr_F (fr_F (s := (sF s1 86 5 z6)) (sF_ne rfl (e1a)) hF17 rfl) hF25 rfl
  have n30 : (z1a).toInt = (z1b).toInt := by (first | have a0 := oa5 ro_32_1 ((in_c 0 rfl)) i6 i1b i1a | ((first | have a0 := in_u ro_32_1 | (have a0 := ro_32_1; unfold In at a0)); (first | have a1 := in_u ((in_c 0 rfl)) | (have a1 := (in_c 0 rfl); unfold In at a1)); (first | have a2 := in_u i6 | (have a2 := i6; unfold In at a2)); (first | have a3 := in_u i1b | (have a3 := i1b; unfold In at a3)); (first | have a4 := in_u i1a | (have a4 := i1a; unfold In at a4)))); omega
  exact gg_w (by first | exact Nat.le_of_ble_eq_true rfl | omega) (gg_f (gf_cons rfl (gf_cons rfl (gf_cons rfl gf_nil))) (ct30 33 s25 (Int32.ofInt 0) z1a z1b hI25 (fr_tr rfl (fr_tr rfl (fr_sF rfl (fr_tr rfl fr_rf hF1)) hF17) hF25) (in_w 0 32 (in_c 0 rfl) rfl) v30 v30a n30 (m_in 33 (in_w 0 32 (in_c 0 rfl) rfl) rfl)))

def fm_117_86_2 : FM := ([93], [], [], [])
/-- GraphHouse$Groups.countLinks -/
theorem k_117_86_2 {Z : AmZ} {A : Nat → Nat} {s : GS} {ex : va_W} {d : Nat} {X : AmX} {x2 : Int32} {u_2_4 : Int32} {u_2_0 : Int32} (hd : 2 ≤ d) (hI : Inv s) (h2 : In x2 0 31) (e_2_4 : u_2_4 = s.2.2.1 2 4) (e_2_0 : u_2_0 = s.2.2.1 2 0) (p_0 : (u_2_4).toInt = (u_2_0).toInt) : GC Z d 117 [.ref (A 86), .ref (A 2), .int x2] (WW Z A s ++ ex) 0 0 (fun v u => ∃ t : GS, Inv t ∧ Fr fm_117_86_2 s t ∧ v = none ∧ u = WW Z A t ++ ex) X := by
  intro post xp hP hX
  have ro_2_4 := inv_F hI (-1) 4000 rfl e_2_4
  have ro_2_0 := inv_F hI 0 4000 rfl e_2_0
  have ct115 : ∀ (k115 : Nat) (sc115 : GS) (y115_3 : Int32), Inv sc115 → Fr fm_117_86_2 s sc115 → (In y115_3 0 160) → 160 - (y115_3).toInt < (k115 : Int) → GG Z (d - 1) 117 post (gx xp) (1 + k115 * 900) 115 (fun j => xlook j [(0, .ref (A 86)), (1, .ref (A 2)), (2, .int x2), (3, .int y115_3)]) [] (WW Z A sc115 ++ ex) 0 0 := by
    intro k115
    induction k115 with
    | zero => intro sc115 y115_3 hIc115 hFc115 j115_3 mm115; exact m_no mm115 j115_3 rfl
    | succ k115 ih115 =>
      intro sc115 y115_3 hIc115 hFc115 j115_3 mm115
      refine gg_w (M := 1 + k115 * 900 + 900) gws ?_
      refine g_iload_n 116 (gd rfl) rfl rfl ?_
      refine g_aload_n 117 (gd rfl) rfl rfl ?_
      refine g_getA (q2 := 12) 120 (gd rfl) rfl rfl rfl rfl ?_
      refine g_iload_n 121 (gd rfl) rfl rfl ?_
      refine g_iconst 1 122 (gd rfl) rfl rfl ?_
      refine g_iadd 123 (gd rfl) rfl (fun z122 e122 => ?_)
      have i122 := in_add 1 32 e122 h2 (in_c 1 rfl) rfl rfl
      refine g_iaload 124 (gd rfl) rfl (n := 33) rfl (in_ix i122 rfl) (fun z123 e123 => ?_)
      have i123 := inv_I hIc115 (n := 33) (t := 0) 0 160 rfl (in_ix i122 rfl) rfl e123
      refine g_cmp_ge 127 163 (gd rfl) rfl rfl (fun c124 => ?_) (fun c124 => ?_)
      · skip
        exact g_return (gd rfl) rfl (hP _ _ ⟨sc115, hIc115, hFc115, rfl, rfl⟩)
      · skip
        have i124 := r_lt1 0 159 c124 j115_3 i123 rfl
        have i124a := r_lt2 1 160 c124 j115_3 i123 rfl
        refine g_aload_n 128 (gd rfl) rfl rfl ?_
        refine g_getA (q2 := 5) 131 (gd rfl) rfl rfl rfl rfl ?_
        refine g_aload_n 132 (gd rfl) rfl rfl ?_
        refine g_getA (q2 := 13) 135 (gd rfl) rfl rfl rfl rfl ?_
        refine g_iload_n 136 (gd rfl) rfl rfl ?_
        refine g_iaload 137 (gd rfl) rfl (n := 160) rfl (in_ix i124 rfl) (fun z136 e136 => ?_)
        have i136 := inv_I hIc115 (n := 160) (t := 0) 0 159 rfl (in_ix i124 rfl) rfl e136
        refine g_iaload 138 (gd rfl) rfl (n := 160) rfl (in_ix i136 rfl) (fun z137 e137 => ?_)
        have i137 := inv_I hIc115 (n := 160) (t := 0) 0 31 rfl (in_ix i136 rfl) rfl e137
        refine g_iload_n 139 (gd rfl) rfl rfl ?_
        refine g_cmp_ne 142 157 (gd rfl) rfl rfl (fun c139 => ?_) (fun c139 => ?_)
        · skip
          refine g_iinc 160 (gd rfl) rfl rfl (Nat.le_of_ble_eq_true rfl) (fun z157 e157 => ?_)
          have i157 := in_add 1 160 e157 i124 (in_c 1 rfl) rfl rfl
          refine g_goto 115 (gd rfl) rfl ?_
          exact gg_w (by first | exact Nat.le_add_right _ _ | exact gw2 | exact gw3 | exact gwe rfl | exact gwf rfl | exact gwg rfl | exact gwh rfl | omega) (gg_f (gf_cons rfl (gf_cons rfl (gf_cons rfl (gf_cons rfl gf_nil)))) (ih115 sc115 z157 hIc115 hFc115 (in_w 0 160 i157 rfl) (m_up mm115 (t_add e157 i124 (in_c 1 rfl) rfl) (in_w 1 1 (in_c 1 rfl) rfl))))
        · skip
          refine g_aload_n 143 (gd rfl) rfl rfl ?_
          refine g_getA (q2 := 93) 146 (gd rfl) rfl rfl rfl rfl ?_
          refine g_aload_n 147 (gd rfl) rfl rfl ?_
          refine g_getA (q2 := 89) 150 (gd rfl) rfl rfl rfl rfl ?_
          refine g_iload_n 151 (gd rfl) rfl rfl ?_
          refine g_iaload 152 (gd rfl) rfl (n := 32) rfl (in_ix h2 rfl) (fun z151 e151 => ?_)
          have i151 := inv_I hIc115 (n := 32) (t := 0) 0 31 rfl (in_ix h2 rfl) rfl e151
          refine g_dup2 153 (gd rfl) rfl rfl rfl ?_
          refine g_iaload 154 (gd rfl) rfl (n := 32) rfl (in_ix i151 rfl) (fun z153 e153 => ?_)
          refine g_iconst 2 155 (gd rfl) rfl rfl ?_
          refine g_isub 156 (gd rfl) rfl (fun z155 e155 => ?_)
          refine g_iastore 157 (gd rfl) rfl (n := 32) rfl (in_ix i151 rfl) ?_
          have hI156 := inv_sI (q := 93) (j := z151.toNatClampNeg) hIc115 rfl (in_w (-2147483648) 2147483647 (i_rng z155) rfl)
          refine g_iinc 160 (gd rfl) rfl rfl (Nat.le_of_ble_eq_true rfl) (fun z157 e157 => ?_)
          have i157 := in_add 1 160 e157 i124 (in_c 1 rfl) rfl rfl
          refine g_goto 115 (gd rfl) rfl ?_
          exact gg_w (by first | exact Nat.le_add_right _ _ | exact gw2 | exact gw3 | exact gwe rfl | exact gwf rfl | exact gwg rfl | exact gwh rfl | omega) (gg_f (gf_cons rfl (gf_cons rfl (gf_cons rfl (gf_cons rfl gf_nil)))) (ih115 (sI sc115 93 z151.toNatClampNeg z155) z157 hI156 (fr_sI rfl hFc115) (in_w 0 160 i157 rfl) (m_up mm115 (t_add e157 i124 (in_c 1 rfl) rfl) (in_w 1 1 (in_c 1 rfl) rfl))))
  have ct65 : ∀ (k65 : Nat) (sc65 : GS) (y65_3 : Int32), Inv sc65 → Fr fm_117_86_2 s sc65 → (In y65_3 0 160) → 160 - (y65_3).toInt < (k65 : Int) → GG Z (d - 1) 117 post (gx xp) (144902 + k65 * 900) 65 (fun j => xlook j [(0, .ref (A 86)), (1, .ref (A 2)), (2, .int x2), (3, .int y65_3)]) [] (WW Z A sc65 ++ ex) 0 0 := by
    intro k65
    induction k65 with
    | zero => intro sc65 y65_3 hIc65 hFc65 j65_3 mm65; exact m_no mm65 j65_3 rfl
    | succ k65 ih65 =>
      intro sc65 y65_3 hIc65 hFc65 j65_3 mm65
      refine gg_w (M := 144902 + k65 * 900 + 900) gws ?_
      refine g_iload_n 66 (gd rfl) rfl rfl ?_
      refine g_aload_n 67 (gd rfl) rfl rfl ?_
      refine g_getA (q2 := 14) 70 (gd rfl) rfl rfl rfl rfl ?_
      refine g_iload_n 71 (gd rfl) rfl rfl ?_
      refine g_iconst 1 72 (gd rfl) rfl rfl ?_
      refine g_iadd 73 (gd rfl) rfl (fun z72 e72 => ?_)
      have i72 := in_add 1 32 e72 h2 (in_c 1 rfl) rfl rfl
      refine g_iaload 74 (gd rfl) rfl (n := 33) rfl (in_ix i72 rfl) (fun z73 e73 => ?_)
      have i73 := inv_I hIc65 (n := 33) (t := 0) 0 160 rfl (in_ix i72 rfl) rfl e73
      refine g_cmp_ge 77 108 (gd rfl) rfl rfl (fun c74 => ?_) (fun c74 => ?_)
      · skip
        refine g_aload_n 109 (gd rfl) rfl rfl ?_
        refine g_getA (q2 := 12) 112 (gd rfl) rfl rfl rfl rfl ?_
        refine g_iload_n 113 (gd rfl) rfl rfl ?_
        refine g_iaload 114 (gd rfl) rfl (n := 33) rfl (in_ix h2 rfl) (fun z113 e113 => ?_)
        have i113 := inv_I hIc65 (n := 33) (t := 0) 0 160 rfl (in_ix h2 rfl) rfl e113
        refine g_istore_n 115 (gd rfl) rfl (Nat.le_of_ble_eq_true rfl) ?_
        exact gg_w (by first | exact Nat.le_add_right _ _ | exact gw2 | exact gw3 | exact gwe rfl | exact gwf rfl | exact gwg rfl | exact gwh rfl | omega) (gg_f (gf_cons rfl (gf_cons rfl (gf_cons rfl (gf_cons rfl gf_nil)))) (ct115 161 sc65 z113 hIc65 hFc65 (in_w 0 160 i113 rfl) (m_in 161 (in_w 0 160 i113 rfl) rfl)))
      · skip
        have i74 := r_lt1 0 159 c74 j65_3 i73 rfl
        have i74a := r_lt2 1 160 c74 j65_3 i73 rfl
        refine g_aload_n 78 (gd rfl) rfl rfl ?_
        refine g_getA (q2 := 93) 81 (gd rfl) rfl rfl rfl rfl ?_
        refine g_aload_n 82 (gd rfl) rfl rfl ?_
        refine g_getA (q2 := 89) 85 (gd rfl) rfl rfl rfl rfl ?_
        refine g_aload_n 86 (gd rfl) rfl rfl ?_
        refine g_getA (q2 := 4) 89 (gd rfl) rfl rfl rfl rfl ?_
        refine g_aload_n 90 (gd rfl) rfl rfl ?_
        refine g_getA (q2 := 15) 93 (gd rfl) rfl rfl rfl rfl ?_
        refine g_iload_n 94 (gd rfl) rfl rfl ?_
        refine g_iaload 95 (gd rfl) rfl (n := 160) rfl (in_ix i74 rfl) (fun z94 e94 => ?_)
        have i94 := inv_I hIc65 (n := 160) (t := 0) 0 159 rfl (in_ix i74 rfl) rfl e94
        refine g_iaload 96 (gd rfl) rfl (n := 160) rfl (in_ix i94 rfl) (fun z95 e95 => ?_)
        have i95 := inv_I hIc65 (n := 160) (t := 0) (-1) 31 rfl (in_ix i94 rfl) rfl e95
        have i96 : In z95 0 31 := by exact tg_b (b := 2) hIc65.2.1 rfl rfl rfl rfl rfl (by rw [← (show u_2_4 = sc65.2.2.1 2 4 from fr_F e_2_4 hFc65 rfl), ← (show u_2_0 = sc65.2.2.1 2 0 from fr_F e_2_0 hFc65 rfl)]; exact p_0) e73 i72 i74 c74 e94 e95 i95
        refine g_iaload 97 (gd rfl) rfl (n := 32) rfl (in_ix i96 rfl) (fun z96 e96 => ?_)
        have i96a := inv_I hIc65 (n := 32) (t := 0) 0 31 rfl (in_ix i96 rfl) rfl e96
        refine g_dup2 98 (gd rfl) rfl rfl rfl ?_
        refine g_iaload 99 (gd rfl) rfl (n := 32) rfl (in_ix i96a rfl) (fun z98 e98 => ?_)
        refine g_iconst 1 100 (gd rfl) rfl rfl ?_
        refine g_iadd 101 (gd rfl) rfl (fun z100 e100 => ?_)
        refine g_iastore 102 (gd rfl) rfl (n := 32) rfl (in_ix i96a rfl) ?_
        have hI101 := inv_sI (q := 93) (j := z96.toNatClampNeg) hIc65 rfl (in_w (-2147483648) 2147483647 (i_rng z100) rfl)
        refine g_iinc 105 (gd rfl) rfl rfl (Nat.le_of_ble_eq_true rfl) (fun z102 e102 => ?_)
        have i102 := in_add 1 160 e102 i74 (in_c 1 rfl) rfl rfl
        refine g_goto 65 (gd rfl) rfl ?_
        exact gg_w (by first | exact Nat.le_add_right _ _ | exact gw2 | exact gw3 | exact gwe rfl | exact gwf rfl | exact gwg rfl | exact gwh rfl | omega) (gg_f (gf_cons rfl (gf_cons rfl (gf_cons rfl (gf_cons rfl gf_nil)))) (ih65 (sI sc65 93 z96.toNatClampNeg z100) z102 hI101 (fr_sI rfl hFc65) (in_w 0 160 i102 rfl) (m_up mm65 (t_add e102 i74 (in_c 1 rfl) rfl) (in_w 1 1 (in_c 1 rfl) rfl))))
  have ct15 : ∀ (k15 : Nat) (sc15 : GS) (y15_3 : Int32), Inv sc15 → Fr fm_117_86_2 s sc15 → (In y15_3 0 160) → 160 - (y15_3).toInt < (k15 : Int) → GG Z (d - 1) 117 post (gx xp) (289803 + k15 * 900) 15 (fun j => xlook j [(0, .ref (A 86)), (1, .ref (A 2)), (2, .int x2), (3, .int y15_3)]) [] (WW Z A sc15 ++ ex) 0 0 := by
    intro k15
    induction k15 with
    | zero => intro sc15 y15_3 hIc15 hFc15 j15_3 mm15; exact m_no mm15 j15_3 rfl
    | succ k15 ih15 =>
      intro sc15 y15_3 hIc15 hFc15 j15_3 mm15
      refine gg_w (M := 289803 + k15 * 900 + 900) gws ?_
      refine g_iload_n 16 (gd rfl) rfl rfl ?_
      refine g_aload_n 17 (gd rfl) rfl rfl ?_
      refine g_getA (q2 := 12) 20 (gd rfl) rfl rfl rfl rfl ?_
      refine g_iload_n 21 (gd rfl) rfl rfl ?_
      refine g_iconst 1 22 (gd rfl) rfl rfl ?_
      refine g_iadd 23 (gd rfl) rfl (fun z22 e22 => ?_)
      have i22 := in_add 1 32 e22 h2 (in_c 1 rfl) rfl rfl
      refine g_iaload 24 (gd rfl) rfl (n := 33) rfl (in_ix i22 rfl) (fun z23 e23 => ?_)
      have i23 := inv_I hIc15 (n := 33) (t := 0) 0 160 rfl (in_ix i22 rfl) rfl e23
      refine g_cmp_ge 27 58 (gd rfl) rfl rfl (fun c24 => ?_) (fun c24 => ?_)
      · skip
        refine g_aload_n 59 (gd rfl) rfl rfl ?_
        refine g_getA (q2 := 14) 62 (gd rfl) rfl rfl rfl rfl ?_
        refine g_iload_n 63 (gd rfl) rfl rfl ?_
        refine g_iaload 64 (gd rfl) rfl (n := 33) rfl (in_ix h2 rfl) (fun z63 e63 => ?_)
        have i63 := inv_I hIc15 (n := 33) (t := 0) 0 160 rfl (in_ix h2 rfl) rfl e63
        refine g_istore_n 65 (gd rfl) rfl (Nat.le_of_ble_eq_true rfl) ?_
        exact gg_w (by first | exact Nat.le_add_right _ _ | exact gw2 | exact gw3 | exact gwe rfl | exact gwf rfl | exact gwg rfl | exact gwh rfl | omega) (gg_f (gf_cons rfl (gf_cons rfl (gf_cons rfl (gf_cons rfl gf_nil)))) (ct65 161 sc15 z63 hIc15 hFc15 (in_w 0 160 i63 rfl) (m_in 161 (in_w 0 160 i63 rfl) rfl)))
      · skip
        have i24 := r_lt1 0 159 c24 j15_3 i23 rfl
        have i24a := r_lt2 1 160 c24 j15_3 i23 rfl
        refine g_aload_n 28 (gd rfl) rfl rfl ?_
        refine g_getA (q2 := 93) 31 (gd rfl) rfl rfl rfl rfl ?_
        refine g_aload_n 32 (gd rfl) rfl rfl ?_
        refine g_getA (q2 := 89) 35 (gd rfl) rfl rfl rfl rfl ?_
        refine g_aload_n 36 (gd rfl) rfl rfl ?_
        refine g_getA (q2 := 5) 39 (gd rfl) rfl rfl rfl rfl ?_
        refine g_aload_n 40 (gd rfl) rfl rfl ?_
        refine g_getA (q2 := 13) 43 (gd rfl) rfl rfl rfl rfl ?_
        refine g_iload_n 44 (gd rfl) rfl rfl ?_
        refine g_iaload 45 (gd rfl) rfl (n := 160) rfl (in_ix i24 rfl) (fun z44 e44 => ?_)
        have i44 := inv_I hIc15 (n := 160) (t := 0) 0 159 rfl (in_ix i24 rfl) rfl e44
        refine g_iaload 46 (gd rfl) rfl (n := 160) rfl (in_ix i44 rfl) (fun z45 e45 => ?_)
        have i45 := inv_I hIc15 (n := 160) (t := 0) 0 31 rfl (in_ix i44 rfl) rfl e45
        refine g_iaload 47 (gd rfl) rfl (n := 32) rfl (in_ix i45 rfl) (fun z46 e46 => ?_)
        have i46 := inv_I hIc15 (n := 32) (t := 0) 0 31 rfl (in_ix i45 rfl) rfl e46
        refine g_dup2 48 (gd rfl) rfl rfl rfl ?_
        refine g_iaload 49 (gd rfl) rfl (n := 32) rfl (in_ix i46 rfl) (fun z48 e48 => ?_)
        refine g_iconst 1 50 (gd rfl) rfl rfl ?_
        refine g_iadd 51 (gd rfl) rfl (fun z50 e50 => ?_)
        refine g_iastore 52 (gd rfl) rfl (n := 32) rfl (in_ix i46 rfl) ?_
        have hI51 := inv_sI (q := 93) (j := z46.toNatClampNeg) hIc15 rfl (in_w (-2147483648) 2147483647 (i_rng z50) rfl)
        refine g_iinc 55 (gd rfl) rfl rfl (Nat.le_of_ble_eq_true rfl) (fun z52 e52 => ?_)
        have i52 := in_add 1 160 e52 i24 (in_c 1 rfl) rfl rfl
        refine g_goto 15 (gd rfl) rfl ?_
        exact gg_w (by first | exact Nat.le_add_right _ _ | exact gw2 | exact gw3 | exact gwe rfl | exact gwf rfl | exact gwg rfl | exact gwh rfl | omega) (gg_f (gf_cons rfl (gf_cons rfl (gf_cons rfl (gf_cons rfl gf_nil)))) (ih15 (sI sc15 93 z46.toNatClampNeg z50) z52 hI51 (fr_sI rfl hFc15) (in_w 0 160 i52 rfl) (m_up mm15 (t_add e52 i24 (in_c 1 rfl) rfl) (in_w 1 1 (in_c 1 rfl) rfl))))
  refine g_enter2 (k := 117) (N := 435603) (by first | exact dq1 hd rfl | exact dq0 hd rfl | exact dq2 hd rfl | exact dq3 hd rfl | omega) rfl (Nat.le_of_ble_eq_true rfl) ?_
  refine g_aload_n 1 (gd rfl) rfl rfl ?_
  refine g_getA (q2 := 93) 4 (gd rfl) rfl rfl rfl rfl ?_
  refine g_iconst 0 5 (gd rfl) rfl rfl ?_
  refine g_calls (As := [.ref (A 93), .int (Int32.ofInt 0)]) (r := []) 8 (gd rfl) rfl rfl rfl rfl rfl (Nat.le_of_ble_eq_true rfl) (Nat.zero_le _) (Nat.zero_le _) (k_fillI 93 (by first | exact dq1 hd rfl | exact dq0 hd rfl | exact dq2 hd rfl | exact dq3 hd rfl | omega) hI (in_c 0 rfl) (n := 32) rfl rfl rfl rfl) (fun v u h => ?_)
  obtain ⟨s5, hI5, hF5, rfl, rfl, fl5⟩ := h
  show GG _ _ _ _ _ _ _ _ [] _ _ _
  refine g_aload_n 9 (gd rfl) rfl rfl ?_
  refine g_getA (q2 := 12) 12 (gd rfl) rfl rfl rfl rfl ?_
  refine g_iload_n 13 (gd rfl) rfl rfl ?_
  refine g_iaload 14 (gd rfl) rfl (n := 33) rfl (in_ix h2 rfl) (fun z13 e13 => ?_)
  have i13 := inv_I hI5 (n := 33) (t := 0) 0 160 rfl (in_ix h2 rfl) rfl e13
  refine g_istore_n 15 (gd rfl) rfl (Nat.le_of_ble_eq_true rfl) ?_
  exact gg_w (by first | exact Nat.le_of_ble_eq_true rfl | omega) (gg_f (gf_cons rfl (gf_cons rfl (gf_cons rfl (gf_cons rfl gf_nil)))) (ct15 161 s5 z13 hI5 (fr_tr rfl fr_rf hF5) (in_w 0 160 i13 rfl) (m_in 161 (in_w 0 160 i13 rfl) rfl)))

def fm_117_86_32 : FM := ([93], [], [], [])
/-- GraphHouse$Groups.countLinks -/
theorem k_117_86_32 {Z : AmZ} {A : Nat → Nat} {s : GS} {ex : va_W} {d : Nat} {X : AmX} {x2 : Int32} {u_32_4 : Int32} {u_32_0 : Int32} (hd : 2 ≤ d) (hI : Inv s) (h2 : In x2 0 31) (e_32_4 : u_32_4 = s.2.2.1 32 4) (e_32_0 : u_32_0 = s.2.2.1 32 0) (p_0 : (u_32_4).toInt = (u_32_0).toInt) : GC Z d 117 [.ref (A 86), .ref (A 32), .int x2] (WW Z A s ++ ex) 0 0 (fun v u => ∃ t : GS, Inv t ∧ Fr fm_117_86_32 s t ∧ v = none ∧ u = WW Z A t ++ ex) X := by
  intro post xp hP hX
  have ro_32_4 := inv_F hI (-1) 4000 rfl e_32_4
  have ro_32_0 := inv_F hI 0 4000 rfl e_32_0
  have ct115 : ∀ (k115 : Nat) (sc115 : GS) (y115_3 : Int32), Inv sc115 → Fr fm_117_86_32 s sc115 → (In y115_3 0 160) → 160 - (y115_3).toInt < (k115 : Int) → GG Z (d - 1) 117 post (gx xp) (1 + k115 * 900) 115 (fun j => xlook j [(0, .ref (A 86)), (1, .ref (A 32)), (2, .int x2), (3, .int y115_3)]) [] (WW Z A sc115 ++ ex) 0 0 := by
    intro k115
    induction k115 with
    | zero => intro sc115 y115_3 hIc115 hFc115 j115_3 mm115; exact m_no mm115 j115_3 rfl
    | succ k115 ih115 =>
      intro sc115 y115_3 hIc115 hFc115 j115_3 mm115
      refine gg_w (M := 1 + k115 * 900 + 900) gws ?_
      refine g_iload_n 116 (gd rfl) rfl rfl ?_
      refine g_aload_n 117 (gd rfl) rfl rfl ?_
      refine g_getA (q2 := 42) 120 (gd rfl) rfl rfl rfl rfl ?_
      refine g_iload_n 121 (gd rfl) rfl rfl ?_
      refine g_iconst 1 122 (gd rfl) rfl rfl ?_
      refine g_iadd 123 (gd rfl) rfl (fun z122 e122 => ?_)
      have i122 := in_add 1 32 e122 h2 (in_c 1 rfl) rfl rfl
      refine g_iaload 124 (gd rfl) rfl (n := 33) rfl (in_ix i122 rfl) (fun z123 e123 => ?_)
      have i123 := inv_I hIc115 (n := 33) (t := 0) 0 160 rfl (in_ix i122 rfl) rfl e123
      refine g_cmp_ge 127 163 (gd rfl) rfl rfl (fun c124 => ?_) (fun c124 => ?_)
      · skip
        exact g_return (gd rfl) rfl (hP _ _ ⟨sc115, hIc115, hFc115, rfl, rfl⟩)
      · skip
        have i124 := r_lt1 0 159 c124 j115_3 i123 rfl
        have i124a := r_lt2 1 160 c124 j115_3 i123 rfl
        refine g_aload_n 128 (gd rfl) rfl rfl ?_
        refine g_getA (q2 := 35) 131 (gd rfl) rfl rfl rfl rfl ?_
        refine g_aload_n 132 (gd rfl) rfl rfl ?_
        refine g_getA (q2 := 43) 135 (gd rfl) rfl rfl rfl rfl ?_
        refine g_iload_n 136 (gd rfl) rfl rfl ?_
        refine g_iaload 137 (gd rfl) rfl (n := 160) rfl (in_ix i124 rfl) (fun z136 e136 => ?_)
        have i136 := inv_I hIc115 (n := 160) (t := 0) 0 159 rfl (in_ix i124 rfl) rfl e136
        refine g_iaload 138 (gd rfl) rfl (n := 160) rfl (in_ix i136 rfl) (fun z137 e137 => ?_)
        have i137 := inv_I hIc115 (n := 160) (t := 0) 0 31 rfl (in_ix i136 rfl) rfl e137
        refine g_iload_n 139 (gd rfl) rfl rfl ?_
        refine g_cmp_ne 142 157 (gd rfl) rfl rfl (fun c139 => ?_) (fun c139 => ?_)
        · skip
          refine g_iinc 160 (gd rfl) rfl rfl (Nat.le_of_ble_eq_true rfl) (fun z157 e157 => ?_)
          have i157 := in_add 1 160 e157 i124 (in_c 1 rfl) rfl rfl
          refine g_goto 115 (gd rfl) rfl ?_
          exact gg_w (by first | exact Nat.le_add_right _ _ | exact gw2 | exact gw3 | exact gwe rfl | exact gwf rfl | exact gwg rfl | exact gwh rfl | omega) (gg_f (gf_cons rfl (gf_cons rfl (gf_cons rfl (gf_cons rfl gf_nil)))) (ih115 sc115 z157 hIc115 hFc115 (in_w 0 160 i157 rfl) (m_up mm115 (t_add e157 i124 (in_c 1 rfl) rfl) (in_w 1 1 (in_c 1 rfl) rfl))))
        · skip
          refine g_aload_n 143 (gd rfl) rfl rfl ?_
          refine g_getA (q2 := 93) 146 (gd rfl) rfl rfl rfl rfl ?_
          refine g_aload_n 147 (gd rfl) rfl rfl ?_
          refine g_getA (q2 := 89) 150 (gd rfl) rfl rfl rfl rfl ?_
          refine g_iload_n 151 (gd rfl) rfl rfl ?_
          refine g_iaload 152 (gd rfl) rfl (n := 32) rfl (in_ix h2 rfl) (fun z151 e151 => ?_)
          have i151 := inv_I hIc115 (n := 32) (t := 0) 0 31 rfl (in_ix h2 rfl) rfl e151
          refine g_dup2 153 (gd rfl) rfl rfl rfl ?_
          refine g_iaload 154 (gd rfl) rfl (n := 32) rfl (in_ix i151 rfl) (fun z153 e153 => ?_)
          refine g_iconst 2 155 (gd rfl) rfl rfl ?_
          refine g_isub 156 (gd rfl) rfl (fun z155 e155 => ?_)
          refine g_iastore 157 (gd rfl) rfl (n := 32) rfl (in_ix i151 rfl) ?_
          have hI156 := inv_sI (q := 93) (j := z151.toNatClampNeg) hIc115 rfl (in_w (-2147483648) 2147483647 (i_rng z155) rfl)
          refine g_iinc 160 (gd rfl) rfl rfl (Nat.le_of_ble_eq_true rfl) (fun z157 e157 => ?_)
          have i157 := in_add 1 160 e157 i124 (in_c 1 rfl) rfl rfl
          refine g_goto 115 (gd rfl) rfl ?_
          exact gg_w (by first | exact Nat.le_add_right _ _ | exact gw2 | exact gw3 | exact gwe rfl | exact gwf rfl | exact gwg rfl | exact gwh rfl | omega) (gg_f (gf_cons rfl (gf_cons rfl (gf_cons rfl (gf_cons rfl gf_nil)))) (ih115 (sI sc115 93 z151.toNatClampNeg z155) z157 hI156 (fr_sI rfl hFc115) (in_w 0 160 i157 rfl) (m_up mm115 (t_add e157 i124 (in_c 1 rfl) rfl) (in_w 1 1 (in_c 1 rfl) rfl))))
  have ct65 : ∀ (k65 : Nat) (sc65 : GS) (y65_3 : Int32), Inv sc65 → Fr fm_117_86_32 s sc65 → (In y65_3 0 160) → 160 - (y65_3).toInt < (k65 : Int) → GG Z (d - 1) 117 post (gx xp) (144902 + k65 * 900) 65 (fun j => xlook j [(0, .ref (A 86)), (1, .ref (A 32)), (2, .int x2), (3, .int y65_3)]) [] (WW Z A sc65 ++ ex) 0 0 := by
    intro k65
    induction k65 with
    | zero => intro sc65 y65_3 hIc65 hFc65 j65_3 mm65; exact m_no mm65 j65_3 rfl
    | succ k65 ih65 =>
      intro sc65 y65_3 hIc65 hFc65 j65_3 mm65
      refine gg_w (M := 144902 + k65 * 900 + 900) gws ?_
      refine g_iload_n 66 (gd rfl) rfl rfl ?_
      refine g_aload_n 67 (gd rfl) rfl rfl ?_
      refine g_getA (q2 := 44) 70 (gd rfl) rfl rfl rfl rfl ?_
      refine g_iload_n 71 (gd rfl) rfl rfl ?_
      refine g_iconst 1 72 (gd rfl) rfl rfl ?_
      refine g_iadd 73 (gd rfl) rfl (fun z72 e72 => ?_)
      have i72 := in_add 1 32 e72 h2 (in_c 1 rfl) rfl rfl
      refine g_iaload 74 (gd rfl) rfl (n := 33) rfl (in_ix i72 rfl) (fun z73 e73 => ?_)
      have i73 := inv_I hIc65 (n := 33) (t := 0) 0 160 rfl (in_ix i72 rfl) rfl e73
      refine g_cmp_ge 77 108 (gd rfl) rfl rfl (fun c74 => ?_) (fun c74 => ?_)
      · skip
        refine g_aload_n 109 (gd rfl) rfl rfl ?_
        refine g_getA (q2 := 42) 112 (gd rfl) rfl rfl rfl rfl ?_
        refine g_iload_n 113 (gd rfl) rfl rfl ?_
        refine g_iaload 114 (gd rfl) rfl (n := 33) rfl (in_ix h2 rfl) (fun z113 e113 => ?_)
        have i113 := inv_I hIc65 (n := 33) (t := 0) 0 160 rfl (in_ix h2 rfl) rfl e113
        refine g_istore_n 115 (gd rfl) rfl (Nat.le_of_ble_eq_true rfl) ?_
        exact gg_w (by first | exact Nat.le_add_right _ _ | exact gw2 | exact gw3 | exact gwe rfl | exact gwf rfl | exact gwg rfl | exact gwh rfl | omega) (gg_f (gf_cons rfl (gf_cons rfl (gf_cons rfl (gf_cons rfl gf_nil)))) (ct115 161 sc65 z113 hIc65 hFc65 (in_w 0 160 i113 rfl) (m_in 161 (in_w 0 160 i113 rfl) rfl)))
      · skip
        have i74 := r_lt1 0 159 c74 j65_3 i73 rfl
        have i74a := r_lt2 1 160 c74 j65_3 i73 rfl
        refine g_aload_n 78 (gd rfl) rfl rfl ?_
        refine g_getA (q2 := 93) 81 (gd rfl) rfl rfl rfl rfl ?_
        refine g_aload_n 82 (gd rfl) rfl rfl ?_
        refine g_getA (q2 := 89) 85 (gd rfl) rfl rfl rfl rfl ?_
        refine g_aload_n 86 (gd rfl) rfl rfl ?_
        refine g_getA (q2 := 34) 89 (gd rfl) rfl rfl rfl rfl ?_
        refine g_aload_n 90 (gd rfl) rfl rfl ?_
        refine g_getA (q2 := 45) 93 (gd rfl) rfl rfl rfl rfl ?_
        refine g_iload_n 94 (gd rfl) rfl rfl ?_
        refine g_iaload 95 (gd rfl) rfl (n := 160) rfl (in_ix i74 rfl) (fun z94 e94 => ?_)
        have i94 := inv_I hIc65 (n := 160) (t := 0) 0 159 rfl (in_ix i74 rfl) rfl e94
        refine g_iaload 96 (gd rfl) rfl (n := 160) rfl (in_ix i94 rfl) (fun z95 e95 => ?_)
        have i95 := inv_I hIc65 (n := 160) (t := 0) (-1) 31 rfl (in_ix i94 rfl) rfl e95
        have i96 : In z95 0 31 := by exact tg_b (b := 32) hIc65.2.2.1 rfl rfl rfl rfl rfl (by rw [← (show u_32_4 = sc65.2.2.1 32 4 from fr_F e_32_4 hFc65 rfl), ← (show u_32_0 = sc65.2.2.1 32 0 from fr_F e_32_0 hFc65 rfl)]; exact p_0) e73 i72 i74 c74 e94 e95 i95
        refine g_iaload 97 (gd rfl) rfl (n := 32) rfl (in_ix i96 rfl) (fun z96 e96 => ?_)
        have i96a := inv_I hIc65 (n := 32) (t := 0) 0 31 rfl (in_ix i96 rfl) rfl e96
        refine g_dup2 98 (gd rfl) rfl rfl rfl ?_
        refine g_iaload 99 (gd rfl) rfl (n := 32) rfl (in_ix i96a rfl) (fun z98 e98 => ?_)
        refine g_iconst 1 100 (gd rfl) rfl rfl ?_
        refine g_iadd 101 (gd rfl) rfl (fun z100 e100 => ?_)
        refine g_iastore 102 (gd rfl) rfl (n := 32) rfl (in_ix i96a rfl) ?_
        have hI101 := inv_sI (q := 93) (j := z96.toNatClampNeg) hIc65 rfl (in_w (-2147483648) 2147483647 (i_rng z100) rfl)
        refine g_iinc 105 (gd rfl) rfl rfl (Nat.le_of_ble_eq_true rfl) (fun z102 e102 => ?_)
        have i102 := in_add 1 160 e102 i74 (in_c 1 rfl) rfl rfl
        refine g_goto 65 (gd rfl) rfl ?_
        exact gg_w (by first | exact Nat.le_add_right _ _ | exact gw2 | exact gw3 | exact gwe rfl | exact gwf rfl | exact gwg rfl | exact gwh rfl | omega) (gg_f (gf_cons rfl (gf_cons rfl (gf_cons rfl (gf_cons rfl gf_nil)))) (ih65 (sI sc65 93 z96.toNatClampNeg z100) z102 hI101 (fr_sI rfl hFc65) (in_w 0 160 i102 rfl) (m_up mm65 (t_add e102 i74 (in_c 1 rfl) rfl) (in_w 1 1 (in_c 1 rfl) rfl))))
  have ct15 : ∀ (k15 : Nat) (sc15 : GS) (y15_3 : Int32), Inv sc15 → Fr fm_117_86_32 s sc15 → (In y15_3 0 160) → 160 - (y15_3).toInt < (k15 : Int) → GG Z (d - 1) 117 post (gx xp) (289803 + k15 * 900) 15 (fun j => xlook j [(0, .ref (A 86)), (1, .ref (A 32)), (2, .int x2), (3, .int y15_3)]) [] (WW Z A sc15 ++ ex) 0 0 := by
    intro k15
    induction k15 with
    | zero => intro sc15 y15_3 hIc15 hFc15 j15_3 mm15; exact m_no mm15 j15_3 rfl
    | succ k15 ih15 =>
      intro sc15 y15_3 hIc15 hFc15 j15_3 mm15
      refine gg_w (M := 289803 + k15 * 900 + 900) gws ?_
      refine g_iload_n 16 (gd rfl) rfl rfl ?_
      refine g_aload_n 17 (gd rfl) rfl rfl ?_
      refine g_getA (q2 := 42) 20 (gd rfl) rfl rfl rfl rfl ?_
      refine g_iload_n 21 (gd rfl) rfl rfl ?_
      refine g_iconst 1 22 (gd rfl) rfl rfl ?_
      refine g_iadd 23 (gd rfl) rfl (fun z22 e22 => ?_)
      have i22 := in_add 1 32 e22 h2 (in_c 1 rfl) rfl rfl
      refine g_iaload 24 (gd rfl) rfl (n := 33) rfl (in_ix i22 rfl) (fun z23 e23 => ?_)
      have i23 := inv_I hIc15 (n := 33) (t := 0) 0 160 rfl (in_ix i22 rfl) rfl e23
      refine g_cmp_ge 27 58 (gd rfl) rfl rfl (fun c24 => ?_) (fun c24 => ?_)
      · skip
        refine g_aload_n 59 (gd rfl) rfl rfl ?_
        refine g_getA (q2 := 44) 62 (gd rfl) rfl rfl rfl rfl ?_
        refine g_iload_n 63 (gd rfl) rfl rfl ?_
        refine g_iaload 64 (gd rfl) rfl (n := 33) rfl (in_ix h2 rfl) (fun z63 e63 => ?_)
        have i63 := inv_I hIc15 (n := 33) (t := 0) 0 160 rfl (in_ix h2 rfl) rfl e63
        refine g_istore_n 65 (gd rfl) rfl (Nat.le_of_ble_eq_true rfl) ?_
        exact gg_w (by first | exact Nat.le_add_right _ _ | exact gw2 | exact gw3 | exact gwe rfl | exact gwf rfl | exact gwg rfl | exact gwh rfl | omega) (gg_f (gf_cons rfl (gf_cons rfl (gf_cons rfl (gf_cons rfl gf_nil)))) (ct65 161 sc15 z63 hIc15 hFc15 (in_w 0 160 i63 rfl) (m_in 161 (in_w 0 160 i63 rfl) rfl)))
      · skip
        have i24 := r_lt1 0 159 c24 j15_3 i23 rfl
        have i24a := r_lt2 1 160 c24 j15_3 i23 rfl
        refine g_aload_n 28 (gd rfl) rfl rfl ?_
        refine g_getA (q2 := 93) 31 (gd rfl) rfl rfl rfl rfl ?_
        refine g_aload_n 32 (gd rfl) rfl rfl ?_
        refine g_getA (q2 := 89) 35 (gd rfl) rfl rfl rfl rfl ?_
        refine g_aload_n 36 (gd rfl) rfl rfl ?_
        refine g_getA (q2 := 35) 39 (gd rfl) rfl rfl rfl rfl ?_
        refine g_aload_n 40 (gd rfl) rfl rfl ?_
        refine g_getA (q2 := 43) 43 (gd rfl) rfl rfl rfl rfl ?_
        refine g_iload_n 44 (gd rfl) rfl rfl ?_
        refine g_iaload 45 (gd rfl) rfl (n := 160) rfl (in_ix i24 rfl) (fun z44 e44 => ?_)
        have i44 := inv_I hIc15 (n := 160) (t := 0) 0 159 rfl (in_ix i24 rfl) rfl e44
        refine g_iaload 46 (gd rfl) rfl (n := 160) rfl (in_ix i44 rfl) (fun z45 e45 => ?_)
        have i45 := inv_I hIc15 (n := 160) (t := 0) 0 31 rfl (in_ix i44 rfl) rfl e45
        refine g_iaload 47 (gd rfl) rfl (n := 32) rfl (in_ix i45 rfl) (fun z46 e46 => ?_)
        have i46 := inv_I hIc15 (n := 32) (t := 0) 0 31 rfl (in_ix i45 rfl) rfl e46
        refine g_dup2 48 (gd rfl) rfl rfl rfl ?_
        refine g_iaload 49 (gd rfl) rfl (n := 32) rfl (in_ix i46 rfl) (fun z48 e48 => ?_)
        refine g_iconst 1 50 (gd rfl) rfl rfl ?_
        refine g_iadd 51 (gd rfl) rfl (fun z50 e50 => ?_)
        refine g_iastore 52 (gd rfl) rfl (n := 32) rfl (in_ix i46 rfl) ?_
        have hI51 := inv_sI (q := 93) (j := z46.toNatClampNeg) hIc15 rfl (in_w (-2147483648) 2147483647 (i_rng z50) rfl)
        refine g_iinc 55 (gd rfl) rfl rfl (Nat.le_of_ble_eq_true rfl) (fun z52 e52 => ?_)
        have i52 := in_add 1 160 e52 i24 (in_c 1 rfl) rfl rfl
        refine g_goto 15 (gd rfl) rfl ?_
        exact gg_w (by first | exact Nat.le_add_right _ _ | exact gw2 | exact gw3 | exact gwe rfl | exact gwf rfl | exact gwg rfl | exact gwh rfl | omega) (gg_f (gf_cons rfl (gf_cons rfl (gf_cons rfl (gf_cons rfl gf_nil)))) (ih15 (sI sc15 93 z46.toNatClampNeg z50) z52 hI51 (fr_sI rfl hFc15) (in_w 0 160 i52 rfl) (m_up mm15 (t_add e52 i24 (in_c 1 rfl) rfl) (in_w 1 1 (in_c 1 rfl) rfl))))
  refine g_enter2 (k := 117) (N := 435603) (by first | exact dq1 hd rfl | exact dq0 hd rfl | exact dq2 hd rfl | exact dq3 hd rfl | omega) rfl (Nat.le_of_ble_eq_true rfl) ?_
  refine g_aload_n 1 (gd rfl) rfl rfl ?_
  refine g_getA (q2 := 93) 4 (gd rfl) rfl rfl rfl rfl ?_
  refine g_iconst 0 5 (gd rfl) rfl rfl ?_
  refine g_calls (As := [.ref (A 93), .int (Int32.ofInt 0)]) (r := []) 8 (gd rfl) rfl rfl rfl rfl rfl (Nat.le_of_ble_eq_true rfl) (Nat.zero_le _) (Nat.zero_le _) (k_fillI 93 (by first | exact dq1 hd rfl | exact dq0 hd rfl | exact dq2 hd rfl | exact dq3 hd rfl | omega) hI (in_c 0 rfl) (n := 32) rfl rfl rfl rfl) (fun v u h => ?_)
  obtain ⟨s5, hI5, hF5, rfl, rfl, fl5⟩ := h
  show GG _ _ _ _ _ _ _ _ [] _ _ _
  refine g_aload_n 9 (gd rfl) rfl rfl ?_
  refine g_getA (q2 := 42) 12 (gd rfl) rfl rfl rfl rfl ?_
  refine g_iload_n 13 (gd rfl) rfl rfl ?_
  refine g_iaload 14 (gd rfl) rfl (n := 33) rfl (in_ix h2 rfl) (fun z13 e13 => ?_)
  have i13 := inv_I hI5 (n := 33) (t := 0) 0 160 rfl (in_ix h2 rfl) rfl e13
  refine g_istore_n 15 (gd rfl) rfl (Nat.le_of_ble_eq_true rfl) ?_
  exact gg_w (by first | exact Nat.le_of_ble_eq_true rfl | omega) (gg_f (gf_cons rfl (gf_cons rfl (gf_cons rfl (gf_cons rfl gf_nil)))) (ct15 161 s5 z13 hI5 (fr_tr rfl fr_rf hF5) (in_w 0 160 i13 rfl) (m_in 161 (in_w 0 160 i13 rfl) rfl)))

/-- GraphHouse$Groups.score -/
theorem k_118_86 {Z : AmZ} {A : Nat → Nat} {s : GS} {ex : va_W} {d : Nat} {X : AmX} {x1 : Int32} {x2 : Int32} (hd : 1 ≤ d) (hI : Inv s) (h1 : In x1 0 31) (h2 : In x2 0 31) : GC Z d 118 [.ref (A 86), .int x1, .int x2] (WW Z A s ++ ex) 0 0 (fun v u => ∃ z : Int64, v = some (.long z) ∧ u = WW Z A s ++ ex) X := by
  intro post xp hP hX
  obtain ⟨u_86_5, e_86_5⟩ : ∃ w, w = s.2.2.1 86 5 := ⟨_, rfl⟩
  have ro_86_5 := inv_F hI 0 160 rfl e_86_5
  refine g_enter2 (k := 118) (N := 900) (by first | exact dq1 hd rfl | exact dq0 hd rfl | exact dq2 hd rfl | exact dq3 hd rfl | omega) rfl (Nat.le_of_ble_eq_true rfl) ?_
  refine g_aload_n 1 (gd rfl) rfl rfl ?_
  refine g_getA (q2 := 89) 4 (gd rfl) rfl rfl rfl rfl ?_
  refine g_iload_n 5 (gd rfl) rfl rfl ?_
  refine g_iaload 6 (gd rfl) rfl (n := 32) rfl (in_ix h1 rfl) (fun z5 e5 => ?_)
  have i5 := inv_I hI (n := 32) (t := 0) 0 31 rfl (in_ix h1 rfl) rfl e5
  refine g_iload_n 7 (gd rfl) rfl rfl ?_
  refine g_cmp_ne 10 26 (gd rfl) rfl rfl (fun c7 => ?_) (fun c7 => ?_)
  · skip
    refine g_aload_n 27 (gd rfl) rfl rfl ?_
    refine g_getA (q2 := 92) 30 (gd rfl) rfl rfl rfl rfl ?_
    refine g_iload_n 31 (gd rfl) rfl rfl ?_
    refine g_iaload 32 (gd rfl) rfl (n := 32) rfl (in_ix h2 rfl) (fun z31 e31 => ?_)
    refine g_istore_n 33 (gd rfl) rfl (Nat.le_of_ble_eq_true rfl) ?_
    refine g_ldc2_w 2 36 (gd rfl) rfl rfl ?_
    refine g_aload_n 37 (gd rfl) rfl rfl ?_
    refine g_getI 40 (gd rfl) rfl rfl rfl (fun z37 e37 => ?_)
    have q37 : u_86_5 = z37 := (e_86_5).trans e37.symm
    subst q37
    refine g_i2l 41 (gd rfl) rfl (fun z40 e40 => ?_)
    have i40 := l_i e40 ro_86_5
    refine g_lmul 42 (gd rfl) rfl (fun z41 e41 => ?_)
    have i41 := l_mulc 2 0 320 (Or.inl e41) i40 rfl
    refine g_aload_n 43 (gd rfl) rfl rfl ?_
    refine g_getA (q2 := 93) 46 (gd rfl) rfl rfl rfl rfl ?_
    refine g_iload_n 47 (gd rfl) rfl rfl ?_
    refine g_iaload 48 (gd rfl) rfl (n := 32) rfl (in_ix h2 rfl) (fun z47 e47 => ?_)
    refine g_i2l 49 (gd rfl) rfl (fun z48 e48 => ?_)
    have i48 := l_i e48 (i_rng z47)
    refine g_lmul 50 (gd rfl) rfl (fun z49 e49 => ?_)
    refine g_aload_n 51 (gd rfl) rfl rfl ?_
    refine g_getA (q2 := 91) 54 (gd rfl) rfl rfl rfl rfl ?_
    refine g_iload_n 55 (gd rfl) rfl rfl ?_
    refine g_iaload 56 (gd rfl) rfl (n := 32) rfl (in_ix h1 rfl) (fun z55 e55 => ?_)
    refine g_i2l 57 (gd rfl) rfl (fun z56 e56 => ?_)
    have i56 := l_i e56 (i_rng z55)
    refine g_iload_n 58 (gd rfl) rfl rfl ?_
    refine g_i2l 59 (gd rfl) rfl (fun z58 e58 => ?_)
    have i58 := l_i e58 (i_rng z31)
    refine g_lmul 60 (gd rfl) rfl (fun z59 e59 => ?_)
    refine g_lsub 61 (gd rfl) rfl (fun z60 e60 => ?_)
    exact g_lreturn (gd rfl) rfl (hP _ _ ⟨z60, rfl, rfl⟩)
  · skip
    refine g_aload_n 11 (gd rfl) rfl rfl ?_
    refine g_getA (q2 := 92) 14 (gd rfl) rfl rfl rfl rfl ?_
    refine g_iload_n 15 (gd rfl) rfl rfl ?_
    refine g_iaload 16 (gd rfl) rfl (n := 32) rfl (in_ix h2 rfl) (fun z15 e15 => ?_)
    refine g_aload_n 17 (gd rfl) rfl rfl ?_
    refine g_getA (q2 := 91) 20 (gd rfl) rfl rfl rfl rfl ?_
    refine g_iload_n 21 (gd rfl) rfl rfl ?_
    refine g_iaload 22 (gd rfl) rfl (n := 32) rfl (in_ix h1 rfl) (fun z21 e21 => ?_)
    refine g_isub 23 (gd rfl) rfl (fun z22 e22 => ?_)
    refine g_goto 32 (gd rfl) rfl ?_
    refine g_istore_n 33 (gd rfl) rfl (Nat.le_of_ble_eq_true rfl) ?_
    refine g_ldc2_w 2 36 (gd rfl) rfl rfl ?_
    refine g_aload_n 37 (gd rfl) rfl rfl ?_
    refine g_getI 40 (gd rfl) rfl rfl rfl (fun z37 e37 => ?_)
    have q37 : u_86_5 = z37 := (e_86_5).trans e37.symm
    subst q37
    refine g_i2l 41 (gd rfl) rfl (fun z40 e40 => ?_)
    have i40 := l_i e40 ro_86_5
    refine g_lmul 42 (gd rfl) rfl (fun z41 e41 => ?_)
    have i41 := l_mulc 2 0 320 (Or.inl e41) i40 rfl
    refine g_aload_n 43 (gd rfl) rfl rfl ?_
    refine g_getA (q2 := 93) 46 (gd rfl) rfl rfl rfl rfl ?_
    refine g_iload_n 47 (gd rfl) rfl rfl ?_
    refine g_iaload 48 (gd rfl) rfl (n := 32) rfl (in_ix h2 rfl) (fun z47 e47 => ?_)
    refine g_i2l 49 (gd rfl) rfl (fun z48 e48 => ?_)
    have i48 := l_i e48 (i_rng z47)
    refine g_lmul 50 (gd rfl) rfl (fun z49 e49 => ?_)
    refine g_aload_n 51 (gd rfl) rfl rfl ?_
    refine g_getA (q2 := 91) 54 (gd rfl) rfl rfl rfl rfl ?_
    refine g_iload_n 55 (gd rfl) rfl rfl ?_
    refine g_iaload 56 (gd rfl) rfl (n := 32) rfl (in_ix h1 rfl) (fun z55 e55 => ?_)
    have q55 : z21 = z55 := (e21).trans e55.symm
    subst q55
    refine g_i2l 57 (gd rfl) rfl (fun z56 e56 => ?_)
    have i56 := l_i e56 (i_rng z21)
    refine g_iload_n 58 (gd rfl) rfl rfl ?_
    refine g_i2l 59 (gd rfl) rfl (fun z58 e58 => ?_)
    have i58 := l_i e58 (i_rng z22)
    refine g_lmul 60 (gd rfl) rfl (fun z59 e59 => ?_)
    refine g_lsub 61 (gd rfl) rfl (fun z60 e60 => ?_)
    exact g_lreturn (gd rfl) rfl (hP _ _ ⟨z60, rfl, rfl⟩)

/-- GraphHouse$Groups.freeGroup -/
theorem k_119_86 {Z : AmZ} {A : Nat → Nat} {s : GS} {ex : va_W} {d : Nat} {X : AmX}  (hd : 1 ≤ d) (hI : Inv s)  : GC Z d 119 [.ref (A 86)] (WW Z A s ++ ex) 0 0 (fun v u => ∃ z : Int32, v = some (.int z) ∧ u = WW Z A s ++ ex ∧ In z (-1) 31) X := by
  intro post xp hP hX
  have ct2 : ∀ (k2 : Nat) (y2_1 : Int32), (In y2_1 0 32) → 32 - (y2_1).toInt < (k2 : Int) → GG Z (d - 1) 119 post (gx xp) (1 + k2 * 900) 2 (fun j => xlook j [(0, .ref (A 86)), (1, .int y2_1)]) [] (WW Z A s ++ ex) 0 0 := by
    intro k2
    induction k2 with
    | zero => intro y2_1 j2_1 mm2; exact m_no mm2 j2_1 rfl
    | succ k2 ih2 =>
      intro y2_1 j2_1 mm2
      refine gg_w (M := 1 + k2 * 900 + 900) gws ?_
      refine g_iload_n 3 (gd rfl) rfl rfl ?_
      refine g_bipush 32 5 (gd rfl) rfl rfl ?_
      refine g_cmp_ge 8 25 (gd rfl) rfl rfl (fun c5 => ?_) (fun c5 => ?_)
      · skip
        have i5 := r_le2 32 32 c5 (in_c 32 rfl) j2_1 rfl
        refine g_iconst (-1) 26 (gd rfl) rfl rfl ?_
        exact g_ireturn (gd rfl) rfl rfl (hP _ _ ⟨(Int32.ofInt (-1)), rfl, rfl, in_w (-1) 31 (in_c (-1) rfl) rfl⟩)
      · skip
        have i5 := r_lt1 0 31 c5 j2_1 (in_c 32 rfl) rfl
        refine g_aload_n 9 (gd rfl) rfl rfl ?_
        refine g_getA (q2 := 90) 12 (gd rfl) rfl rfl rfl rfl ?_
        refine g_iload_n 13 (gd rfl) rfl rfl ?_
        refine g_iaload 14 (gd rfl) rfl (n := 32) rfl (in_ix i5 rfl) (fun z13 e13 => ?_)
        refine g_if_ne 17 19 (gd rfl) rfl rfl (fun c14 => ?_) (fun c14 => ?_)
        · skip
          refine g_iinc 22 (gd rfl) rfl rfl (Nat.le_of_ble_eq_true rfl) (fun z19 e19 => ?_)
          have i19 := in_add 1 32 e19 i5 (in_c 1 rfl) rfl rfl
          refine g_goto 2 (gd rfl) rfl ?_
          exact gg_w (by first | exact Nat.le_add_right _ _ | exact gw2 | exact gw3 | exact gwe rfl | exact gwf rfl | exact gwg rfl | exact gwh rfl | omega) (gg_f (gf_cons rfl (gf_cons rfl gf_nil)) (ih2  z19  (in_w 0 32 i19 rfl) (m_up mm2 (t_add e19 i5 (in_c 1 rfl) rfl) (in_w 1 1 (in_c 1 rfl) rfl))))
        · skip
          have i14 := z_eq 0 0 c14 (i_rng z13) rfl
          refine g_iload_n 18 (gd rfl) rfl rfl ?_
          exact g_ireturn (gd rfl) rfl rfl (hP _ _ ⟨y2_1, rfl, rfl, in_w (-1) 31 i5 rfl⟩)
  refine g_enter2 (k := 119) (N := 30601) (by first | exact dq1 hd rfl | exact dq0 hd rfl | exact dq2 hd rfl | exact dq3 hd rfl | omega) rfl (Nat.le_of_ble_eq_true rfl) ?_
  refine g_iconst 0 1 (gd rfl) rfl rfl ?_
  refine g_istore_n 2 (gd rfl) rfl (Nat.le_of_ble_eq_true rfl) ?_
  exact gg_w (by first | exact Nat.le_of_ble_eq_true rfl | omega) (gg_f (gf_cons rfl (gf_cons rfl gf_nil)) (ct2 33  (Int32.ofInt 0)  (in_w 0 32 (in_c 0 rfl) rfl) (m_in 33 (in_w 0 32 (in_c 0 rfl) rfl) rfl)))

def fm_120_86 : FM := ([89, 90, 92], [], [], [])
/-- GraphHouse$Groups.moveTo -/
theorem k_120_86 {Z : AmZ} {A : Nat → Nat} {s : GS} {ex : va_W} {d : Nat} {X : AmX} {x1 : Int32} {x2 : Int32} (hd : 1 ≤ d) (hI : Inv s) (h1 : In x1 0 31) (h2 : In x2 (-1) 31) : GC Z d 120 [.ref (A 86), .int x1, .int x2] (WW Z A s ++ ex) 0 0 (fun v u => ∃ t : GS, Inv t ∧ Fr fm_120_86 s t ∧ ∃ z : Int32, v = some (.int z) ∧ u = WW Z A t ++ ex ∧ In z 0 1) X := by
  intro post xp hP hX
  refine g_enter2 (k := 120) (N := 900) (by first | exact dq1 hd rfl | exact dq0 hd rfl | exact dq2 hd rfl | exact dq3 hd rfl | omega) rfl (Nat.le_of_ble_eq_true rfl) ?_
  refine g_iload_n 1 (gd rfl) rfl rfl ?_
  refine g_iconst (-1) 2 (gd rfl) rfl rfl ?_
  refine g_cmp_ne 5 7 (gd rfl) rfl rfl (fun c2 => ?_) (fun c2 => ?_)
  · skip
    have i2 := r_ne1 0 31 c2 h2 (in_c (-1) rfl) rfl
    refine g_aload_n 8 (gd rfl) rfl rfl ?_
    refine g_getA (q2 := 89) 11 (gd rfl) rfl rfl rfl rfl ?_
    refine g_iload_n 12 (gd rfl) rfl rfl ?_
    refine g_iaload 13 (gd rfl) rfl (n := 32) rfl (in_ix h1 rfl) (fun z12 e12 => ?_)
    have i12 := inv_I hI (n := 32) (t := 0) 0 31 rfl (in_ix h1 rfl) rfl e12
    refine g_istore_n 14 (gd rfl) rfl (Nat.le_of_ble_eq_true rfl) ?_
    refine g_aload_n 15 (gd rfl) rfl rfl ?_
    refine g_getA (q2 := 90) 18 (gd rfl) rfl rfl rfl rfl ?_
    refine g_iload_n 19 (gd rfl) rfl rfl ?_
    refine g_dup2 20 (gd rfl) rfl rfl rfl ?_
    refine g_iaload 21 (gd rfl) rfl (n := 32) rfl (in_ix i12 rfl) (fun z20 e20 => ?_)
    refine g_iconst 1 22 (gd rfl) rfl rfl ?_
    refine g_iload_n 23 (gd rfl) rfl rfl ?_
    refine g_ishl 24 (gd rfl) rfl (fun z23 e23 => ?_)
    refine g_iconst (-1) 25 (gd rfl) rfl rfl ?_
    refine g_ixor 26 (gd rfl) rfl (fun z25 e25 => ?_)
    refine g_iand 27 (gd rfl) rfl (fun z26 e26 => ?_)
    refine g_iastore 28 (gd rfl) rfl (n := 32) rfl (in_ix i12 rfl) ?_
    have hI27 := inv_sI (q := 90) (j := z12.toNatClampNeg) hI rfl (in_w (-2147483648) 2147483647 (i_rng z26) rfl)
    refine g_aload_n 29 (gd rfl) rfl rfl ?_
    refine g_getA (q2 := 92) 32 (gd rfl) rfl rfl rfl rfl ?_
    refine g_iload_n 33 (gd rfl) rfl rfl ?_
    refine g_dup2 34 (gd rfl) rfl rfl rfl ?_
    refine g_iaload 35 (gd rfl) rfl (n := 32) rfl (in_ix i12 rfl) (fun z34 e34 => ?_)
    refine g_aload_n 36 (gd rfl) rfl rfl ?_
    refine g_getA (q2 := 91) 39 (gd rfl) rfl rfl rfl rfl ?_
    refine g_iload_n 40 (gd rfl) rfl rfl ?_
    refine g_iaload 41 (gd rfl) rfl (n := 32) rfl (in_ix h1 rfl) (fun z40 e40 => ?_)
    refine g_isub 42 (gd rfl) rfl (fun z41 e41 => ?_)
    refine g_iastore 43 (gd rfl) rfl (n := 32) rfl (in_ix i12 rfl) ?_
    have hI42 := inv_sI (q := 92) (j := z12.toNatClampNeg) hI27 rfl (in_w (-2147483648) 2147483647 (i_rng z41) rfl)
    refine g_aload_n 44 (gd rfl) rfl rfl ?_
    refine g_getA (q2 := 92) 47 (gd rfl) rfl rfl rfl rfl ?_
    refine g_iload_n 48 (gd rfl) rfl rfl ?_
    refine g_aload_n 49 (gd rfl) rfl rfl ?_
    refine g_getA (q2 := 90) 52 (gd rfl) rfl rfl rfl rfl ?_
    refine g_iload_n 53 (gd rfl) rfl rfl ?_
    refine g_iaload 54 (gd rfl) rfl (n := 32) rfl (in_ix i2 rfl) (fun z53 e53 => ?_)
    refine g_if_ne 57 66 (gd rfl) rfl rfl (fun c54 => ?_) (fun c54 => ?_)
    · skip
      refine g_aload_n 67 (gd rfl) rfl rfl ?_
      refine g_getA (q2 := 92) 70 (gd rfl) rfl rfl rfl rfl ?_
      refine g_iload_n 71 (gd rfl) rfl rfl ?_
      refine g_iaload 72 (gd rfl) rfl (n := 32) rfl (in_ix i2 rfl) (fun z71 e71 => ?_)
      refine g_aload_n 73 (gd rfl) rfl rfl ?_
      refine g_getA (q2 := 91) 76 (gd rfl) rfl rfl rfl rfl ?_
      refine g_iload_n 77 (gd rfl) rfl rfl ?_
      refine g_iaload 78 (gd rfl) rfl (n := 32) rfl (in_ix h1 rfl) (fun z77 e77 => ?_)
      have q77 : z40 = z77 := (sI_ne rfl (e40)).trans e77.symm
      subst q77
      refine g_iadd 79 (gd rfl) rfl (fun z78 e78 => ?_)
      refine g_iastore 80 (gd rfl) rfl (n := 32) rfl (in_ix i2 rfl) ?_
      have hI79 := inv_sI (q := 92) (j := x2.toNatClampNeg) hI42 rfl (in_w (-2147483648) 2147483647 (i_rng z78) rfl)
      refine g_aload_n 81 (gd rfl) rfl rfl ?_
      refine g_getA (q2 := 90) 84 (gd rfl) rfl rfl rfl rfl ?_
      refine g_iload_n 85 (gd rfl) rfl rfl ?_
      refine g_dup2 86 (gd rfl) rfl rfl rfl ?_
      refine g_iaload 87 (gd rfl) rfl (n := 32) rfl (in_ix i2 rfl) (fun z86 e86 => ?_)
      have q86 : z53 = z86 := (sI_ne rfl (e53)).trans e86.symm
      subst q86
      refine g_iconst 1 88 (gd rfl) rfl rfl ?_
      refine g_iload_n 89 (gd rfl) rfl rfl ?_
      refine g_ishl 90 (gd rfl) rfl (fun z89 e89 => ?_)
      refine g_ior 91 (gd rfl) rfl (fun z90 e90 => ?_)
      refine g_iastore 92 (gd rfl) rfl (n := 32) rfl (in_ix i2 rfl) ?_
      have hI91 := inv_sI (q := 90) (j := x2.toNatClampNeg) hI79 rfl (in_w (-2147483648) 2147483647 (i_rng z90) rfl)
      refine g_aload_n 93 (gd rfl) rfl rfl ?_
      refine g_getA (q2 := 89) 96 (gd rfl) rfl rfl rfl rfl ?_
      refine g_iload_n 97 (gd rfl) rfl rfl ?_
      refine g_iload_n 98 (gd rfl) rfl rfl ?_
      refine g_iastore 99 (gd rfl) rfl (n := 32) rfl (in_ix h1 rfl) ?_
      have hI98 := inv_sI (q := 89) (j := x1.toNatClampNeg) hI91 rfl (in_w 0 31 i2 rfl)
      refine g_iconst 1 100 (gd rfl) rfl rfl ?_
      exact g_ireturn (gd rfl) rfl (nb01 (in_w 0 1 (in_c 1 rfl) rfl)) (hP _ _ ⟨(sI (sI (sI (sI (sI s 90 z12.toNatClampNeg z26) 92 z12.toNatClampNeg z41) 92 x2.toNatClampNeg z78) 90 x2.toNatClampNeg z90) 89 x1.toNatClampNeg x2), hI98, (fr_sI rfl (fr_sI rfl (fr_sI rfl (fr_sI rfl (fr_sI rfl fr_rf))))), (Int32.ofInt 1), rfl, rfl, in_w 0 1 (in_c 1 rfl) rfl⟩)
    · skip
      have i54 := z_eq 0 0 c54 (i_rng z53) rfl
      refine g_aload_n 58 (gd rfl) rfl rfl ?_
      refine g_getA (q2 := 91) 61 (gd rfl) rfl rfl rfl rfl ?_
      refine g_iload_n 62 (gd rfl) rfl rfl ?_
      refine g_iaload 63 (gd rfl) rfl (n := 32) rfl (in_ix h1 rfl) (fun z62 e62 => ?_)
      have q62 : z40 = z62 := (sI_ne rfl (e40)).trans e62.symm
      subst q62
      refine g_goto 79 (gd rfl) rfl ?_
      refine g_iastore 80 (gd rfl) rfl (n := 32) rfl (in_ix i2 rfl) ?_
      have hI79 := inv_sI (q := 92) (j := x2.toNatClampNeg) hI42 rfl (in_w (-2147483648) 2147483647 (i_rng z40) rfl)
      refine g_aload_n 81 (gd rfl) rfl rfl ?_
      refine g_getA (q2 := 90) 84 (gd rfl) rfl rfl rfl rfl ?_
      refine g_iload_n 85 (gd rfl) rfl rfl ?_
      refine g_dup2 86 (gd rfl) rfl rfl rfl ?_
      refine g_iaload 87 (gd rfl) rfl (n := 32) rfl (in_ix i2 rfl) (fun z86 e86 => ?_)
      have q86 : z53 = z86 := (sI_ne rfl (e53)).trans e86.symm
      subst q86
      refine g_iconst 1 88 (gd rfl) rfl rfl ?_
      refine g_iload_n 89 (gd rfl) rfl rfl ?_
      refine g_ishl 90 (gd rfl) rfl (fun z89 e89 => ?_)
      refine g_ior 91 (gd rfl) rfl (fun z90 e90 => ?_)
      refine g_iastore 92 (gd rfl) rfl (n := 32) rfl (in_ix i2 rfl) ?_
      have hI91 := inv_sI (q := 90) (j := x2.toNatClampNeg) hI79 rfl (in_w (-2147483648) 2147483647 (i_rng z90) rfl)
      refine g_aload_n 93 (gd rfl) rfl rfl ?_
      refine g_getA (q2 := 89) 96 (gd rfl) rfl rfl rfl rfl ?_
      refine g_iload_n 97 (gd rfl) rfl rfl ?_
      refine g_iload_n 98 (gd rfl) rfl rfl ?_
      refine g_iastore 99 (gd rfl) rfl (n := 32) rfl (in_ix h1 rfl) ?_
      have hI98 := inv_sI (q := 89) (j := x1.toNatClampNeg) hI91 rfl (in_w 0 31 i2 rfl)
      refine g_iconst 1 100 (gd rfl) rfl rfl ?_
      exact g_ireturn (gd rfl) rfl (nb01 (in_w 0 1 (in_c 1 rfl) rfl)) (hP _ _ ⟨(sI (sI (sI (sI (sI s 90 z12.toNatClampNeg z26) 92 z12.toNatClampNeg z41) 92 x2.toNatClampNeg z40) 90 x2.toNatClampNeg z90) 89 x1.toNatClampNeg x2), hI98, (fr_sI rfl (fr_sI rfl (fr_sI rfl (fr_sI rfl (fr_sI rfl fr_rf))))), (Int32.ofInt 1), rfl, rfl, in_w 0 1 (in_c 1 rfl) rfl⟩)
  · skip
    have i2 := r_eq1 (-1) (-1) c2 h2 (in_c (-1) rfl) rfl
    refine g_iconst 0 6 (gd rfl) rfl rfl ?_
    exact g_ireturn (gd rfl) rfl (nb01 (in_w 0 1 (in_c 0 rfl) rfl)) (hP _ _ ⟨s, hI, fr_rf, (Int32.ofInt 0), rfl, rfl, in_w 0 1 (in_c 0 rfl) rfl⟩)

/-- GraphHouse$Parts.firstFree -/
theorem k_146_2 {Z : AmZ} {A : Nat → Nat} {s : GS} {ex : va_W} {d : Nat} {X : AmX} {x1 : Int32} (hd : 4 ≤ d) (hI : Inv s)  : GC Z d 146 [.ref (A 2), .int x1] (WW Z A s ++ ex) 0 0 (fun v u => ∃ z : Int32, v = some (.int z) ∧ u = WW Z A s ++ ex ∧ In z (-1) 31) X := by
  intro post xp hP hX
  have ct2 : ∀ (k2 : Nat) (y2_2 : Int32), ((y2_2.toBitVec.toNat : Nat) : Int) < (k2 : Int) → GG Z (d - 1) 146 post (gx xp) (1 + k2 * 900) 2 (fun j => xlook j [(0, .ref (A 2)), (1, .int x1), (2, .int y2_2)]) [] (WW Z A s ++ ex) 0 0 := by
    intro k2
    induction k2 with
    | zero => intro y2_2  mm2; exact absurd mm2 (Int.not_lt.mpr (Int.natCast_nonneg _))
    | succ k2 ih2 =>
      intro y2_2  mm2
      refine gg_w (M := 1 + k2 * 900 + 900) gws ?_
      refine g_iload_n 3 (gd rfl) rfl rfl ?_
      refine g_if_eq 6 34 (gd rfl) rfl rfl (fun c3 => ?_) (fun c3 => ?_)
      · skip
        have i3 := z_eq 0 0 c3 (i_rng y2_2) rfl
        refine g_iconst (-1) 35 (gd rfl) rfl rfl ?_
        exact g_ireturn (gd rfl) rfl rfl (hP _ _ ⟨(Int32.ofInt (-1)), rfl, rfl, in_w (-1) 31 (in_c (-1) rfl) rfl⟩)
      · skip
        refine g_aload_n 7 (gd rfl) rfl rfl ?_
        refine g_getA (q2 := 11) 10 (gd rfl) rfl rfl rfl rfl ?_
        refine g_iload_n 11 (gd rfl) rfl rfl ?_
        refine g_calls (As := [.int y2_2]) (r := [.ref (A 11)]) 14 (gd rfl) rfl rfl rfl rfl rfl (Nat.le_of_ble_eq_true rfl) (Nat.zero_le _) (Nat.zero_le _) (k_264n (by first | exact dq1 hd rfl | exact dq0 hd rfl | exact dq2 hd rfl | exact dq3 hd rfl | omega) c3) (fun v u h => ?_)
        obtain ⟨z11, rfl, rfl, i11, hb11, hl11⟩ := h
        show GG _ _ _ _ _ _ _ _ [.int z11, .ref (A 11)] _ _ _
        refine g_iaload 15 (gd rfl) rfl (n := 32) rfl (in_ix i11 rfl) (fun z14 e14 => ?_)
        refine g_iload_n 16 (gd rfl) rfl rfl ?_
        refine g_iand 17 (gd rfl) rfl (fun z16 e16 => ?_)
        refine g_if_ne 20 25 (gd rfl) rfl rfl (fun c17 => ?_) (fun c17 => ?_)
        · skip
          refine g_iload_n 26 (gd rfl) rfl rfl ?_
          refine g_iload_n 27 (gd rfl) rfl rfl ?_
          refine g_iconst 1 28 (gd rfl) rfl rfl ?_
          refine g_isub 29 (gd rfl) rfl (fun z28 e28 => ?_)
          refine g_iand 30 (gd rfl) rfl (fun z29 e29 => ?_)
          refine g_istore_n 31 (gd rfl) rfl (Nat.le_of_ble_eq_true rfl) ?_
          refine g_goto 2 (gd rfl) rfl ?_
          exact gg_w (by first | exact Nat.le_add_right _ _ | exact gw2 | exact gw3 | exact gwe rfl | exact gwf rfl | exact gwg rfl | exact gwh rfl | omega) (gg_f (gf_cons rfl (gf_cons rfl (gf_cons rfl gf_nil))) (ih2  z29   (mb e29 e28 c3 mm2)))
        · skip
          have i17 := z_eq 0 0 c17 (i_rng z16) rfl
          refine g_iload_n 21 (gd rfl) rfl rfl ?_
          refine g_calls (As := [.int y2_2]) (r := []) 24 (gd rfl) rfl rfl rfl rfl rfl (Nat.le_of_ble_eq_true rfl) (Nat.zero_le _) (Nat.zero_le _) (k_264n (by first | exact dq1 hd rfl | exact dq0 hd rfl | exact dq2 hd rfl | exact dq3 hd rfl | omega) c3) (fun v u h => ?_)
          obtain ⟨z21, rfl, rfl, i21, hb21, hl21⟩ := h
          show GG _ _ _ _ _ _ _ _ [.int z21] _ _ _
          exact g_ireturn (gd rfl) rfl rfl (hP _ _ ⟨z21, rfl, rfl, in_w (-1) 31 i21 rfl⟩)
  refine g_enter2 (k := 146) (N := 3865470567301) (by first | exact dq1 hd rfl | exact dq0 hd rfl | exact dq2 hd rfl | exact dq3 hd rfl | omega) rfl (Nat.le_of_ble_eq_true rfl) ?_
  refine g_iload_n 1 (gd rfl) rfl rfl ?_
  refine g_istore_n 2 (gd rfl) rfl (Nat.le_of_ble_eq_true rfl) ?_
  exact gg_w (by first | exact Nat.le_of_ble_eq_true rfl | omega) (gg_f (gf_cons rfl (gf_cons rfl (gf_cons rfl gf_nil))) (ct2 4294967296  x1   (mb_in _)))

/-- GraphHouse$Parts.firstFree -/
theorem k_146_32 {Z : AmZ} {A : Nat → Nat} {s : GS} {ex : va_W} {d : Nat} {X : AmX} {x1 : Int32} (hd : 4 ≤ d) (hI : Inv s)  : GC Z d 146 [.ref (A 32), .int x1] (WW Z A s ++ ex) 0 0 (fun v u => ∃ z : Int32, v = some (.int z) ∧ u = WW Z A s ++ ex ∧ In z (-1) 31) X := by
  intro post xp hP hX
  have ct2 : ∀ (k2 : Nat) (y2_2 : Int32), ((y2_2.toBitVec.toNat : Nat) : Int) < (k2 : Int) → GG Z (d - 1) 146 post (gx xp) (1 + k2 * 900) 2 (fun j => xlook j [(0, .ref (A 32)), (1, .int x1), (2, .int y2_2)]) [] (WW Z A s ++ ex) 0 0 := by
    intro k2
    induction k2 with
    | zero => intro y2_2  mm2; exact absurd mm2 (Int.not_lt.mpr (Int.natCast_nonneg _))
    | succ k2 ih2 =>
      intro y2_2  mm2
      refine gg_w (M := 1 + k2 * 900 + 900) gws ?_
      refine g_iload_n 3 (gd rfl) rfl rfl ?_
      refine g_if_eq 6 34 (gd rfl) rfl rfl (fun c3 => ?_) (fun c3 => ?_)
      · skip
        have i3 := z_eq 0 0 c3 (i_rng y2_2) rfl
        refine g_iconst (-1) 35 (gd rfl) rfl rfl ?_
        exact g_ireturn (gd rfl) rfl rfl (hP _ _ ⟨(Int32.ofInt (-1)), rfl, rfl, in_w (-1) 31 (in_c (-1) rfl) rfl⟩)
      · skip
        refine g_aload_n 7 (gd rfl) rfl rfl ?_
        refine g_getA (q2 := 41) 10 (gd rfl) rfl rfl rfl rfl ?_
        refine g_iload_n 11 (gd rfl) rfl rfl ?_
        refine g_calls (As := [.int y2_2]) (r := [.ref (A 41)]) 14 (gd rfl) rfl rfl rfl rfl rfl (Nat.le_of_ble_eq_true rfl) (Nat.zero_le _) (Nat.zero_le _) (k_264n (by first | exact dq1 hd rfl | exact dq0 hd rfl | exact dq2 hd rfl | exact dq3 hd rfl | omega) c3) (fun v u h => ?_)
        obtain ⟨z11, rfl, rfl, i11, hb11, hl11⟩ := h
        show GG _ _ _ _ _ _ _ _ [.int z11, .ref (A 41)] _ _ _
        refine g_iaload 15 (gd rfl) rfl (n := 32) rfl (in_ix i11 rfl) (fun z14 e14 => ?_)
        refine g_iload_n 16 (gd rfl) rfl rfl ?_
        refine g_iand 17 (gd rfl) rfl (fun z16 e16 => ?_)
        refine g_if_ne 20 25 (gd rfl) rfl rfl (fun c17 => ?_) (fun c17 => ?_)
        · skip
          refine g_iload_n 26 (gd rfl) rfl rfl ?_
          refine g_iload_n 27 (gd rfl) rfl rfl ?_
          refine g_iconst 1 28 (gd rfl) rfl rfl ?_
          refine g_isub 29 (gd rfl) rfl (fun z28 e28 => ?_)
          refine g_iand 30 (gd rfl) rfl (fun z29 e29 => ?_)
          refine g_istore_n 31 (gd rfl) rfl (Nat.le_of_ble_eq_true rfl) ?_
          refine g_goto 2 (gd rfl) rfl ?_
          exact gg_w (by first | exact Nat.le_add_right _ _ | exact gw2 | exact gw3 | exact gwe rfl | exact gwf rfl | exact gwg rfl | exact gwh rfl | omega) (gg_f (gf_cons rfl (gf_cons rfl (gf_cons rfl gf_nil))) (ih2  z29   (mb e29 e28 c3 mm2)))
        · skip
          have i17 := z_eq 0 0 c17 (i_rng z16) rfl
          refine g_iload_n 21 (gd rfl) rfl rfl ?_
          refine g_calls (As := [.int y2_2]) (r := []) 24 (gd rfl) rfl rfl rfl rfl rfl (Nat.le_of_ble_eq_true rfl) (Nat.zero_le _) (Nat.zero_le _) (k_264n (by first | exact dq1 hd rfl | exact dq0 hd rfl | exact dq2 hd rfl | exact dq3 hd rfl | omega) c3) (fun v u h => ?_)
          obtain ⟨z21, rfl, rfl, i21, hb21, hl21⟩ := h
          show GG _ _ _ _ _ _ _ _ [.int z21] _ _ _
          exact g_ireturn (gd rfl) rfl rfl (hP _ _ ⟨z21, rfl, rfl, in_w (-1) 31 i21 rfl⟩)
  refine g_enter2 (k := 146) (N := 3865470567301) (by first | exact dq1 hd rfl | exact dq0 hd rfl | exact dq2 hd rfl | exact dq3 hd rfl | omega) rfl (Nat.le_of_ble_eq_true rfl) ?_
  refine g_iload_n 1 (gd rfl) rfl rfl ?_
  refine g_istore_n 2 (gd rfl) rfl (Nat.le_of_ble_eq_true rfl) ?_
  exact gg_w (by first | exact Nat.le_of_ble_eq_true rfl | omega) (gg_f (gf_cons rfl (gf_cons rfl (gf_cons rfl gf_nil))) (ct2 4294967296  x1   (mb_in _)))

/-- GraphHouse$Parts.loosest -/
theorem k_149_56 {Z : AmZ} {A : Nat → Nat} {s : GS} {ex : va_W} {d : Nat} {X : AmX} {x1 : Int32} (hd : 4 ≤ d) (hI : Inv s) (nza_1 : x1.toInt ≠ 0) : GC Z d 149 [.ref (A 56), .int x1] (WW Z A s ++ ex) 0 0 (fun v u => ∃ z : Int32, v = some (.int z) ∧ u = WW Z A s ++ ex ∧ In z 0 31 ∧ (bt x1 (z).toNatClampNeg = true)) X := by
  intro post xp hP hX
  have ct7 : ∀ (k7 : Nat) (y7_2 : Int32) (y7_3 : Int32), (In y7_2 0 31) → (bt x1 (y7_2).toNatClampNeg = true) → (∀ k, bt y7_3 k = true → bt x1 k = true) → ((y7_3.toBitVec.toNat : Nat) : Int) < (k7 : Int) → GG Z (d - 1) 149 post (gx xp) (1 + k7 * 900) 7 (fun j => xlook j [(0, .ref (A 56)), (1, .int x1), (2, .int y7_2), (3, .int y7_3)]) [] (WW Z A s ++ ex) 0 0 := by
    intro k7
    induction k7 with
    | zero => intro y7_2 y7_3 j7_2 g7_0 g7_1 mm7; exact absurd mm7 (Int.not_lt.mpr (Int.natCast_nonneg _))
    | succ k7 ih7 =>
      intro y7_2 y7_3 j7_2 g7_0 g7_1 mm7
      refine gg_w (M := 1 + k7 * 900 + 900) gws ?_
      refine g_iload_n 8 (gd rfl) rfl rfl ?_
      refine g_if_eq 11 43 (gd rfl) rfl rfl (fun c8 => ?_) (fun c8 => ?_)
      · skip
        have i8 := z_eq 0 0 c8 (i_rng y7_3) rfl
        refine g_iload_n 44 (gd rfl) rfl rfl ?_
        have n44 : bt x1 (y7_2).toNatClampNeg = true := by exact g7_0
        exact g_ireturn (gd rfl) rfl rfl (hP _ _ ⟨y7_2, rfl, rfl, in_w 0 31 j7_2 rfl, n44⟩)
      · skip
        refine g_aload_n 12 (gd rfl) rfl rfl ?_
        refine g_getA (q2 := 59) 15 (gd rfl) rfl rfl rfl rfl ?_
        refine g_iload_n 16 (gd rfl) rfl rfl ?_
        refine g_calls (As := [.int y7_3]) (r := [.ref (A 59)]) 19 (gd rfl) rfl rfl rfl rfl rfl (Nat.le_of_ble_eq_true rfl) (Nat.zero_le _) (Nat.zero_le _) (k_264n (by first | exact dq1 hd rfl | exact dq0 hd rfl | exact dq2 hd rfl | exact dq3 hd rfl | omega) c8) (fun v u h => ?_)
        obtain ⟨z16, rfl, rfl, i16, hb16, hl16⟩ := h
        show GG _ _ _ _ _ _ _ _ [.int z16, .ref (A 59)] _ _ _
        refine g_iaload 20 (gd rfl) rfl (n := 32) rfl (in_ix i16 rfl) (fun z19 e19 => ?_)
        refine g_aload_n 21 (gd rfl) rfl rfl ?_
        refine g_getA (q2 := 59) 24 (gd rfl) rfl rfl rfl rfl ?_
        refine g_iload_n 25 (gd rfl) rfl rfl ?_
        refine g_iaload 26 (gd rfl) rfl (n := 32) rfl (in_ix j7_2 rfl) (fun z25 e25 => ?_)
        refine g_cmp_ge 29 34 (gd rfl) rfl rfl (fun c26 => ?_) (fun c26 => ?_)
        · skip
          refine g_iload_n 35 (gd rfl) rfl rfl ?_
          refine g_iload_n 36 (gd rfl) rfl rfl ?_
          refine g_iconst 1 37 (gd rfl) rfl rfl ?_
          refine g_isub 38 (gd rfl) rfl (fun z37 e37 => ?_)
          refine g_iand 39 (gd rfl) rfl (fun z38 e38 => ?_)
          refine g_istore_n 40 (gd rfl) rfl (Nat.le_of_ble_eq_true rfl) ?_
          refine g_goto 7 (gd rfl) rfl ?_
          have n7 : bt x1 (y7_2).toNatClampNeg = true := by first | exact hb1 | exact g7_0 | exact g7_1 _ hb30
          have n7a : ∀ k, bt z38 k = true → bt x1 k = true := by first | exact fun k h => h | exact fun k h => g7_1 k (bt_and1 e38 h)
          exact gg_w (by first | exact Nat.le_add_right _ _ | exact gw2 | exact gw3 | exact gwe rfl | exact gwf rfl | exact gwg rfl | exact gwh rfl | omega) (gg_f (gf_cons rfl (gf_cons rfl (gf_cons rfl (gf_cons rfl gf_nil)))) (ih7  y7_2 z38  (in_w 0 31 j7_2 rfl) n7 n7a (mb e38 e37 c8 mm7)))
        · skip
          have i26 := r_lt1 (-2147483648) 2147483646 c26 (i_rng z19) (i_rng z25) rfl
          have i26a := r_lt2 (-2147483647) 2147483647 c26 (i_rng z19) (i_rng z25) rfl
          refine g_iload_n 30 (gd rfl) rfl rfl ?_
          refine g_calls (As := [.int y7_3]) (r := []) 33 (gd rfl) rfl rfl rfl rfl rfl (Nat.le_of_ble_eq_true rfl) (Nat.zero_le _) (Nat.zero_le _) (k_264n (by first | exact dq1 hd rfl | exact dq0 hd rfl | exact dq2 hd rfl | exact dq3 hd rfl | omega) c8) (fun v u h => ?_)
          obtain ⟨z30, rfl, rfl, i30, hb30, hl30⟩ := h
          show GG _ _ _ _ _ _ _ _ [.int z30] _ _ _
          refine g_istore_n 34 (gd rfl) rfl (Nat.le_of_ble_eq_true rfl) ?_
          refine g_iload_n 35 (gd rfl) rfl rfl ?_
          refine g_iload_n 36 (gd rfl) rfl rfl ?_
          refine g_iconst 1 37 (gd rfl) rfl rfl ?_
          refine g_isub 38 (gd rfl) rfl (fun z37 e37 => ?_)
          refine g_iand 39 (gd rfl) rfl (fun z38 e38 => ?_)
          refine g_istore_n 40 (gd rfl) rfl (Nat.le_of_ble_eq_true rfl) ?_
          refine g_goto 7 (gd rfl) rfl ?_
          have n7 : bt x1 (z30).toNatClampNeg = true := by first | exact hb1 | exact g7_0 | exact g7_1 _ hb30
          have n7a : ∀ k, bt z38 k = true → bt x1 k = true := by first | exact fun k h => h | exact fun k h => g7_1 k (bt_and1 e38 h)
          exact gg_w (by first | exact Nat.le_add_right _ _ | exact gw2 | exact gw3 | exact gwe rfl | exact gwf rfl | exact gwg rfl | exact gwh rfl | omega) (gg_f (gf_cons rfl (gf_cons rfl (gf_cons rfl (gf_cons rfl gf_nil)))) (ih7  z30 z38  (in_w 0 31 i30 rfl) n7 n7a (mb e38 e37 c8 mm7)))
  refine g_enter2 (k := 149) (N := 3865470567301) (by first | exact dq1 hd rfl | exact dq0 hd rfl | exact dq2 hd rfl | exact dq3 hd rfl | omega) rfl (Nat.le_of_ble_eq_true rfl) ?_
  refine g_iload_n 1 (gd rfl) rfl rfl ?_
  refine g_calls (As := [.int x1]) (r := []) 4 (gd rfl) rfl rfl rfl rfl rfl (Nat.le_of_ble_eq_true rfl) (Nat.zero_le _) (Nat.zero_le _) (k_264n (by first | exact dq1 hd rfl | exact dq0 hd rfl | exact dq2 hd rfl | exact dq3 hd rfl | omega) nza_1) (fun v u h => ?_)
  obtain ⟨z1, rfl, rfl, i1, hb1, hl1⟩ := h
  show GG _ _ _ _ _ _ _ _ [.int z1] _ _ _
  refine g_istore_n 5 (gd rfl) rfl (Nat.le_of_ble_eq_true rfl) ?_
  refine g_iload_n 6 (gd rfl) rfl rfl ?_
  refine g_istore_n 7 (gd rfl) rfl (Nat.le_of_ble_eq_true rfl) ?_
  have n7 : bt x1 (z1).toNatClampNeg = true := by first | exact hb1 | exact g7_0 | exact g7_1 _ hb30
  have n7a : ∀ k, bt x1 k = true → bt x1 k = true := by first | exact fun k h => h | exact fun k h => g7_1 k (bt_and1 e38 h)
  exact gg_w (by first | exact Nat.le_of_ble_eq_true rfl | omega) (gg_f (gf_cons rfl (gf_cons rfl (gf_cons rfl (gf_cons rfl gf_nil)))) (ct7 4294967296  z1 x1  (in_w 0 31 i1 rfl) n7 n7a (mb_in _)))

def fm_150_56_2 : FM := ([59], [], [], [])
/-- GraphHouse$Parts.loosen -/
theorem k_150_56_2 {Z : AmZ} {A : Nat → Nat} {s : GS} {ex : va_W} {d : Nat} {X : AmX} {x2 : Int32} {u_2_4 : Int32} {u_2_0 : Int32} (hd : 1 ≤ d) (hI : Inv s) (h2 : In x2 0 31) (e_2_4 : u_2_4 = s.2.2.1 2 4) (e_2_0 : u_2_0 = s.2.2.1 2 0) (p_0 : (u_2_4).toInt = (u_2_0).toInt) : GC Z d 150 [.ref (A 56), .ref (A 2), .int x2] (WW Z A s ++ ex) 0 0 (fun v u => ∃ t : GS, Inv t ∧ Fr fm_150_56_2 s t ∧ v = none ∧ u = WW Z A t ++ ex) X := by
  intro post xp hP hX
  have ro_2_4 := inv_F hI (-1) 4000 rfl e_2_4
  have ro_2_0 := inv_F hI 0 4000 rfl e_2_0
  have ct52 : ∀ (k52 : Nat) (sc52 : GS) (y52_3 : Int32), Inv sc52 → Fr fm_150_56_2 s sc52 → (In y52_3 0 160) → 160 - (y52_3).toInt < (k52 : Int) → GG Z (d - 1) 150 post (gx xp) (1 + k52 * 900) 52 (fun j => xlook j [(0, .ref (A 56)), (1, .ref (A 2)), (2, .int x2), (3, .int y52_3)]) [] (WW Z A sc52 ++ ex) 0 0 := by
    intro k52
    induction k52 with
    | zero => intro sc52 y52_3 hIc52 hFc52 j52_3 mm52; exact m_no mm52 j52_3 rfl
    | succ k52 ih52 =>
      intro sc52 y52_3 hIc52 hFc52 j52_3 mm52
      refine gg_w (M := 1 + k52 * 900 + 900) gws ?_
      refine g_iload_n 53 (gd rfl) rfl rfl ?_
      refine g_aload_n 54 (gd rfl) rfl rfl ?_
      refine g_getA (q2 := 14) 57 (gd rfl) rfl rfl rfl rfl ?_
      refine g_iload_n 58 (gd rfl) rfl rfl ?_
      refine g_iconst 1 59 (gd rfl) rfl rfl ?_
      refine g_iadd 60 (gd rfl) rfl (fun z59 e59 => ?_)
      have i59 := in_add 1 32 e59 h2 (in_c 1 rfl) rfl rfl
      refine g_iaload 61 (gd rfl) rfl (n := 33) rfl (in_ix i59 rfl) (fun z60 e60 => ?_)
      have i60 := inv_I hIc52 (n := 33) (t := 0) 0 160 rfl (in_ix i59 rfl) rfl e60
      refine g_cmp_ge 64 90 (gd rfl) rfl rfl (fun c61 => ?_) (fun c61 => ?_)
      · skip
        exact g_return (gd rfl) rfl (hP _ _ ⟨sc52, hIc52, hFc52, rfl, rfl⟩)
      · skip
        have i61 := r_lt1 0 159 c61 j52_3 i60 rfl
        have i61a := r_lt2 1 160 c61 j52_3 i60 rfl
        refine g_aload_n 65 (gd rfl) rfl rfl ?_
        refine g_getA (q2 := 59) 68 (gd rfl) rfl rfl rfl rfl ?_
        refine g_aload_n 69 (gd rfl) rfl rfl ?_
        refine g_getA (q2 := 4) 72 (gd rfl) rfl rfl rfl rfl ?_
        refine g_aload_n 73 (gd rfl) rfl rfl ?_
        refine g_getA (q2 := 15) 76 (gd rfl) rfl rfl rfl rfl ?_
        refine g_iload_n 77 (gd rfl) rfl rfl ?_
        refine g_iaload 78 (gd rfl) rfl (n := 160) rfl (in_ix i61 rfl) (fun z77 e77 => ?_)
        have i77 := inv_I hIc52 (n := 160) (t := 0) 0 159 rfl (in_ix i61 rfl) rfl e77
        refine g_iaload 79 (gd rfl) rfl (n := 160) rfl (in_ix i77 rfl) (fun z78 e78 => ?_)
        have i78 := inv_I hIc52 (n := 160) (t := 0) (-1) 31 rfl (in_ix i77 rfl) rfl e78
        have i79 : In z78 0 31 := by exact tg_b (b := 2) hIc52.2.1 rfl rfl rfl rfl rfl (by rw [← (show u_2_4 = sc52.2.2.1 2 4 from fr_F e_2_4 hFc52 rfl), ← (show u_2_0 = sc52.2.2.1 2 0 from fr_F e_2_0 hFc52 rfl)]; exact p_0) e60 i59 i61 c61 e77 e78 i78
        refine g_dup2 80 (gd rfl) rfl rfl rfl ?_
        refine g_iaload 81 (gd rfl) rfl (n := 32) rfl (in_ix i79 rfl) (fun z80 e80 => ?_)
        refine g_iconst 1 82 (gd rfl) rfl rfl ?_
        refine g_isub 83 (gd rfl) rfl (fun z82 e82 => ?_)
        refine g_iastore 84 (gd rfl) rfl (n := 32) rfl (in_ix i79 rfl) ?_
        have hI83 := inv_sI (q := 59) (j := z78.toNatClampNeg) hIc52 rfl (in_w (-2147483648) 2147483647 (i_rng z82) rfl)
        refine g_iinc 87 (gd rfl) rfl rfl (Nat.le_of_ble_eq_true rfl) (fun z84 e84 => ?_)
        have i84 := in_add 1 160 e84 i61 (in_c 1 rfl) rfl rfl
        refine g_goto 52 (gd rfl) rfl ?_
        exact gg_w (by first | exact Nat.le_add_right _ _ | exact gw2 | exact gw3 | exact gwe rfl | exact gwf rfl | exact gwg rfl | exact gwh rfl | omega) (gg_f (gf_cons rfl (gf_cons rfl (gf_cons rfl (gf_cons rfl gf_nil)))) (ih52 (sI sc52 59 z78.toNatClampNeg z82) z84 hI83 (fr_sI rfl hFc52) (in_w 0 160 i84 rfl) (m_up mm52 (t_add e84 i61 (in_c 1 rfl) rfl) (in_w 1 1 (in_c 1 rfl) rfl))))
  have ct7 : ∀ (k7 : Nat) (sc7 : GS) (y7_3 : Int32), Inv sc7 → Fr fm_150_56_2 s sc7 → (In y7_3 0 160) → 160 - (y7_3).toInt < (k7 : Int) → GG Z (d - 1) 150 post (gx xp) (144902 + k7 * 900) 7 (fun j => xlook j [(0, .ref (A 56)), (1, .ref (A 2)), (2, .int x2), (3, .int y7_3)]) [] (WW Z A sc7 ++ ex) 0 0 := by
    intro k7
    induction k7 with
    | zero => intro sc7 y7_3 hIc7 hFc7 j7_3 mm7; exact m_no mm7 j7_3 rfl
    | succ k7 ih7 =>
      intro sc7 y7_3 hIc7 hFc7 j7_3 mm7
      refine gg_w (M := 144902 + k7 * 900 + 900) gws ?_
      refine g_iload_n 8 (gd rfl) rfl rfl ?_
      refine g_aload_n 9 (gd rfl) rfl rfl ?_
      refine g_getA (q2 := 12) 12 (gd rfl) rfl rfl rfl rfl ?_
      refine g_iload_n 13 (gd rfl) rfl rfl ?_
      refine g_iconst 1 14 (gd rfl) rfl rfl ?_
      refine g_iadd 15 (gd rfl) rfl (fun z14 e14 => ?_)
      have i14 := in_add 1 32 e14 h2 (in_c 1 rfl) rfl rfl
      refine g_iaload 16 (gd rfl) rfl (n := 33) rfl (in_ix i14 rfl) (fun z15 e15 => ?_)
      have i15 := inv_I hIc7 (n := 33) (t := 0) 0 160 rfl (in_ix i14 rfl) rfl e15
      refine g_cmp_ge 19 45 (gd rfl) rfl rfl (fun c16 => ?_) (fun c16 => ?_)
      · skip
        refine g_aload_n 46 (gd rfl) rfl rfl ?_
        refine g_getA (q2 := 14) 49 (gd rfl) rfl rfl rfl rfl ?_
        refine g_iload_n 50 (gd rfl) rfl rfl ?_
        refine g_iaload 51 (gd rfl) rfl (n := 33) rfl (in_ix h2 rfl) (fun z50 e50 => ?_)
        have i50 := inv_I hIc7 (n := 33) (t := 0) 0 160 rfl (in_ix h2 rfl) rfl e50
        refine g_istore_n 52 (gd rfl) rfl (Nat.le_of_ble_eq_true rfl) ?_
        exact gg_w (by first | exact Nat.le_add_right _ _ | exact gw2 | exact gw3 | exact gwe rfl | exact gwf rfl | exact gwg rfl | exact gwh rfl | omega) (gg_f (gf_cons rfl (gf_cons rfl (gf_cons rfl (gf_cons rfl gf_nil)))) (ct52 161 sc7 z50 hIc7 hFc7 (in_w 0 160 i50 rfl) (m_in 161 (in_w 0 160 i50 rfl) rfl)))
      · skip
        have i16 := r_lt1 0 159 c16 j7_3 i15 rfl
        have i16a := r_lt2 1 160 c16 j7_3 i15 rfl
        refine g_aload_n 20 (gd rfl) rfl rfl ?_
        refine g_getA (q2 := 59) 23 (gd rfl) rfl rfl rfl rfl ?_
        refine g_aload_n 24 (gd rfl) rfl rfl ?_
        refine g_getA (q2 := 5) 27 (gd rfl) rfl rfl rfl rfl ?_
        refine g_aload_n 28 (gd rfl) rfl rfl ?_
        refine g_getA (q2 := 13) 31 (gd rfl) rfl rfl rfl rfl ?_
        refine g_iload_n 32 (gd rfl) rfl rfl ?_
        refine g_iaload 33 (gd rfl) rfl (n := 160) rfl (in_ix i16 rfl) (fun z32 e32 => ?_)
        have i32 := inv_I hIc7 (n := 160) (t := 0) 0 159 rfl (in_ix i16 rfl) rfl e32
        refine g_iaload 34 (gd rfl) rfl (n := 160) rfl (in_ix i32 rfl) (fun z33 e33 => ?_)
        have i33 := inv_I hIc7 (n := 160) (t := 0) 0 31 rfl (in_ix i32 rfl) rfl e33
        refine g_dup2 35 (gd rfl) rfl rfl rfl ?_
        refine g_iaload 36 (gd rfl) rfl (n := 32) rfl (in_ix i33 rfl) (fun z35 e35 => ?_)
        refine g_iconst 1 37 (gd rfl) rfl rfl ?_
        refine g_isub 38 (gd rfl) rfl (fun z37 e37 => ?_)
        refine g_iastore 39 (gd rfl) rfl (n := 32) rfl (in_ix i33 rfl) ?_
        have hI38 := inv_sI (q := 59) (j := z33.toNatClampNeg) hIc7 rfl (in_w (-2147483648) 2147483647 (i_rng z37) rfl)
        refine g_iinc 42 (gd rfl) rfl rfl (Nat.le_of_ble_eq_true rfl) (fun z39 e39 => ?_)
        have i39 := in_add 1 160 e39 i16 (in_c 1 rfl) rfl rfl
        refine g_goto 7 (gd rfl) rfl ?_
        exact gg_w (by first | exact Nat.le_add_right _ _ | exact gw2 | exact gw3 | exact gwe rfl | exact gwf rfl | exact gwg rfl | exact gwh rfl | omega) (gg_f (gf_cons rfl (gf_cons rfl (gf_cons rfl (gf_cons rfl gf_nil)))) (ih7 (sI sc7 59 z33.toNatClampNeg z37) z39 hI38 (fr_sI rfl hFc7) (in_w 0 160 i39 rfl) (m_up mm7 (t_add e39 i16 (in_c 1 rfl) rfl) (in_w 1 1 (in_c 1 rfl) rfl))))
  refine g_enter2 (k := 150) (N := 290702) (by first | exact dq1 hd rfl | exact dq0 hd rfl | exact dq2 hd rfl | exact dq3 hd rfl | omega) rfl (Nat.le_of_ble_eq_true rfl) ?_
  refine g_aload_n 1 (gd rfl) rfl rfl ?_
  refine g_getA (q2 := 12) 4 (gd rfl) rfl rfl rfl rfl ?_
  refine g_iload_n 5 (gd rfl) rfl rfl ?_
  refine g_iaload 6 (gd rfl) rfl (n := 33) rfl (in_ix h2 rfl) (fun z5 e5 => ?_)
  have i5 := inv_I hI (n := 33) (t := 0) 0 160 rfl (in_ix h2 rfl) rfl e5
  refine g_istore_n 7 (gd rfl) rfl (Nat.le_of_ble_eq_true rfl) ?_
  exact gg_w (by first | exact Nat.le_of_ble_eq_true rfl | omega) (gg_f (gf_cons rfl (gf_cons rfl (gf_cons rfl (gf_cons rfl gf_nil)))) (ct7 161 s z5 hI fr_rf (in_w 0 160 i5 rfl) (m_in 161 (in_w 0 160 i5 rfl) rfl)))

def fm_150_56_32 : FM := ([59], [], [], [])
/-- GraphHouse$Parts.loosen -/
theorem k_150_56_32 {Z : AmZ} {A : Nat → Nat} {s : GS} {ex : va_W} {d : Nat} {X : AmX} {x2 : Int32} {u_32_4 : Int32} {u_32_0 : Int32} (hd : 1 ≤ d) (hI : Inv s) (h2 : In x2 0 31) (e_32_4 : u_32_4 = s.2.2.1 32 4) (e_32_0 : u_32_0 = s.2.2.1 32 0) (p_0 : (u_32_4).toInt = (u_32_0).toInt) : GC Z d 150 [.ref (A 56), .ref (A 32), .int x2] (WW Z A s ++ ex) 0 0 (fun v u => ∃ t : GS, Inv t ∧ Fr fm_150_56_32 s t ∧ v = none ∧ u = WW Z A t ++ ex) X := by
  intro post xp hP hX
  have ro_32_4 := inv_F hI (-1) 4000 rfl e_32_4
  have ro_32_0 := inv_F hI 0 4000 rfl e_32_0
  have ct52 : ∀ (k52 : Nat) (sc52 : GS) (y52_3 : Int32), Inv sc52 → Fr fm_150_56_32 s sc52 → (In y52_3 0 160) → 160 - (y52_3).toInt < (k52 : Int) → GG Z (d - 1) 150 post (gx xp) (1 + k52 * 900) 52 (fun j => xlook j [(0, .ref (A 56)), (1, .ref (A 32)), (2, .int x2), (3, .int y52_3)]) [] (WW Z A sc52 ++ ex) 0 0 := by
    intro k52
    induction k52 with
    | zero => intro sc52 y52_3 hIc52 hFc52 j52_3 mm52; exact m_no mm52 j52_3 rfl
    | succ k52 ih52 =>
      intro sc52 y52_3 hIc52 hFc52 j52_3 mm52
      refine gg_w (M := 1 + k52 * 900 + 900) gws ?_
      refine g_iload_n 53 (gd rfl) rfl rfl ?_
      refine g_aload_n 54 (gd rfl) rfl rfl ?_
      refine g_getA (q2 := 44) 57 (gd rfl) rfl rfl rfl rfl ?_
      refine g_iload_n 58 (gd rfl) rfl rfl ?_
      refine g_iconst 1 59 (gd rfl) rfl rfl ?_
      refine g_iadd 60 (gd rfl) rfl (fun z59 e59 => ?_)
      have i59 := in_add 1 32 e59 h2 (in_c 1 rfl) rfl rfl
      refine g_iaload 61 (gd rfl) rfl (n := 33) rfl (in_ix i59 rfl) (fun z60 e60 => ?_)
      have i60 := inv_I hIc52 (n := 33) (t := 0) 0 160 rfl (in_ix i59 rfl) rfl e60
      refine g_cmp_ge 64 90 (gd rfl) rfl rfl (fun c61 => ?_) (fun c61 => ?_)
      · skip
        exact g_return (gd rfl) rfl (hP _ _ ⟨sc52, hIc52, hFc52, rfl, rfl⟩)
      · skip
        have i61 := r_lt1 0 159 c61 j52_3 i60 rfl
        have i61a := r_lt2 1 160 c61 j52_3 i60 rfl
        refine g_aload_n 65 (gd rfl) rfl rfl ?_
        refine g_getA (q2 := 59) 68 (gd rfl) rfl rfl rfl rfl ?_
        refine g_aload_n 69 (gd rfl) rfl rfl ?_
        refine g_getA (q2 := 34) 72 (gd rfl) rfl rfl rfl rfl ?_
        refine g_aload_n 73 (gd rfl) rfl rfl ?_
        refine g_getA (q2 := 45) 76 (gd rfl) rfl rfl rfl rfl ?_
        refine g_iload_n 77 (gd rfl) rfl rfl ?_
        refine g_iaload 78 (gd rfl) rfl (n := 160) rfl (in_ix i61 rfl) (fun z77 e77 => ?_)
        have i77 := inv_I hIc52 (n := 160) (t := 0) 0 159 rfl (in_ix i61 rfl) rfl e77
        refine g_iaload 79 (gd rfl) rfl (n := 160) rfl (in_ix i77 rfl) (fun z78 e78 => ?_)
        have i78 := inv_I hIc52 (n := 160) (t := 0) (-1) 31 rfl (in_ix i77 rfl) rfl e78
        have i79 : In z78 0 31 := by exact tg_b (b := 32) hIc52.2.2.1 rfl rfl rfl rfl rfl (by rw [← (show u_32_4 = sc52.2.2.1 32 4 from fr_F e_32_4 hFc52 rfl), ← (show u_32_0 = sc52.2.2.1 32 0 from fr_F e_32_0 hFc52 rfl)]; exact p_0) e60 i59 i61 c61 e77 e78 i78
        refine g_dup2 80 (gd rfl) rfl rfl rfl ?_
        refine g_iaload 81 (gd rfl) rfl (n := 32) rfl (in_ix i79 rfl) (fun z80 e80 => ?_)
        refine g_iconst 1 82 (gd rfl) rfl rfl ?_
        refine g_isub 83 (gd rfl) rfl (fun z82 e82 => ?_)
        refine g_iastore 84 (gd rfl) rfl (n := 32) rfl (in_ix i79 rfl) ?_
        have hI83 := inv_sI (q := 59) (j := z78.toNatClampNeg) hIc52 rfl (in_w (-2147483648) 2147483647 (i_rng z82) rfl)
        refine g_iinc 87 (gd rfl) rfl rfl (Nat.le_of_ble_eq_true rfl) (fun z84 e84 => ?_)
        have i84 := in_add 1 160 e84 i61 (in_c 1 rfl) rfl rfl
        refine g_goto 52 (gd rfl) rfl ?_
        exact gg_w (by first | exact Nat.le_add_right _ _ | exact gw2 | exact gw3 | exact gwe rfl | exact gwf rfl | exact gwg rfl | exact gwh rfl | omega) (gg_f (gf_cons rfl (gf_cons rfl (gf_cons rfl (gf_cons rfl gf_nil)))) (ih52 (sI sc52 59 z78.toNatClampNeg z82) z84 hI83 (fr_sI rfl hFc52) (in_w 0 160 i84 rfl) (m_up mm52 (t_add e84 i61 (in_c 1 rfl) rfl) (in_w 1 1 (in_c 1 rfl) rfl))))
  have ct7 : ∀ (k7 : Nat) (sc7 : GS) (y7_3 : Int32), Inv sc7 → Fr fm_150_56_32 s sc7 → (In y7_3 0 160) → 160 - (y7_3).toInt < (k7 : Int) → GG Z (d - 1) 150 post (gx xp) (144902 + k7 * 900) 7 (fun j => xlook j [(0, .ref (A 56)), (1, .ref (A 32)), (2, .int x2), (3, .int y7_3)]) [] (WW Z A sc7 ++ ex) 0 0 := by
    intro k7
    induction k7 with
    | zero => intro sc7 y7_3 hIc7 hFc7 j7_3 mm7; exact m_no mm7 j7_3 rfl
    | succ k7 ih7 =>
      intro sc7 y7_3 hIc7 hFc7 j7_3 mm7
      refine gg_w (M := 144902 + k7 * 900 + 900) gws ?_
      refine g_iload_n 8 (gd rfl) rfl rfl ?_
      refine g_aload_n 9 (gd rfl) rfl rfl ?_
      refine g_getA (q2 := 42) 12 (gd rfl) rfl rfl rfl rfl ?_
      refine g_iload_n 13 (gd rfl) rfl rfl ?_
      refine g_iconst 1 14 (gd rfl) rfl rfl ?_
      refine g_iadd 15 (gd rfl) rfl (fun z14 e14 => ?_)
      have i14 := in_add 1 32 e14 h2 (in_c 1 rfl) rfl rfl
      refine g_iaload 16 (gd rfl) rfl (n := 33) rfl (in_ix i14 rfl) (fun z15 e15 => ?_)
      have i15 := inv_I hIc7 (n := 33) (t := 0) 0 160 rfl (in_ix i14 rfl) rfl e15
      refine g_cmp_ge 19 45 (gd rfl) rfl rfl (fun c16 => ?_) (fun c16 => ?_)
      · skip
        refine g_aload_n 46 (gd rfl) rfl rfl ?_
        refine g_getA (q2 := 44) 49 (gd rfl) rfl rfl rfl rfl ?_
        refine g_iload_n 50 (gd rfl) rfl rfl ?_
        refine g_iaload 51 (gd rfl) rfl (n := 33) rfl (in_ix h2 rfl) (fun z50 e50 => ?_)
        have i50 := inv_I hIc7 (n := 33) (t := 0) 0 160 rfl (in_ix h2 rfl) rfl e50
        refine g_istore_n 52 (gd rfl) rfl (Nat.le_of_ble_eq_true rfl) ?_
        exact gg_w (by first | exact Nat.le_add_right _ _ | exact gw2 | exact gw3 | exact gwe rfl | exact gwf rfl | exact gwg rfl | exact gwh rfl | omega) (gg_f (gf_cons rfl (gf_cons rfl (gf_cons rfl (gf_cons rfl gf_nil)))) (ct52 161 sc7 z50 hIc7 hFc7 (in_w 0 160 i50 rfl) (m_in 161 (in_w 0 160 i50 rfl) rfl)))
      · skip
        have i16 := r_lt1 0 159 c16 j7_3 i15 rfl
        have i16a := r_lt2 1 160 c16 j7_3 i15 rfl
        refine g_aload_n 20 (gd rfl) rfl rfl ?_
        refine g_getA (q2 := 59) 23 (gd rfl) rfl rfl rfl rfl ?_
        refine g_aload_n 24 (gd rfl) rfl rfl ?_
        refine g_getA (q2 := 35) 27 (gd rfl) rfl rfl rfl rfl ?_
        refine g_aload_n 28 (gd rfl) rfl rfl ?_
        refine g_getA (q2 := 43) 31 (gd rfl) rfl rfl rfl rfl ?_
        refine g_iload_n 32 (gd rfl) rfl rfl ?_
        refine g_iaload 33 (gd rfl) rfl (n := 160) rfl (in_ix i16 rfl) (fun z32 e32 => ?_)
        have i32 := inv_I hIc7 (n := 160) (t := 0) 0 159 rfl (in_ix i16 rfl) rfl e32
        refine g_iaload 34 (gd rfl) rfl (n := 160) rfl (in_ix i32 rfl) (fun z33 e33 => ?_)
        have i33 := inv_I hIc7 (n := 160) (t := 0) 0 31 rfl (in_ix i32 rfl) rfl e33
        refine g_dup2 35 (gd rfl) rfl rfl rfl ?_
        refine g_iaload 36 (gd rfl) rfl (n := 32) rfl (in_ix i33 rfl) (fun z35 e35 => ?_)
        refine g_iconst 1 37 (gd rfl) rfl rfl ?_
        refine g_isub 38 (gd rfl) rfl (fun z37 e37 => ?_)
        refine g_iastore 39 (gd rfl) rfl (n := 32) rfl (in_ix i33 rfl) ?_
        have hI38 := inv_sI (q := 59) (j := z33.toNatClampNeg) hIc7 rfl (in_w (-2147483648) 2147483647 (i_rng z37) rfl)
        refine g_iinc 42 (gd rfl) rfl rfl (Nat.le_of_ble_eq_true rfl) (fun z39 e39 => ?_)
        have i39 := in_add 1 160 e39 i16 (in_c 1 rfl) rfl rfl
        refine g_goto 7 (gd rfl) rfl ?_
        exact gg_w (by first | exact Nat.le_add_right _ _ | exact gw2 | exact gw3 | exact gwe rfl | exact gwf rfl | exact gwg rfl | exact gwh rfl | omega) (gg_f (gf_cons rfl (gf_cons rfl (gf_cons rfl (gf_cons rfl gf_nil)))) (ih7 (sI sc7 59 z33.toNatClampNeg z37) z39 hI38 (fr_sI rfl hFc7) (in_w 0 160 i39 rfl) (m_up mm7 (t_add e39 i16 (in_c 1 rfl) rfl) (in_w 1 1 (in_c 1 rfl) rfl))))
  refine g_enter2 (k := 150) (N := 290702) (by first | exact dq1 hd rfl | exact dq0 hd rfl | exact dq2 hd rfl | exact dq3 hd rfl | omega) rfl (Nat.le_of_ble_eq_true rfl) ?_
  refine g_aload_n 1 (gd rfl) rfl rfl ?_
  refine g_getA (q2 := 42) 4 (gd rfl) rfl rfl rfl rfl ?_
  refine g_iload_n 5 (gd rfl) rfl rfl ?_
  refine g_iaload 6 (gd rfl) rfl (n := 33) rfl (in_ix h2 rfl) (fun z5 e5 => ?_)
  have i5 := inv_I hI (n := 33) (t := 0) 0 160 rfl (in_ix h2 rfl) rfl e5
  refine g_istore_n 7 (gd rfl) rfl (Nat.le_of_ble_eq_true rfl) ?_
  exact gg_w (by first | exact Nat.le_of_ble_eq_true rfl | omega) (gg_f (gf_cons rfl (gf_cons rfl (gf_cons rfl (gf_cons rfl gf_nil)))) (ct7 161 s z5 hI fr_rf (in_w 0 160 i5 rfl) (m_in 161 (in_w 0 160 i5 rfl) rfl)))

def fm_151_56_2 : FM := ([9, 10, 11, 12, 13, 14, 15], [], [(2, 4)], [])
/-- GraphHouse$Parts.triangles -/
theorem k_151_56_2 {Z : AmZ} {A : Nat → Nat} {s : GS} {ex : va_W} {d : Nat} {X : AmX}  (hd : 4 ≤ d) (hI : Inv s)  : GC Z d 151 [.ref (A 56), .ref (A 2)] (WW Z A s ++ ex) 0 0 (fun v u => ∃ t : GS, Inv t ∧ Fr fm_151_56_2 s t ∧ ∃ z : Int64, v = some (.long z) ∧ u = WW Z A t ++ ex) X := by
  intro post xp hP hX
  obtain ⟨u_2_1, e_2_1⟩ : ∃ w, w = s.2.2.1 2 1 := ⟨_, rfl⟩
  have ro_2_1 := inv_F hI 0 32 rfl e_2_1
  have ct9 : ∀ (k9 : Nat) (sc9 : GS) (y9_2 : Int64) (y9_4 : Int32), Inv sc9 → Fr fm_151_56_2 s sc9 → (In y9_4 0 32) → 32 - (y9_4).toInt < (k9 : Int) → GG Z (d - 1) 151 post (gx xp) (1 + k9 * 3865470569101) 9 (fun j => xlook j [(0, .ref (A 56)), (1, .ref (A 2)), (2, .long y9_2), (4, .int y9_4)]) [] (WW Z A sc9 ++ ex) 0 0 := by
    intro k9
    induction k9 with
    | zero => intro sc9 y9_2 y9_4 hIc9 hFc9 j9_4 mm9; exact m_no mm9 j9_4 rfl
    | succ k9 ih9 =>
      intro sc9 y9_2 y9_4 hIc9 hFc9 j9_4 mm9
      refine gg_w (M := 1 + k9 * 3865470569101 + 3865470569101) gws ?_
      have ct27 : ∀ (k27 : Nat) (sc27 : GS) (y27_2 : Int64) (y27_5 : Int32), Inv sc27 → Fr fm_151_56_2 s sc27 → (In y9_4 0 31) → ((y27_5.toBitVec.toNat : Nat) : Int) < (k27 : Int) → GG Z (d - 1) 151 post (gx xp) (1 + k9 * 3865470569101 + 1 + k27 * 900) 27 (fun j => xlook j [(0, .ref (A 56)), (1, .ref (A 2)), (2, .long y27_2), (4, .int y9_4), (5, .int y27_5)]) [] (WW Z A sc27 ++ ex) 0 0 := by
        intro k27
        induction k27 with
        | zero => intro sc27 y27_2 y27_5 hIc27 hFc27 j27_4 mm27; exact absurd mm27 (Int.not_lt.mpr (Int.natCast_nonneg _))
        | succ k27 ih27 =>
          intro sc27 y27_2 y27_5 hIc27 hFc27 j27_4 mm27
          refine gg_w (M := 1 + k9 * 3865470569101 + 1 + k27 * 900 + 900) gws ?_
          refine g_iload 29 (gd rfl) rfl rfl ?_
          refine g_if_eq 32 69 (gd rfl) rfl rfl (fun c29 => ?_) (fun c29 => ?_)
          · skip
            have i29 := z_eq 0 0 c29 (i_rng y27_5) rfl
            refine g_iinc 72 (gd rfl) rfl rfl (Nat.le_of_ble_eq_true rfl) (fun z69 e69 => ?_)
            have i69 := in_add 1 32 e69 j27_4 (in_c 1 rfl) rfl rfl
            refine g_goto 9 (gd rfl) rfl ?_
            exact gg_w (by first | exact Nat.le_add_right _ _ | exact gw2 | exact gw3 | exact gwe rfl | exact gwf rfl | exact gwg rfl | exact gwh rfl | omega) (gg_f (gf_cons rfl (gf_cons rfl (gf_cons rfl (gf_cons rfl gf_nil)))) (ih9 sc27 y27_2 z69 hIc27 hFc27 (in_w 0 32 i69 rfl) (m_up mm9 (t_add e69 j27_4 (in_c 1 rfl) rfl) (in_w 1 1 (in_c 1 rfl) rfl))))
          · skip
            refine g_lload_n 33 (gd rfl) rfl rfl ?_
            refine g_aload_n 34 (gd rfl) rfl rfl ?_
            refine g_getA (q2 := 9) 37 (gd rfl) rfl rfl rfl rfl ?_
            refine g_iload 39 (gd rfl) rfl rfl ?_
            refine g_iaload 40 (gd rfl) rfl (n := 32) rfl (in_ix j27_4 rfl) (fun z39 e39 => ?_)
            refine g_aload_n 41 (gd rfl) rfl rfl ?_
            refine g_getA (q2 := 9) 44 (gd rfl) rfl rfl rfl rfl ?_
            refine g_iload 46 (gd rfl) rfl rfl ?_
            refine g_calls (As := [.int y27_5]) (r := [.ref (A 9), .int z39, .long y27_2]) 49 (gd rfl) rfl rfl rfl rfl rfl (Nat.le_of_ble_eq_true rfl) (Nat.zero_le _) (Nat.zero_le _) (k_264n (by first | exact dq1 hd rfl | exact dq0 hd rfl | exact dq2 hd rfl | exact dq3 hd rfl | omega) c29) (fun v u h => ?_)
            obtain ⟨z46, rfl, rfl, i46, hb46, hl46⟩ := h
            show GG _ _ _ _ _ _ _ _ [.int z46, .ref (A 9), .int z39, .long y27_2] _ _ _
            refine g_iaload 50 (gd rfl) rfl (n := 32) rfl (in_ix i46 rfl) (fun z49 e49 => ?_)
            refine g_iand 51 (gd rfl) rfl (fun z50 e50 => ?_)
            refine g_calls (As := [.int z50]) (r := [.long y27_2]) 54 (gd rfl) rfl rfl rfl rfl rfl (Nat.le_of_ble_eq_true rfl) (Nat.zero_le _) (Nat.zero_le _) (k_414b (by first | exact dq1 hd rfl | exact dq0 hd rfl | exact dq2 hd rfl | exact dq3 hd rfl | omega) hIc27 ) (fun v u h => ?_)
            obtain ⟨z51, rfl, rfl, i51⟩ := h
            show GG _ _ _ _ _ _ _ _ [.int z51, .long y27_2] _ _ _
            refine g_i2l 55 (gd rfl) rfl (fun z54 e54 => ?_)
            have i54 := l_i e54 i51
            refine g_ladd 56 (gd rfl) rfl (fun z55 e55 => ?_)
            refine g_lstore_n 57 (gd rfl) rfl (Nat.le_of_ble_eq_true rfl) ?_
            refine g_iload 59 (gd rfl) rfl rfl ?_
            refine g_iload 61 (gd rfl) rfl rfl ?_
            refine g_iconst 1 62 (gd rfl) rfl rfl ?_
            refine g_isub 63 (gd rfl) rfl (fun z62 e62 => ?_)
            refine g_iand 64 (gd rfl) rfl (fun z63 e63 => ?_)
            refine g_istore 66 (gd rfl) rfl (Nat.le_of_ble_eq_true rfl) ?_
            refine g_goto 27 (gd rfl) rfl ?_
            exact gg_w (by first | exact Nat.le_add_right _ _ | exact gw2 | exact gw3 | exact gwe rfl | exact gwf rfl | exact gwg rfl | exact gwh rfl | omega) (gg_f (gf_cons rfl (gf_cons rfl (gf_cons rfl (gf_cons rfl (gf_cons rfl gf_nil))))) (ih27 sc27 z55 z63 hIc27 hFc27 (in_w 0 31 j27_4 rfl) (mb e63 e62 c29 mm27)))
      refine g_iload 11 (gd rfl) rfl rfl ?_
      refine g_aload_n 12 (gd rfl) rfl rfl ?_
      refine g_getI 15 (gd rfl) rfl rfl rfl (fun z12 e12 => ?_)
      have q12 : u_2_1 = z12 := (fr_F e_2_1 hFc9 rfl).trans e12.symm
      subst q12
      refine g_cmp_ge 18 75 (gd rfl) rfl rfl (fun c15 => ?_) (fun c15 => ?_)
      · skip
        refine g_lload_n 76 (gd rfl) rfl rfl ?_
        refine g_ldc2_w 6 79 (gd rfl) rfl rfl ?_
        refine g_ldiv 80 (gd rfl) rfl (by decide) (fun z79 e79 => ?_)
        exact g_lreturn (gd rfl) rfl (hP _ _ ⟨sc9, hIc9, hFc9, z79, rfl, rfl⟩)
      · skip
        have i15 := r_lt1 0 31 c15 j9_4 ro_2_1 rfl
        have i15a := r_lt2 1 32 c15 j9_4 ro_2_1 rfl
        refine g_aload_n 19 (gd rfl) rfl rfl ?_
        refine g_getA (q2 := 9) 22 (gd rfl) rfl rfl rfl rfl ?_
        refine g_iload 24 (gd rfl) rfl rfl ?_
        refine g_iaload 25 (gd rfl) rfl (n := 32) rfl (in_ix i15 rfl) (fun z24 e24 => ?_)
        refine g_istore 27 (gd rfl) rfl (Nat.le_of_ble_eq_true rfl) ?_
        exact gg_w (by first | exact Nat.le_add_right _ _ | exact gw2 | exact gw3 | exact gwe rfl | exact gwf rfl | exact gwg rfl | exact gwh rfl | omega) (gg_f (gf_cons rfl (gf_cons rfl (gf_cons rfl (gf_cons rfl (gf_cons rfl gf_nil))))) (ct27 4294967296 sc9 y9_2 z24 hIc9 hFc9 (in_w 0 31 i15 rfl) (mb_in _)))
  refine g_enter2 (k := 151) (N := 127560528781234) (by first | exact dq1 hd rfl | exact dq0 hd rfl | exact dq2 hd rfl | exact dq3 hd rfl | omega) rfl (Nat.le_of_ble_eq_true rfl) ?_
  refine g_aload_n 1 (gd rfl) rfl rfl ?_
  refine g_callv (X := _) (As := []) (r := []) (b := A 2) (q := 2) 4 (gd rfl) rfl rfl rfl rfl rfl (ww_o rfl) (Nat.le_of_ble_eq_true rfl) (Nat.zero_le _) (Nat.zero_le _) (k_106_2 (by first | exact dq1 hd rfl | exact dq0 hd rfl | exact dq2 hd rfl | exact dq3 hd rfl | omega) hI ) (fun e u h => h) (fun v u h => ?_)
  obtain ⟨s1, hI1, hF1, n1, rfl, rfl⟩ := h
  obtain ⟨z1a, e1⟩ : ∃ w, w = s1.2.2.1 2 4 := ⟨_, rfl⟩
  have i1a := inv_F hI1 (-1) 4000 rfl e1
  obtain ⟨z1b, e1a⟩ : ∃ w, w = s1.2.2.1 2 0 := ⟨_, rfl⟩
  have i1b := inv_F hI1 0 4000 rfl e1a
  rw [← (show z1a = s1.2.2.1 2 4 from e1)] at n1
  rw [← (show z1b = s1.2.2.1 2 0 from e1a)] at n1
  show GG _ _ _ _ _ _ _ _ [] _ _ _
  refine g_lconst 0 5 (gd rfl) rfl rfl ?_
  refine g_lstore_n 6 (gd rfl) rfl (Nat.le_of_ble_eq_true rfl) ?_
  refine g_iconst 0 7 (gd rfl) rfl rfl ?_
  refine g_istore 9 (gd rfl) rfl (Nat.le_of_ble_eq_true rfl) ?_
  exact gg_w (by first | exact Nat.le_of_ble_eq_true rfl | omega) (gg_f (gf_cons rfl (gf_cons rfl (gf_cons rfl (gf_cons rfl gf_nil)))) (ct9 33 s1 (Int64.ofInt 0) (Int32.ofInt 0) hI1 (fr_tr rfl fr_rf hF1) (in_w 0 32 (in_c 0 rfl) rfl) (m_in 33 (in_w 0 32 (in_c 0 rfl) rfl) rfl)))

def fm_151_56_32 : FM := ([39, 40, 41, 42, 43, 44, 45], [], [(32, 4)], [])
/-- GraphHouse$Parts.triangles -/
theorem k_151_56_32 {Z : AmZ} {A : Nat → Nat} {s : GS} {ex : va_W} {d : Nat} {X : AmX}  (hd : 4 ≤ d) (hI : Inv s)  : GC Z d 151 [.ref (A 56), .ref (A 32)] (WW Z A s ++ ex) 0 0 (fun v u => ∃ t : GS, Inv t ∧ Fr fm_151_56_32 s t ∧ ∃ z : Int64, v = some (.long z) ∧ u = WW Z A t ++ ex) X := by
  intro post xp hP hX
  obtain ⟨u_32_1, e_32_1⟩ : ∃ w, w = s.2.2.1 32 1 := ⟨_, rfl⟩
  have ro_32_1 := inv_F hI 0 32 rfl e_32_1
  have ct9 : ∀ (k9 : Nat) (sc9 : GS) (y9_2 : Int64) (y9_4 : Int32), Inv sc9 → Fr fm_151_56_32 s sc9 → (In y9_4 0 32) → 32 - (y9_4).toInt < (k9 : Int) → GG Z (d - 1) 151 post (gx xp) (1 + k9 * 3865470569101) 9 (fun j => xlook j [(0, .ref (A 56)), (1, .ref (A 32)), (2, .long y9_2), (4, .int y9_4)]) [] (WW Z A sc9 ++ ex) 0 0 := by
    intro k9
    induction k9 with
    | zero => intro sc9 y9_2 y9_4 hIc9 hFc9 j9_4 mm9; exact m_no mm9 j9_4 rfl
    | succ k9 ih9 =>
      intro sc9 y9_2 y9_4 hIc9 hFc9 j9_4 mm9
      refine gg_w (M := 1 + k9 * 3865470569101 + 3865470569101) gws ?_
      have ct27 : ∀ (k27 : Nat) (sc27 : GS) (y27_2 : Int64) (y27_5 : Int32), Inv sc27 → Fr fm_151_56_32 s sc27 → (In y9_4 0 31) → ((y27_5.toBitVec.toNat : Nat) : Int) < (k27 : Int) → GG Z (d - 1) 151 post (gx xp) (1 + k9 * 3865470569101 + 1 + k27 * 900) 27 (fun j => xlook j [(0, .ref (A 56)), (1, .ref (A 32)), (2, .long y27_2), (4, .int y9_4), (5, .int y27_5)]) [] (WW Z A sc27 ++ ex) 0 0 := by
        intro k27
        induction k27 with
        | zero => intro sc27 y27_2 y27_5 hIc27 hFc27 j27_4 mm27; exact absurd mm27 (Int.not_lt.mpr (Int.natCast_nonneg _))
        | succ k27 ih27 =>
          intro sc27 y27_2 y27_5 hIc27 hFc27 j27_4 mm27
          refine gg_w (M := 1 + k9 * 3865470569101 + 1 + k27 * 900 + 900) gws ?_
          refine g_iload 29 (gd rfl) rfl rfl ?_
          refine g_if_eq 32 69 (gd rfl) rfl rfl (fun c29 => ?_) (fun c29 => ?_)
          · skip
            have i29 := z_eq 0 0 c29 (i_rng y27_5) rfl
            refine g_iinc 72 (gd rfl) rfl rfl (Nat.le_of_ble_eq_true rfl) (fun z69 e69 => ?_)
            have i69 := in_add 1 32 e69 j27_4 (in_c 1 rfl) rfl rfl
            refine g_goto 9 (gd rfl) rfl ?_
            exact gg_w (by first | exact Nat.le_add_right _ _ | exact gw2 | exact gw3 | exact gwe rfl | exact gwf rfl | exact gwg rfl | exact gwh rfl | omega) (gg_f (gf_cons rfl (gf_cons rfl (gf_cons rfl (gf_cons rfl gf_nil)))) (ih9 sc27 y27_2 z69 hIc27 hFc27 (in_w 0 32 i69 rfl) (m_up mm9 (t_add e69 j27_4 (in_c 1 rfl) rfl) (in_w 1 1 (in_c 1 rfl) rfl))))
          · skip
            refine g_lload_n 33 (gd rfl) rfl rfl ?_
            refine g_aload_n 34 (gd rfl) rfl rfl ?_
            refine g_getA (q2 := 39) 37 (gd rfl) rfl rfl rfl rfl ?_
            refine g_iload 39 (gd rfl) rfl rfl ?_
            refine g_iaload 40 (gd rfl) rfl (n := 32) rfl (in_ix j27_4 rfl) (fun z39 e39 => ?_)
            refine g_aload_n 41 (gd rfl) rfl rfl ?_
            refine g_getA (q2 := 39) 44 (gd rfl) rfl rfl rfl rfl ?_
            refine g_iload 46 (gd rfl) rfl rfl ?_
            refine g_calls (As := [.int y27_5]) (r := [.ref (A 39), .int z39, .long y27_2]) 49 (gd rfl) rfl rfl rfl rfl rfl (Nat.le_of_ble_eq_true rfl) (Nat.zero_le _) (Nat.zero_le _) (k_264n (by first | exact dq1 hd rfl | exact dq0 hd rfl | exact dq2 hd rfl | exact dq3 hd rfl | omega) c29) (fun v u h => ?_)
            obtain ⟨z46, rfl, rfl, i46, hb46, hl46⟩ := h
            show GG _ _ _ _ _ _ _ _ [.int z46, .ref (A 39), .int z39, .long y27_2] _ _ _
            refine g_iaload 50 (gd rfl) rfl (n := 32) rfl (in_ix i46 rfl) (fun z49 e49 => ?_)
            refine g_iand 51 (gd rfl) rfl (fun z50 e50 => ?_)
            refine g_calls (As := [.int z50]) (r := [.long y27_2]) 54 (gd rfl) rfl rfl rfl rfl rfl (Nat.le_of_ble_eq_true rfl) (Nat.zero_le _) (Nat.zero_le _) (k_414b (by first | exact dq1 hd rfl | exact dq0 hd rfl | exact dq2 hd rfl | exact dq3 hd rfl | omega) hIc27 ) (fun v u h => ?_)
            obtain ⟨z51, rfl, rfl, i51⟩ := h
            show GG _ _ _ _ _ _ _ _ [.int z51, .long y27_2] _ _ _
            refine g_i2l 55 (gd rfl) rfl (fun z54 e54 => ?_)
            have i54 := l_i e54 i51
            refine g_ladd 56 (gd rfl) rfl (fun z55 e55 => ?_)
            refine g_lstore_n 57 (gd rfl) rfl (Nat.le_of_ble_eq_true rfl) ?_
            refine g_iload 59 (gd rfl) rfl rfl ?_
            refine g_iload 61 (gd rfl) rfl rfl ?_
            refine g_iconst 1 62 (gd rfl) rfl rfl ?_
            refine g_isub 63 (gd rfl) rfl (fun z62 e62 => ?_)
            refine g_iand 64 (gd rfl) rfl (fun z63 e63 => ?_)
            refine g_istore 66 (gd rfl) rfl (Nat.le_of_ble_eq_true rfl) ?_
            refine g_goto 27 (gd rfl) rfl ?_
            exact gg_w (by first | exact Nat.le_add_right _ _ | exact gw2 | exact gw3 | exact gwe rfl | exact gwf rfl | exact gwg rfl | exact gwh rfl | omega) (gg_f (gf_cons rfl (gf_cons rfl (gf_cons rfl (gf_cons rfl (gf_cons rfl gf_nil))))) (ih27 sc27 z55 z63 hIc27 hFc27 (in_w 0 31 j27_4 rfl) (mb e63 e62 c29 mm27)))
      refine g_iload 11 (gd rfl) rfl rfl ?_
      refine g_aload_n 12 (gd rfl) rfl rfl ?_
      refine g_getI 15 (gd rfl) rfl rfl rfl (fun z12 e12 => ?_)
      have q12 : u_32_1 = z12 := (fr_F e_32_1 hFc9 rfl).trans e12.symm
      subst q12
      refine g_cmp_ge 18 75 (gd rfl) rfl rfl (fun c15 => ?_) (fun c15 => ?_)
      · skip
        refine g_lload_n 76 (gd rfl) rfl rfl ?_
        refine g_ldc2_w 6 79 (gd rfl) rfl rfl ?_
        refine g_ldiv 80 (gd rfl) rfl (by decide) (fun z79 e79 => ?_)
        exact g_lreturn (gd rfl) rfl (hP _ _ ⟨sc9, hIc9, hFc9, z79, rfl, rfl⟩)
      · skip
        have i15 := r_lt1 0 31 c15 j9_4 ro_32_1 rfl
        have i15a := r_lt2 1 32 c15 j9_4 ro_32_1 rfl
        refine g_aload_n 19 (gd rfl) rfl rfl ?_
        refine g_getA (q2 := 39) 22 (gd rfl) rfl rfl rfl rfl ?_
        refine g_iload 24 (gd rfl) rfl rfl ?_
        refine g_iaload 25 (gd rfl) rfl (n := 32) rfl (in_ix i15 rfl) (fun z24 e24 => ?_)
        refine g_istore 27 (gd rfl) rfl (Nat.le_of_ble_eq_true rfl) ?_
        exact gg_w (by first | exact Nat.le_add_right _ _ | exact gw2 | exact gw3 | exact gwe rfl | exact gwf rfl | exact gwg rfl | exact gwh rfl | omega) (gg_f (gf_cons rfl (gf_cons rfl (gf_cons rfl (gf_cons rfl (gf_cons rfl gf_nil))))) (ct27 4294967296 sc9 y9_2 z24 hIc9 hFc9 (in_w 0 31 i15 rfl) (mb_in _)))
  refine g_enter2 (k := 151) (N := 127560528781234) (by first | exact dq1 hd rfl | exact dq0 hd rfl | exact dq2 hd rfl | exact dq3 hd rfl | omega) rfl (Nat.le_of_ble_eq_true rfl) ?_
  refine g_aload_n 1 (gd rfl) rfl rfl ?_
  refine g_callv (X := _) (As := []) (r := []) (b := A 32) (q := 32) 4 (gd rfl) rfl rfl rfl rfl rfl (ww_o rfl) (Nat.le_of_ble_eq_true rfl) (Nat.zero_le _) (Nat.zero_le _) (k_106_32 (by first | exact dq1 hd rfl | exact dq0 hd rfl | exact dq2 hd rfl | exact dq3 hd rfl | omega) hI ) (fun e u h => h) (fun v u h => ?_)
  obtain ⟨s1, hI1, hF1, n1, rfl, rfl⟩ := h
  obtain ⟨z1a, e1⟩ : ∃ w, w = s1.2.2.1 32 4 := ⟨_, rfl⟩
  have i1a := inv_F hI1 (-1) 4000 rfl e1
  obtain ⟨z1b, e1a⟩ : ∃ w, w = s1.2.2.1 32 0 := ⟨_, rfl⟩
  have i1b := inv_F hI1 0 4000 rfl e1a
  rw [← (show z1a = s1.2.2.1 32 4 from e1)] at n1
  rw [← (show z1b = s1.2.2.1 32 0 from e1a)] at n1
  show GG _ _ _ _ _ _ _ _ [] _ _ _
  refine g_lconst 0 5 (gd rfl) rfl rfl ?_
  refine g_lstore_n 6 (gd rfl) rfl (Nat.le_of_ble_eq_true rfl) ?_
  refine g_iconst 0 7 (gd rfl) rfl rfl ?_
  refine g_istore 9 (gd rfl) rfl (Nat.le_of_ble_eq_true rfl) ?_
  exact gg_w (by first | exact Nat.le_of_ble_eq_true rfl | omega) (gg_f (gf_cons rfl (gf_cons rfl (gf_cons rfl (gf_cons rfl gf_nil)))) (ct9 33 s1 (Int64.ofInt 0) (Int32.ofInt 0) hI1 (fr_tr rfl fr_rf hF1) (in_w 0 32 (in_c 0 rfl) rfl) (m_in 33 (in_w 0 32 (in_c 0 rfl) rfl) rfl)))
end
section
/-! methods, by vc.py -/
def fm_152_56_2 : FM := ([9, 10, 11, 12, 13, 14, 15], [], [(2, 4)], [])
/-- GraphHouse$Parts.squares -/
theorem k_152_56_2 {Z : AmZ} {A : Nat → Nat} {s : GS} {ex : va_W} {d : Nat} {X : AmX}  (hd : 4 ≤ d) (hI : Inv s)  : GC Z d 152 [.ref (A 56), .ref (A 2)] (WW Z A s ++ ex) 0 0 (fun v u => ∃ t : GS, Inv t ∧ Fr fm_152_56_2 s t ∧ ∃ z : Int64, v = some (.long z) ∧ u = WW Z A t ++ ex) X := by
  intro post xp hP hX
  obtain ⟨u_2_1, e_2_1⟩ : ∃ w, w = s.2.2.1 2 1 := ⟨_, rfl⟩
  have ro_2_1 := inv_F hI 0 32 rfl e_2_1
  have ct9 : ∀ (k9 : Nat) (sc9 : GS) (y9_2 : Int64) (y9_4 : Int32), Inv sc9 → Fr fm_152_56_2 s sc9 → (In y9_4 0 32) → 32 - (y9_4).toInt < (k9 : Int) → GG Z (d - 1) 152 post (gx xp) (1 + k9 * 31501) 9 (fun j => xlook j [(0, .ref (A 56)), (1, .ref (A 2)), (2, .long y9_2), (4, .int y9_4)]) [] (WW Z A sc9 ++ ex) 0 0 := by
    intro k9
    induction k9 with
    | zero => intro sc9 y9_2 y9_4 hIc9 hFc9 j9_4 mm9; exact m_no mm9 j9_4 rfl
    | succ k9 ih9 =>
      intro sc9 y9_2 y9_4 hIc9 hFc9 j9_4 mm9
      refine gg_w (M := 1 + k9 * 31501 + 31501) gws ?_
      have ct24 : ∀ (k24 : Nat) (sc24 : GS) (y24_2 : Int64) (y24_5 : Int32), Inv sc24 → Fr fm_152_56_2 s sc24 → (In y9_4 0 31) → (In y24_5 1 32) → 32 - (y24_5).toInt < (k24 : Int) → GG Z (d - 1) 152 post (gx xp) (1 + k9 * 31501 + 1 + k24 * 900) 24 (fun j => xlook j [(0, .ref (A 56)), (1, .ref (A 2)), (2, .long y24_2), (4, .int y9_4), (5, .int y24_5)]) [] (WW Z A sc24 ++ ex) 0 0 := by
        intro k24
        induction k24 with
        | zero => intro sc24 y24_2 y24_5 hIc24 hFc24 j24_4 j24_5 mm24; exact m_no mm24 j24_5 rfl
        | succ k24 ih24 =>
          intro sc24 y24_2 y24_5 hIc24 hFc24 j24_4 j24_5 mm24
          refine gg_w (M := 1 + k9 * 31501 + 1 + k24 * 900 + 900) gws ?_
          refine g_iload 26 (gd rfl) rfl rfl ?_
          refine g_aload_n 27 (gd rfl) rfl rfl ?_
          refine g_getI 30 (gd rfl) rfl rfl rfl (fun z27 e27 => ?_)
          have q27 : u_2_1 = z27 := (fr_F e_2_1 hFc24 rfl).trans e27.symm
          subst q27
          refine g_cmp_ge 33 72 (gd rfl) rfl rfl (fun c30 => ?_) (fun c30 => ?_)
          · skip
            refine g_iinc 75 (gd rfl) rfl rfl (Nat.le_of_ble_eq_true rfl) (fun z72 e72 => ?_)
            have i72 := in_add 1 32 e72 j24_4 (in_c 1 rfl) rfl rfl
            refine g_goto 9 (gd rfl) rfl ?_
            exact gg_w (by first | exact Nat.le_add_right _ _ | exact gw2 | exact gw3 | exact gwe rfl | exact gwf rfl | exact gwg rfl | exact gwh rfl | omega) (gg_f (gf_cons rfl (gf_cons rfl (gf_cons rfl (gf_cons rfl gf_nil)))) (ih9 sc24 y24_2 z72 hIc24 hFc24 (in_w 0 32 i72 rfl) (m_up mm9 (t_add e72 j24_4 (in_c 1 rfl) rfl) (in_w 1 1 (in_c 1 rfl) rfl))))
          · skip
            have i30 := r_lt1 1 31 c30 j24_5 ro_2_1 rfl
            have i30a := r_lt2 2 32 c30 j24_5 ro_2_1 rfl
            refine g_aload_n 34 (gd rfl) rfl rfl ?_
            refine g_getA (q2 := 9) 37 (gd rfl) rfl rfl rfl rfl ?_
            refine g_iload 39 (gd rfl) rfl rfl ?_
            refine g_iaload 40 (gd rfl) rfl (n := 32) rfl (in_ix j24_4 rfl) (fun z39 e39 => ?_)
            refine g_aload_n 41 (gd rfl) rfl rfl ?_
            refine g_getA (q2 := 9) 44 (gd rfl) rfl rfl rfl rfl ?_
            refine g_iload 46 (gd rfl) rfl rfl ?_
            refine g_iaload 47 (gd rfl) rfl (n := 32) rfl (in_ix i30 rfl) (fun z46 e46 => ?_)
            refine g_iand 48 (gd rfl) rfl (fun z47 e47 => ?_)
            refine g_calls (As := [.int z47]) (r := []) 51 (gd rfl) rfl rfl rfl rfl rfl (Nat.le_of_ble_eq_true rfl) (Nat.zero_le _) (Nat.zero_le _) (k_414b (by first | exact dq1 hd rfl | exact dq0 hd rfl | exact dq2 hd rfl | exact dq3 hd rfl | omega) hIc24 ) (fun v u h => ?_)
            obtain ⟨z48, rfl, rfl, i48⟩ := h
            show GG _ _ _ _ _ _ _ _ [.int z48] _ _ _
            refine g_istore 53 (gd rfl) rfl (Nat.le_of_ble_eq_true rfl) ?_
            refine g_lload_n 54 (gd rfl) rfl rfl ?_
            refine g_iload 56 (gd rfl) rfl rfl ?_
            refine g_iload 58 (gd rfl) rfl rfl ?_
            refine g_iconst 1 59 (gd rfl) rfl rfl ?_
            refine g_isub 60 (gd rfl) rfl (fun z59 e59 => ?_)
            have i59 := in_sub (-1) 31 e59 i48 (in_c 1 rfl) rfl rfl
            refine g_imul 61 (gd rfl) rfl (fun z60 e60 => ?_)
            refine g_iconst 2 62 (gd rfl) rfl rfl ?_
            refine g_idiv 63 (gd rfl) rfl (by decide) (fun z62 e62 => ?_)
            refine g_i2l 64 (gd rfl) rfl (fun z63 e63 => ?_)
            have i63 := l_i e63 (i_rng z62)
            refine g_ladd 65 (gd rfl) rfl (fun z64 e64 => ?_)
            refine g_lstore_n 66 (gd rfl) rfl (Nat.le_of_ble_eq_true rfl) ?_
            refine g_iinc 69 (gd rfl) rfl rfl (Nat.le_of_ble_eq_true rfl) (fun z66 e66 => ?_)
            have i66 := in_add 2 32 e66 i30 (in_c 1 rfl) rfl rfl
            refine g_goto 24 (gd rfl) rfl ?_
            exact gg_w (by first | exact Nat.le_add_right _ _ | exact gw2 | exact gw3 | exact gwe rfl | exact gwf rfl | exact gwg rfl | exact gwh rfl | omega) (gg_f (gf_cons rfl (gf_cons rfl (gf_cons rfl (gf_cons rfl (gf_cons rfl gf_nil))))) (ih24 sc24 z64 z66 hIc24 hFc24 (in_w 0 31 j24_4 rfl) (in_w 1 32 i66 rfl) (m_up mm24 (t_add e66 i30 (in_c 1 rfl) rfl) (in_w 1 1 (in_c 1 rfl) rfl))))
      refine g_iload 11 (gd rfl) rfl rfl ?_
      refine g_aload_n 12 (gd rfl) rfl rfl ?_
      refine g_getI 15 (gd rfl) rfl rfl rfl (fun z12 e12 => ?_)
      have q12 : u_2_1 = z12 := (fr_F e_2_1 hFc9 rfl).trans e12.symm
      subst q12
      refine g_cmp_ge 18 78 (gd rfl) rfl rfl (fun c15 => ?_) (fun c15 => ?_)
      · skip
        refine g_lload_n 79 (gd rfl) rfl rfl ?_
        refine g_ldc2_w 2 82 (gd rfl) rfl rfl ?_
        refine g_ldiv 83 (gd rfl) rfl (by decide) (fun z82 e82 => ?_)
        exact g_lreturn (gd rfl) rfl (hP _ _ ⟨sc9, hIc9, hFc9, z82, rfl, rfl⟩)
      · skip
        have i15 := r_lt1 0 31 c15 j9_4 ro_2_1 rfl
        have i15a := r_lt2 1 32 c15 j9_4 ro_2_1 rfl
        refine g_iload 20 (gd rfl) rfl rfl ?_
        refine g_iconst 1 21 (gd rfl) rfl rfl ?_
        refine g_iadd 22 (gd rfl) rfl (fun z21 e21 => ?_)
        have i21 := in_add 1 32 e21 i15 (in_c 1 rfl) rfl rfl
        refine g_istore 24 (gd rfl) rfl (Nat.le_of_ble_eq_true rfl) ?_
        exact gg_w (by first | exact Nat.le_add_right _ _ | exact gw2 | exact gw3 | exact gwe rfl | exact gwf rfl | exact gwg rfl | exact gwh rfl | omega) (gg_f (gf_cons rfl (gf_cons rfl (gf_cons rfl (gf_cons rfl (gf_cons rfl gf_nil))))) (ct24 32 sc9 y9_2 z21 hIc9 hFc9 (in_w 0 31 i15 rfl) (in_w 1 32 i21 rfl) (m_in 32 (in_w 1 32 i21 rfl) rfl)))
  refine g_enter2 (k := 152) (N := 1040434) (by first | exact dq1 hd rfl | exact dq0 hd rfl | exact dq2 hd rfl | exact dq3 hd rfl | omega) rfl (Nat.le_of_ble_eq_true rfl) ?_
  refine g_aload_n 1 (gd rfl) rfl rfl ?_
  refine g_callv (X := _) (As := []) (r := []) (b := A 2) (q := 2) 4 (gd rfl) rfl rfl rfl rfl rfl (ww_o rfl) (Nat.le_of_ble_eq_true rfl) (Nat.zero_le _) (Nat.zero_le _) (k_106_2 (by first | exact dq1 hd rfl | exact dq0 hd rfl | exact dq2 hd rfl | exact dq3 hd rfl | omega) hI ) (fun e u h => h) (fun v u h => ?_)
  obtain ⟨s1, hI1, hF1, n1, rfl, rfl⟩ := h
  obtain ⟨z1a, e1⟩ : ∃ w, w = s1.2.2.1 2 4 := ⟨_, rfl⟩
  have i1a := inv_F hI1 (-1) 4000 rfl e1
  obtain ⟨z1b, e1a⟩ : ∃ w, w = s1.2.2.1 2 0 := ⟨_, rfl⟩
  have i1b := inv_F hI1 0 4000 rfl e1a
  rw [← (show z1a = s1.2.2.1 2 4 from e1)] at n1
  rw [← (show z1b = s1.2.2.1 2 0 from e1a)] at n1
  show GG _ _ _ _ _ _ _ _ [] _ _ _
  refine g_lconst 0 5 (gd rfl) rfl rfl ?_
  refine g_lstore_n 6 (gd rfl) rfl (Nat.le_of_ble_eq_true rfl) ?_
  refine g_iconst 0 7 (gd rfl) rfl rfl ?_
  refine g_istore 9 (gd rfl) rfl (Nat.le_of_ble_eq_true rfl) ?_
  exact gg_w (by first | exact Nat.le_of_ble_eq_true rfl | omega) (gg_f (gf_cons rfl (gf_cons rfl (gf_cons rfl (gf_cons rfl gf_nil)))) (ct9 33 s1 (Int64.ofInt 0) (Int32.ofInt 0) hI1 (fr_tr rfl fr_rf hF1) (in_w 0 32 (in_c 0 rfl) rfl) (m_in 33 (in_w 0 32 (in_c 0 rfl) rfl) rfl)))

def fm_152_56_32 : FM := ([39, 40, 41, 42, 43, 44, 45], [], [(32, 4)], [])
/-- GraphHouse$Parts.squares -/
theorem k_152_56_32 {Z : AmZ} {A : Nat → Nat} {s : GS} {ex : va_W} {d : Nat} {X : AmX}  (hd : 4 ≤ d) (hI : Inv s)  : GC Z d 152 [.ref (A 56), .ref (A 32)] (WW Z A s ++ ex) 0 0 (fun v u => ∃ t : GS, Inv t ∧ Fr fm_152_56_32 s t ∧ ∃ z : Int64, v = some (.long z) ∧ u = WW Z A t ++ ex) X := by
  intro post xp hP hX
  obtain ⟨u_32_1, e_32_1⟩ : ∃ w, w = s.2.2.1 32 1 := ⟨_, rfl⟩
  have ro_32_1 := inv_F hI 0 32 rfl e_32_1
  have ct9 : ∀ (k9 : Nat) (sc9 : GS) (y9_2 : Int64) (y9_4 : Int32), Inv sc9 → Fr fm_152_56_32 s sc9 → (In y9_4 0 32) → 32 - (y9_4).toInt < (k9 : Int) → GG Z (d - 1) 152 post (gx xp) (1 + k9 * 31501) 9 (fun j => xlook j [(0, .ref (A 56)), (1, .ref (A 32)), (2, .long y9_2), (4, .int y9_4)]) [] (WW Z A sc9 ++ ex) 0 0 := by
    intro k9
    induction k9 with
    | zero => intro sc9 y9_2 y9_4 hIc9 hFc9 j9_4 mm9; exact m_no mm9 j9_4 rfl
    | succ k9 ih9 =>
      intro sc9 y9_2 y9_4 hIc9 hFc9 j9_4 mm9
      refine gg_w (M := 1 + k9 * 31501 + 31501) gws ?_
      have ct24 : ∀ (k24 : Nat) (sc24 : GS) (y24_2 : Int64) (y24_5 : Int32), Inv sc24 → Fr fm_152_56_32 s sc24 → (In y9_4 0 31) → (In y24_5 1 32) → 32 - (y24_5).toInt < (k24 : Int) → GG Z (d - 1) 152 post (gx xp) (1 + k9 * 31501 + 1 + k24 * 900) 24 (fun j => xlook j [(0, .ref (A 56)), (1, .ref (A 32)), (2, .long y24_2), (4, .int y9_4), (5, .int y24_5)]) [] (WW Z A sc24 ++ ex) 0 0 := by
        intro k24
        induction k24 with
        | zero => intro sc24 y24_2 y24_5 hIc24 hFc24 j24_4 j24_5 mm24; exact m_no mm24 j24_5 rfl
        | succ k24 ih24 =>
          intro sc24 y24_2 y24_5 hIc24 hFc24 j24_4 j24_5 mm24
          refine gg_w (M := 1 + k9 * 31501 + 1 + k24 * 900 + 900) gws ?_
          refine g_iload 26 (gd rfl) rfl rfl ?_
          refine g_aload_n 27 (gd rfl) rfl rfl ?_
          refine g_getI 30 (gd rfl) rfl rfl rfl (fun z27 e27 => ?_)
          have q27 : u_32_1 = z27 := (fr_F e_32_1 hFc24 rfl).trans e27.symm
          subst q27
          refine g_cmp_ge 33 72 (gd rfl) rfl rfl (fun c30 => ?_) (fun c30 => ?_)
          · skip
            refine g_iinc 75 (gd rfl) rfl rfl (Nat.le_of_ble_eq_true rfl) (fun z72 e72 => ?_)
            have i72 := in_add 1 32 e72 j24_4 (in_c 1 rfl) rfl rfl
            refine g_goto 9 (gd rfl) rfl ?_
            exact gg_w (by first | exact Nat.le_add_right _ _ | exact gw2 | exact gw3 | exact gwe rfl | exact gwf rfl | exact gwg rfl | exact gwh rfl | omega) (gg_f (gf_cons rfl (gf_cons rfl (gf_cons rfl (gf_cons rfl gf_nil)))) (ih9 sc24 y24_2 z72 hIc24 hFc24 (in_w 0 32 i72 rfl) (m_up mm9 (t_add e72 j24_4 (in_c 1 rfl) rfl) (in_w 1 1 (in_c 1 rfl) rfl))))
          · skip
            have i30 := r_lt1 1 31 c30 j24_5 ro_32_1 rfl
            have i30a := r_lt2 2 32 c30 j24_5 ro_32_1 rfl
            refine g_aload_n 34 (gd rfl) rfl rfl ?_
            refine g_getA (q2 := 39) 37 (gd rfl) rfl rfl rfl rfl ?_
            refine g_iload 39 (gd rfl) rfl rfl ?_
            refine g_iaload 40 (gd rfl) rfl (n := 32) rfl (in_ix j24_4 rfl) (fun z39 e39 => ?_)
            refine g_aload_n 41 (gd rfl) rfl rfl ?_
            refine g_getA (q2 := 39) 44 (gd rfl) rfl rfl rfl rfl ?_
            refine g_iload 46 (gd rfl) rfl rfl ?_
            refine g_iaload 47 (gd rfl) rfl (n := 32) rfl (in_ix i30 rfl) (fun z46 e46 => ?_)
            refine g_iand 48 (gd rfl) rfl (fun z47 e47 => ?_)
            refine g_calls (As := [.int z47]) (r := []) 51 (gd rfl) rfl rfl rfl rfl rfl (Nat.le_of_ble_eq_true rfl) (Nat.zero_le _) (Nat.zero_le _) (k_414b (by first | exact dq1 hd rfl | exact dq0 hd rfl | exact dq2 hd rfl | exact dq3 hd rfl | omega) hIc24 ) (fun v u h => ?_)
            obtain ⟨z48, rfl, rfl, i48⟩ := h
            show GG _ _ _ _ _ _ _ _ [.int z48] _ _ _
            refine g_istore 53 (gd rfl) rfl (Nat.le_of_ble_eq_true rfl) ?_
            refine g_lload_n 54 (gd rfl) rfl rfl ?_
            refine g_iload 56 (gd rfl) rfl rfl ?_
            refine g_iload 58 (gd rfl) rfl rfl ?_
            refine g_iconst 1 59 (gd rfl) rfl rfl ?_
            refine g_isub 60 (gd rfl) rfl (fun z59 e59 => ?_)
            have i59 := in_sub (-1) 31 e59 i48 (in_c 1 rfl) rfl rfl
            refine g_imul 61 (gd rfl) rfl (fun z60 e60 => ?_)
            refine g_iconst 2 62 (gd rfl) rfl rfl ?_
            refine g_idiv 63 (gd rfl) rfl (by decide) (fun z62 e62 => ?_)
            refine g_i2l 64 (gd rfl) rfl (fun z63 e63 => ?_)
            have i63 := l_i e63 (i_rng z62)
            refine g_ladd 65 (gd rfl) rfl (fun z64 e64 => ?_)
            refine g_lstore_n 66 (gd rfl) rfl (Nat.le_of_ble_eq_true rfl) ?_
            refine g_iinc 69 (gd rfl) rfl rfl (Nat.le_of_ble_eq_true rfl) (fun z66 e66 => ?_)
            have i66 := in_add 2 32 e66 i30 (in_c 1 rfl) rfl rfl
            refine g_goto 24 (gd rfl) rfl ?_
            exact gg_w (by first | exact Nat.le_add_right _ _ | exact gw2 | exact gw3 | exact gwe rfl | exact gwf rfl | exact gwg rfl | exact gwh rfl | omega) (gg_f (gf_cons rfl (gf_cons rfl (gf_cons rfl (gf_cons rfl (gf_cons rfl gf_nil))))) (ih24 sc24 z64 z66 hIc24 hFc24 (in_w 0 31 j24_4 rfl) (in_w 1 32 i66 rfl) (m_up mm24 (t_add e66 i30 (in_c 1 rfl) rfl) (in_w 1 1 (in_c 1 rfl) rfl))))
      refine g_iload 11 (gd rfl) rfl rfl ?_
      refine g_aload_n 12 (gd rfl) rfl rfl ?_
      refine g_getI 15 (gd rfl) rfl rfl rfl (fun z12 e12 => ?_)
      have q12 : u_32_1 = z12 := (fr_F e_32_1 hFc9 rfl).trans e12.symm
      subst q12
      refine g_cmp_ge 18 78 (gd rfl) rfl rfl (fun c15 => ?_) (fun c15 => ?_)
      · skip
        refine g_lload_n 79 (gd rfl) rfl rfl ?_
        refine g_ldc2_w 2 82 (gd rfl) rfl rfl ?_
        refine g_ldiv 83 (gd rfl) rfl (by decide) (fun z82 e82 => ?_)
        exact g_lreturn (gd rfl) rfl (hP _ _ ⟨sc9, hIc9, hFc9, z82, rfl, rfl⟩)
      · skip
        have i15 := r_lt1 0 31 c15 j9_4 ro_32_1 rfl
        have i15a := r_lt2 1 32 c15 j9_4 ro_32_1 rfl
        refine g_iload 20 (gd rfl) rfl rfl ?_
        refine g_iconst 1 21 (gd rfl) rfl rfl ?_
        refine g_iadd 22 (gd rfl) rfl (fun z21 e21 => ?_)
        have i21 := in_add 1 32 e21 i15 (in_c 1 rfl) rfl rfl
        refine g_istore 24 (gd rfl) rfl (Nat.le_of_ble_eq_true rfl) ?_
        exact gg_w (by first | exact Nat.le_add_right _ _ | exact gw2 | exact gw3 | exact gwe rfl | exact gwf rfl | exact gwg rfl | exact gwh rfl | omega) (gg_f (gf_cons rfl (gf_cons rfl (gf_cons rfl (gf_cons rfl (gf_cons rfl gf_nil))))) (ct24 32 sc9 y9_2 z21 hIc9 hFc9 (in_w 0 31 i15 rfl) (in_w 1 32 i21 rfl) (m_in 32 (in_w 1 32 i21 rfl) rfl)))
  refine g_enter2 (k := 152) (N := 1040434) (by first | exact dq1 hd rfl | exact dq0 hd rfl | exact dq2 hd rfl | exact dq3 hd rfl | omega) rfl (Nat.le_of_ble_eq_true rfl) ?_
  refine g_aload_n 1 (gd rfl) rfl rfl ?_
  refine g_callv (X := _) (As := []) (r := []) (b := A 32) (q := 32) 4 (gd rfl) rfl rfl rfl rfl rfl (ww_o rfl) (Nat.le_of_ble_eq_true rfl) (Nat.zero_le _) (Nat.zero_le _) (k_106_32 (by first | exact dq1 hd rfl | exact dq0 hd rfl | exact dq2 hd rfl | exact dq3 hd rfl | omega) hI ) (fun e u h => h) (fun v u h => ?_)
  obtain ⟨s1, hI1, hF1, n1, rfl, rfl⟩ := h
  obtain ⟨z1a, e1⟩ : ∃ w, w = s1.2.2.1 32 4 := ⟨_, rfl⟩
  have i1a := inv_F hI1 (-1) 4000 rfl e1
  obtain ⟨z1b, e1a⟩ : ∃ w, w = s1.2.2.1 32 0 := ⟨_, rfl⟩
  have i1b := inv_F hI1 0 4000 rfl e1a
  rw [← (show z1a = s1.2.2.1 32 4 from e1)] at n1
  rw [← (show z1b = s1.2.2.1 32 0 from e1a)] at n1
  show GG _ _ _ _ _ _ _ _ [] _ _ _
  refine g_lconst 0 5 (gd rfl) rfl rfl ?_
  refine g_lstore_n 6 (gd rfl) rfl (Nat.le_of_ble_eq_true rfl) ?_
  refine g_iconst 0 7 (gd rfl) rfl rfl ?_
  refine g_istore 9 (gd rfl) rfl (Nat.le_of_ble_eq_true rfl) ?_
  exact gg_w (by first | exact Nat.le_of_ble_eq_true rfl | omega) (gg_f (gf_cons rfl (gf_cons rfl (gf_cons rfl (gf_cons rfl gf_nil)))) (ct9 33 s1 (Int64.ofInt 0) (Int32.ofInt 0) hI1 (fr_tr rfl fr_rf hF1) (in_w 0 32 (in_c 0 rfl) rfl) (m_in 33 (in_w 0 32 (in_c 0 rfl) rfl) rfl)))

def fm_159_94 : FM := ([], [95], [], [])
/-- GraphHouse$Question.closeBars -/
theorem k_159_94 {Z : AmZ} {A : Nat → Nat} {s : GS} {ex : va_W} {d : Nat} {X : AmX} {x1 : Int64} {x2 : Int64} (hd : 4 ≤ d) (hI : Inv s) (q_0 : InL x1 0 1152921504606846975) (q_1 : InL x2 0 2305843009213693951) : GC Z d 159 [.ref (A 94), .long x1, .long x2] (WW Z A s ++ ex) 0 0 (fun v u => ∃ t : GS, Inv t ∧ Fr fm_159_94 s t ∧ v = none ∧ u = WW Z A t ++ ex) X := by
  intro post xp hP hX
  have ct3 : ∀ (k3 : Nat) (sc3 : GS) (y3_5 : Int64), Inv sc3 → Fr fm_159_94 s sc3 → (InL y3_5 0 1152921504606846975) → ((y3_5.toBitVec.toNat : Nat) : Int) < (k3 : Int) → GG Z (d - 1) 159 post (gx xp) (1 + k3 * 900) 3 (fun j => xlook j [(0, .ref (A 94)), (1, .long x1), (3, .long x2), (5, .long y3_5)]) [] (WW Z A sc3 ++ ex) 0 0 := by
    intro k3
    induction k3 with
    | zero => intro sc3 y3_5 hIc3 hFc3 g3_0 mm3; exact absurd mm3 (Int.not_lt.mpr (Int.natCast_nonneg _))
    | succ k3 ih3 =>
      intro sc3 y3_5 hIc3 hFc3 g3_0 mm3
      refine gg_w (M := 1 + k3 * 900 + 900) gws ?_
      have i3 : InL y3_5 0 1152921504606846975 := by exact g3_0
      have i3a : InL x2 0 2305843009213693951 := by exact q_1
      refine g_lload 5 (gd rfl) rfl rfl ?_
      refine g_lconst 0 6 (gd rfl) rfl rfl ?_
      refine g_lcmp 7 (gd rfl) rfl (fun z6 e6 => ?_)
      have i6 := lc_in e6
      refine g_if_eq 10 36 (gd rfl) rfl rfl (fun c7 => ?_) (fun c7 => ?_)
      · skip
        have i7 := z_eq 0 0 c7 i6 rfl
        have c7a := lc_eq e6 c7
        have i7a := lr_eq1 0 0 c7a i3 (l_c 0 rfl) rfl
        exact g_return (gd rfl) rfl (hP _ _ ⟨sc3, hIc3, hFc3, rfl, rfl⟩)
      · skip
        have c7a := lc_ne e6 c7
        have i7 := lr_ne1 1 1152921504606846975 c7a i3 (l_c 0 rfl) rfl
        refine g_aload_n 11 (gd rfl) rfl rfl ?_
        refine g_getA (q2 := 95) 14 (gd rfl) rfl rfl rfl rfl ?_
        refine g_lload 16 (gd rfl) rfl rfl ?_
        refine g_calls (As := [.long y3_5]) (r := [.ref (A 95)]) 19 (gd rfl) rfl rfl rfl rfl rfl (Nat.le_of_ble_eq_true rfl) (Nat.zero_le _) (Nat.zero_le _) (k_265n 60 (by first | exact dq1 hd rfl | exact dq0 hd rfl | exact dq2 hd rfl | exact dq3 hd rfl | omega) (nz_l c7a) (by decide) (lw 0 (2 ^ 60 - 1) i7 rfl)) (fun v u h => ?_)
        obtain ⟨z16, rfl, rfl, i16, hb16⟩ := h
        show GG _ _ _ _ _ _ _ _ [.int z16, .ref (A 95)] _ _ _
        refine g_dup2 20 (gd rfl) rfl rfl rfl ?_
        refine g_laload 21 (gd rfl) rfl (n := 61) rfl (in_ix i16 rfl) (fun z20 e20 => ?_)
        have i20 := inv_L hIc3 (n := 61) 0 2305843009213693951 rfl (in_ix i16 rfl) rfl e20
        refine g_lload_n 22 (gd rfl) rfl rfl ?_
        refine g_lor 23 (gd rfl) rfl (fun z22 e22 => ?_)
        have i22 := inl_or 61 e22 (lw 0 2305843009213693951 i20 rfl) (lw 0 2305843009213693951 i3a rfl) rfl
        refine g_lastore 24 (gd rfl) rfl (n := 61) rfl (in_ix i16 rfl) ?_
        have hI23 := inv_sL (q := 95) (j := z16.toNatClampNeg) (x := z22) hIc3 rfl (lw 0 2305843009213693951 i22 rfl)
        refine g_lload 26 (gd rfl) rfl rfl ?_
        refine g_lload 28 (gd rfl) rfl rfl ?_
        refine g_lconst 1 29 (gd rfl) rfl rfl ?_
        refine g_lsub 30 (gd rfl) rfl (fun z29 e29 => ?_)
        have i29 := l_sub 0 1152921504606846974 e29 i7 (l_c 1 rfl) rfl
        refine g_land 31 (gd rfl) rfl (fun z30 e30 => ?_)
        have i30 := inl_and2 e30 i29 rfl
        refine g_lstore 33 (gd rfl) rfl (Nat.le_of_ble_eq_true rfl) ?_
        refine g_goto 3 (gd rfl) rfl ?_
        have n3 : InL z30 0 1152921504606846975 := by first | exact q_0 | exact inl_and1 e30 g3_0 rfl
        exact gg_w (by first | exact Nat.le_add_right _ _ | exact gw2 | exact gw3 | exact gwe rfl | exact gwf rfl | exact gwg rfl | exact gwh rfl | omega) (gg_f (gf_cons rfl (gf_cons rfl (gf_cons rfl (gf_cons rfl gf_nil)))) (ih3 (sL sc3 95 z16.toNatClampNeg z22) z30 hI23 (fr_sL rfl hFc3) n3 (mbl e30 e29 (nz_l c7a) mm3)))
  refine g_enter2 (k := 159) (N := 16602069666338596455301) (by first | exact dq1 hd rfl | exact dq0 hd rfl | exact dq2 hd rfl | exact dq3 hd rfl | omega) rfl (Nat.le_of_ble_eq_true rfl) ?_
  have i0 : InL x1 0 1152921504606846975 := by exact q_0
  have i0a : InL x2 0 2305843009213693951 := by exact q_1
  refine g_lload_n 1 (gd rfl) rfl rfl ?_
  refine g_lstore 3 (gd rfl) rfl (Nat.le_of_ble_eq_true rfl) ?_
  have n3 : InL x1 0 1152921504606846975 := by first | exact q_0 | exact inl_and1 e30 g3_0 rfl
  exact gg_w (by first | exact Nat.le_of_ble_eq_true rfl | omega) (gg_f (gf_cons rfl (gf_cons rfl (gf_cons rfl (gf_cons rfl gf_nil)))) (ct3 18446744073709551616 s x1 hI fr_rf n3 (mb_inl _)))

def fm_160_94 : FM := ([], [95, 96, 98], [], [(94, 0)])
/-- GraphHouse$Question.layPlace -/
theorem k_160_94 {Z : AmZ} {A : Nat → Nat} {s : GS} {ex : va_W} {d : Nat} {X : AmX} {x1 : Int32} {x2 : Int32} {x3 : Int32} (hd : 3 ≤ d) (hI : Inv s) (h1 : In x1 0 65535) (h2 : In x2 0 59) (h3 : In x3 0 10) : GC Z d 160 [.ref (A 94), .int x1, .int x2, .int x3] (WW Z A s ++ ex) 0 0 (fun v u => ∃ t : GS, Inv t ∧ Fr fm_160_94 s t ∧ v = none ∧ u = WW Z A t ++ ex) X := by
  intro post xp hP hX
  have ct16 : ∀ (k16 : Nat) (sc16 : GS) (y16_4 : Int64) (y16_6 : Int32), Inv sc16 → Fr fm_160_94 s sc16 → (In x1 46 46) → (In y16_6 0 26) → 26 - (y16_6).toInt < (k16 : Int) → GG Z (d - 1) 160 post (gx xp) (1 + k16 * 900) 16 (fun j => xlook j [(0, .ref (A 94)), (1, .int x1), (2, .int x2), (3, .int x3), (4, .long y16_4), (6, .int y16_6)]) [] (WW Z A sc16 ++ ex) 0 0 := by
    intro k16
    induction k16 with
    | zero => intro sc16 y16_4 y16_6 hIc16 hFc16 j16_1 j16_6 mm16; exact m_no mm16 j16_6 rfl
    | succ k16 ih16 =>
      intro sc16 y16_4 y16_6 hIc16 hFc16 j16_1 j16_6 mm16
      refine gg_w (M := 1 + k16 * 900 + 900) gws ?_
      refine g_iload 18 (gd rfl) rfl rfl ?_
      refine g_bipush 26 20 (gd rfl) rfl rfl ?_
      refine g_cmp_ge 23 42 (gd rfl) rfl rfl (fun c20 => ?_) (fun c20 => ?_)
      · skip
        have i20 := r_le2 26 26 c20 (in_c 26 rfl) j16_6 rfl
        refine g_goto 136 (gd rfl) rfl ?_
        exact g_return (gd rfl) rfl (hP _ _ ⟨sc16, hIc16, hFc16, rfl, rfl⟩)
      · skip
        have i20 := r_lt1 0 25 c20 j16_6 (in_c 26 rfl) rfl
        refine g_aload_n 24 (gd rfl) rfl rfl ?_
        refine g_getA (q2 := 96) 27 (gd rfl) rfl rfl rfl rfl ?_
        refine g_iload 29 (gd rfl) rfl rfl ?_
        refine g_dup2 30 (gd rfl) rfl rfl rfl ?_
        refine g_laload 31 (gd rfl) rfl (n := 26) rfl (in_ix i20 rfl) (fun z30 e30 => ?_)
        have i30 := inv_L hIc16 (n := 26) 0 1152921504606846975 rfl (in_ix i20 rfl) rfl e30
        refine g_lconst 1 32 (gd rfl) rfl rfl ?_
        refine g_iload_n 33 (gd rfl) rfl rfl ?_
        refine g_lshl 34 (gd rfl) rfl (fun z33 e33 => ?_)
        have i33 := l_shl 59 e33 h2 rfl
        refine g_lor 35 (gd rfl) rfl (fun z34 e34 => ?_)
        have i34 := inl_or 60 e34 (lw 0 1152921504606846975 i30 rfl) (lw 0 1152921504606846975 i33 rfl) rfl
        refine g_lastore 36 (gd rfl) rfl (n := 26) rfl (in_ix i20 rfl) ?_
        have hI35 := inv_sL (q := 96) (j := y16_6.toNatClampNeg) (x := z34) hIc16 rfl (lw 0 1152921504606846975 i34 rfl)
        refine g_iinc 39 (gd rfl) rfl rfl (Nat.le_of_ble_eq_true rfl) (fun z36 e36 => ?_)
        have i36 := in_add 1 26 e36 i20 (in_c 1 rfl) rfl rfl
        refine g_goto 16 (gd rfl) rfl ?_
        exact gg_w (by first | exact Nat.le_add_right _ _ | exact gw2 | exact gw3 | exact gwe rfl | exact gwf rfl | exact gwg rfl | exact gwh rfl | omega) (gg_f (gf_cons rfl (gf_cons rfl (gf_cons rfl (gf_cons rfl (gf_cons rfl (gf_cons rfl gf_nil)))))) (ih16 (sL sc16 96 y16_6.toNatClampNeg z34) y16_4 z36 hI35 (fr_sL rfl hFc16) (in_w 46 46 j16_1 rfl) (in_w 0 26 i36 rfl) (m_up mm16 (t_add e36 i20 (in_c 1 rfl) rfl) (in_w 1 1 (in_c 1 rfl) rfl))))
  refine g_enter2 (k := 160) (N := 25201) (by first | exact dq1 hd rfl | exact dq0 hd rfl | exact dq2 hd rfl | exact dq3 hd rfl | omega) rfl (Nat.le_of_ble_eq_true rfl) ?_
  refine g_lconst 1 1 (gd rfl) rfl rfl ?_
  refine g_iload_n 2 (gd rfl) rfl rfl ?_
  refine g_iconst 1 3 (gd rfl) rfl rfl ?_
  refine g_iadd 4 (gd rfl) rfl (fun z3 e3 => ?_)
  have i3 := in_add 1 60 e3 h2 (in_c 1 rfl) rfl rfl
  refine g_lshl 5 (gd rfl) rfl (fun z4 e4 => ?_)
  have i4 := l_shl 60 e4 i3 rfl
  refine g_lstore 7 (gd rfl) rfl (Nat.le_of_ble_eq_true rfl) ?_
  refine g_iload_n 8 (gd rfl) rfl rfl ?_
  refine g_bipush 46 10 (gd rfl) rfl rfl ?_
  refine g_cmp_ne 13 45 (gd rfl) rfl rfl (fun c10 => ?_) (fun c10 => ?_)
  · skip
    refine g_iload_n 46 (gd rfl) rfl rfl ?_
    refine g_calls (As := [.int x1]) (r := []) 49 (gd rfl) rfl rfl rfl rfl rfl (Nat.le_of_ble_eq_true rfl) (mc := 0) (ms := 0) (Nat.zero_le _) (Nat.zero_le _) (P := fun v u => _) ?_ (fun v u h => h)
    intro po46 xx46 hp46 hx46
    refine g_enter2 (k := 157) (N := 300) (by first | exact dq1 hd rfl | exact dq0 hd rfl | exact dq2 hd rfl | exact dq3 hd rfl | omega) rfl (Nat.le_of_ble_eq_true rfl) ?_
    refine g_iload_n 1 (gd rfl) rfl rfl ?_
    refine g_bipush 46 3 (gd rfl) rfl rfl ?_
    refine g_cmp_eq 6 18 (gd rfl) rfl rfl (fun c46x3 => ?_) (fun c46x3 => ?_)
    · skip
      exact absurd c46x3 c10
    · skip
      refine g_iload_n 7 (gd rfl) rfl rfl ?_
      refine g_bipush 97 9 (gd rfl) rfl rfl ?_
      refine g_cmp_lt 12 22 (gd rfl) rfl rfl (fun c46x9 => ?_) (fun c46x9 => ?_)
      · skip
        have i46x9 := r_lt1 0 96 c46x9 h1 (in_c 97 rfl) rfl
        refine g_iconst 0 23 (gd rfl) rfl rfl ?_
        refine g_ireturn (gd rfl) rfl (nb01 (in_w 0 1 (in_c 0 rfl) rfl)) (hp46 _ _ ?_)
        show GG _ _ _ _ _ _ _ _ [.int (Int32.ofInt 0)] _ _ _
        refine g_if_eq 52 70 (gd rfl) rfl rfl (fun c49 => ?_) (fun c49 => ?_)
        · skip
          refine g_iload_n 71 (gd rfl) rfl rfl ?_
          refine g_bipush 124 73 (gd rfl) rfl rfl ?_
          refine g_cmp_eq 76 90 (gd rfl) rfl rfl (fun c73 => ?_) (fun c73 => ?_)
          · skip
            exact n_eq c73 i46x9 (in_c 124 rfl) rfl
          · skip
            refine g_aload_n 77 (gd rfl) rfl rfl ?_
            refine g_getA (q2 := 95) 80 (gd rfl) rfl rfl rfl rfl ?_
            refine g_iload_n 81 (gd rfl) rfl rfl ?_
            refine g_dup2 82 (gd rfl) rfl rfl rfl ?_
            refine g_laload 83 (gd rfl) rfl (n := 61) rfl (in_ix h2 rfl) (fun z82 e82 => ?_)
            have i82 := inv_L hI (n := 61) 0 2305843009213693951 rfl (in_ix h2 rfl) rfl e82
            refine g_lload 85 (gd rfl) rfl rfl ?_
            refine g_lor 86 (gd rfl) rfl (fun z85 e85 => ?_)
            have i85 := inl_or 61 e85 (lw 0 2305843009213693951 i82 rfl) (lw 0 2305843009213693951 i4 rfl) rfl
            refine g_lastore 87 (gd rfl) rfl (n := 61) rfl (in_ix h2 rfl) ?_
            have hI86 := inv_sL (q := 95) (j := x2.toNatClampNeg) (x := z85) hI rfl (lw 0 2305843009213693951 i85 rfl)
            refine g_goto 136 (gd rfl) rfl ?_
            exact g_return (gd rfl) rfl (hP _ _ ⟨(sL s 95 x2.toNatClampNeg z85), hI86, (fr_sL rfl fr_rf), rfl, rfl⟩)
        · skip
          exact zn_ne c49 (in_c 0 rfl) rfl
      · skip
        have i46x9 := r_le2 97 65535 c46x9 (in_c 97 rfl) h1 rfl
        refine g_iload_n 13 (gd rfl) rfl rfl ?_
        refine g_bipush 122 15 (gd rfl) rfl rfl ?_
        refine g_cmp_gt 18 22 (gd rfl) rfl rfl (fun c46x15 => ?_) (fun c46x15 => ?_)
        · skip
          have i46x15 := r_lt2 123 65535 c46x15 (in_c 122 rfl) i46x9 rfl
          refine g_iconst 0 23 (gd rfl) rfl rfl ?_
          refine g_ireturn (gd rfl) rfl (nb01 (in_w 0 1 (in_c 0 rfl) rfl)) (hp46 _ _ ?_)
          show GG _ _ _ _ _ _ _ _ [.int (Int32.ofInt 0)] _ _ _
          refine g_if_eq 52 70 (gd rfl) rfl rfl (fun c49 => ?_) (fun c49 => ?_)
          · skip
            refine g_iload_n 71 (gd rfl) rfl rfl ?_
            refine g_bipush 124 73 (gd rfl) rfl rfl ?_
            refine g_cmp_eq 76 90 (gd rfl) rfl rfl (fun c73 => ?_) (fun c73 => ?_)
            · skip
              have i73 := r_eq1 124 124 c73 i46x15 (in_c 124 rfl) rfl
              refine g_aload_n 91 (gd rfl) rfl rfl ?_
              refine g_getA (q2 := 98) 94 (gd rfl) rfl rfl rfl rfl ?_
              refine g_iload_n 95 (gd rfl) rfl rfl ?_
              refine g_dup2 96 (gd rfl) rfl rfl rfl ?_
              refine g_laload 97 (gd rfl) rfl (n := 11) rfl (in_ix h3 rfl) (fun z96 e96 => ?_)
              have i96 := inv_L hI (n := 11) 0 1152921504606846975 rfl (in_ix h3 rfl) rfl e96
              refine g_lconst 1 98 (gd rfl) rfl rfl ?_
              refine g_iload_n 99 (gd rfl) rfl rfl ?_
              refine g_lshl 100 (gd rfl) rfl (fun z99 e99 => ?_)
              have i99 := l_shl 59 e99 h2 rfl
              refine g_lor 101 (gd rfl) rfl (fun z100 e100 => ?_)
              have i100 := inl_or 60 e100 (lw 0 1152921504606846975 i96 rfl) (lw 0 1152921504606846975 i99 rfl) rfl
              refine g_lastore 102 (gd rfl) rfl (n := 11) rfl (in_ix h3 rfl) ?_
              have hI101 := inv_sL (q := 98) (j := x3.toNatClampNeg) (x := z100) hI rfl (lw 0 1152921504606846975 i100 rfl)
              refine g_iload_n 103 (gd rfl) rfl rfl ?_
              refine g_if_ne 106 120 (gd rfl) rfl rfl (fun c103 => ?_) (fun c103 => ?_)
              · skip
                have i103 := z_ne 1 10 c103 h3 rfl
                refine g_aload_n 121 (gd rfl) rfl rfl ?_
                refine g_getA (q2 := 95) 124 (gd rfl) rfl rfl rfl rfl ?_
                refine g_aload_n 125 (gd rfl) rfl rfl ?_
                refine g_getA (q2 := 97) 128 (gd rfl) rfl rfl rfl rfl ?_
                refine g_iload_n 129 (gd rfl) rfl rfl ?_
                refine g_iaload 130 (gd rfl) rfl (n := 11) rfl (in_ix i103 rfl) (fun z129 e129 => ?_)
                have i129 := inv_I hI101 (n := 11) (t := 0) 0 60 rfl (in_ix i103 rfl) rfl e129
                refine g_dup2 131 (gd rfl) rfl rfl rfl ?_
                refine g_laload 132 (gd rfl) rfl (n := 61) rfl (in_ix i129 rfl) (fun z131 e131 => ?_)
                have i131 := inv_L hI101 (n := 61) 0 2305843009213693951 rfl (in_ix i129 rfl) rfl e131
                refine g_lload 134 (gd rfl) rfl rfl ?_
                refine g_lor 135 (gd rfl) rfl (fun z134 e134 => ?_)
                have i134 := inl_or 61 e134 (lw 0 2305843009213693951 i131 rfl) (lw 0 2305843009213693951 i4 rfl) rfl
                refine g_lastore 136 (gd rfl) rfl (n := 61) rfl (in_ix i129 rfl) ?_
                have hI135 := inv_sL (q := 95) (j := z129.toNatClampNeg) (x := z134) hI101 rfl (lw 0 2305843009213693951 i134 rfl)
                exact g_return (gd rfl) rfl (hP _ _ ⟨(sL (sL s 98 x3.toNatClampNeg z100) 95 z129.toNatClampNeg z134), hI135, (fr_sL rfl (fr_sL rfl fr_rf)), rfl, rfl⟩)
              · skip
                have i103 := z_eq 0 0 c103 h3 rfl
                refine g_aload_n 107 (gd rfl) rfl rfl ?_
                refine g_dup 108 (gd rfl) rfl rfl ?_
                refine g_getL 111 (gd rfl) rfl rfl rfl (fun z108 e108 => ?_)
                have i108 := inv_G hI101 0 2305843009213693951 rfl e108
                refine g_lload 113 (gd rfl) rfl rfl ?_
                refine g_lor 114 (gd rfl) rfl (fun z113 e113 => ?_)
                have i113 := inl_or 61 e113 (lw 0 2305843009213693951 i108 rfl) (lw 0 2305843009213693951 i4 rfl) rfl
                refine g_putL 117 (gd rfl) rfl rfl rfl rfl ?_
                have hI114 := inv_sG (q := 94) (j := 0) (x := z113) hI101 rfl (lw 0 2305843009213693951 i113 rfl)
                refine g_goto 136 (gd rfl) rfl ?_
                exact g_return (gd rfl) rfl (hP _ _ ⟨(sG (sL s 98 x3.toNatClampNeg z100) 94 0 z113), hI114, (fr_sG rfl (fr_sL rfl fr_rf)), rfl, rfl⟩)
            · skip
              refine g_aload_n 77 (gd rfl) rfl rfl ?_
              refine g_getA (q2 := 95) 80 (gd rfl) rfl rfl rfl rfl ?_
              refine g_iload_n 81 (gd rfl) rfl rfl ?_
              refine g_dup2 82 (gd rfl) rfl rfl rfl ?_
              refine g_laload 83 (gd rfl) rfl (n := 61) rfl (in_ix h2 rfl) (fun z82 e82 => ?_)
              have i82 := inv_L hI (n := 61) 0 2305843009213693951 rfl (in_ix h2 rfl) rfl e82
              refine g_lload 85 (gd rfl) rfl rfl ?_
              refine g_lor 86 (gd rfl) rfl (fun z85 e85 => ?_)
              have i85 := inl_or 61 e85 (lw 0 2305843009213693951 i82 rfl) (lw 0 2305843009213693951 i4 rfl) rfl
              refine g_lastore 87 (gd rfl) rfl (n := 61) rfl (in_ix h2 rfl) ?_
              have hI86 := inv_sL (q := 95) (j := x2.toNatClampNeg) (x := z85) hI rfl (lw 0 2305843009213693951 i85 rfl)
              refine g_goto 136 (gd rfl) rfl ?_
              exact g_return (gd rfl) rfl (hP _ _ ⟨(sL s 95 x2.toNatClampNeg z85), hI86, (fr_sL rfl fr_rf), rfl, rfl⟩)
          · skip
            exact zn_ne c49 (in_c 0 rfl) rfl
        · skip
          have i46x15 := r_le1 97 122 c46x15 i46x9 (in_c 122 rfl) rfl
          refine g_iconst 1 19 (gd rfl) rfl rfl ?_
          refine g_goto 23 (gd rfl) rfl ?_
          refine g_ireturn (gd rfl) rfl (nb01 (in_w 0 1 (in_c 1 rfl) rfl)) (hp46 _ _ ?_)
          show GG _ _ _ _ _ _ _ _ [.int (Int32.ofInt 1)] _ _ _
          refine g_if_eq 52 70 (gd rfl) rfl rfl (fun c49 => ?_) (fun c49 => ?_)
          · skip
            exact zn_eq c49 (in_c 1 rfl) rfl
          · skip
            refine g_aload_n 53 (gd rfl) rfl rfl ?_
            refine g_getA (q2 := 96) 56 (gd rfl) rfl rfl rfl rfl ?_
            refine g_iload_n 57 (gd rfl) rfl rfl ?_
            refine g_bipush 97 59 (gd rfl) rfl rfl ?_
            refine g_isub 60 (gd rfl) rfl (fun z59 e59 => ?_)
            have i59 := in_sub 0 25 e59 i46x15 (in_c 97 rfl) rfl rfl
            refine g_dup2 61 (gd rfl) rfl rfl rfl ?_
            refine g_laload 62 (gd rfl) rfl (n := 26) rfl (in_ix i59 rfl) (fun z61 e61 => ?_)
            have i61 := inv_L hI (n := 26) 0 1152921504606846975 rfl (in_ix i59 rfl) rfl e61
            refine g_lconst 1 63 (gd rfl) rfl rfl ?_
            refine g_iload_n 64 (gd rfl) rfl rfl ?_
            refine g_lshl 65 (gd rfl) rfl (fun z64 e64 => ?_)
            have i64 := l_shl 59 e64 h2 rfl
            refine g_lor 66 (gd rfl) rfl (fun z65 e65 => ?_)
            have i65 := inl_or 60 e65 (lw 0 1152921504606846975 i61 rfl) (lw 0 1152921504606846975 i64 rfl) rfl
            refine g_lastore 67 (gd rfl) rfl (n := 26) rfl (in_ix i59 rfl) ?_
            have hI66 := inv_sL (q := 96) (j := z59.toNatClampNeg) (x := z65) hI rfl (lw 0 1152921504606846975 i65 rfl)
            refine g_goto 136 (gd rfl) rfl ?_
            exact g_return (gd rfl) rfl (hP _ _ ⟨(sL s 96 z59.toNatClampNeg z65), hI66, (fr_sL rfl fr_rf), rfl, rfl⟩)
  · skip
    have i10 := r_eq1 46 46 c10 h1 (in_c 46 rfl) rfl
    refine g_iconst 0 14 (gd rfl) rfl rfl ?_
    refine g_istore 16 (gd rfl) rfl (Nat.le_of_ble_eq_true rfl) ?_
    exact gg_w (by first | exact Nat.le_of_ble_eq_true rfl | omega) (gg_f (gf_cons rfl (gf_cons rfl (gf_cons rfl (gf_cons rfl (gf_cons rfl (gf_cons rfl gf_nil)))))) (ct16 27 s z4 (Int32.ofInt 0) hI fr_rf (in_w 46 46 i10 rfl) (in_w 0 26 (in_c 0 rfl) rfl) (m_in 27 (in_w 0 26 (in_c 0 rfl) rfl) rfl)))

def fm_162_94 : FM := ([], [95], [], [(94, 0)])
/-- GraphHouse$Question.close -/
theorem k_162_94 {Z : AmZ} {A : Nat → Nat} {s : GS} {ex : va_W} {d : Nat} {X : AmX} {x1 : Int32} (hd : 4 ≤ d) (hI : Inv s) (h1 : In x1 0 60) : GC Z d 162 [.ref (A 94), .int x1] (WW Z A s ++ ex) 0 0 (fun v u => ∃ t : GS, Inv t ∧ Fr fm_162_94 s t ∧ v = none ∧ u = WW Z A t ++ ex) X := by
  intro post xp hP hX
  have ct147 : ∀ (k147 : Nat) (sc147 : GS) (y147_2 : Int64) (y147_4 : Int64) (y147_6 : Int64), Inv sc147 → Fr fm_162_94 s sc147 → (InL y147_6 0 2305843009213693951) → (InL y147_4 0 2305843009213693951) → ((y147_6.toBitVec.toNat : Nat) : Int) < (k147 : Int) → GG Z (d - 1) 162 post (gx xp) (1 + k147 * 900) 147 (fun j => xlook j [(0, .ref (A 94)), (1, .int x1), (2, .long y147_2), (4, .long y147_4), (6, .long y147_6)]) [] (WW Z A sc147 ++ ex) 0 0 := by
    intro k147
    induction k147 with
    | zero => intro sc147 y147_2 y147_4 y147_6 hIc147 hFc147 g147_0 g147_1 mm147; exact absurd mm147 (Int.not_lt.mpr (Int.natCast_nonneg _))
    | succ k147 ih147 =>
      intro sc147 y147_2 y147_4 y147_6 hIc147 hFc147 g147_0 g147_1 mm147
      refine gg_w (M := 1 + k147 * 900 + 900) gws ?_
      have i147 : InL y147_6 0 2305843009213693951 := by exact g147_0
      have i147a : InL y147_4 0 2305843009213693951 := by exact g147_1
      refine g_lload 149 (gd rfl) rfl rfl ?_
      refine g_lconst 0 150 (gd rfl) rfl rfl ?_
      refine g_lcmp 151 (gd rfl) rfl (fun z150 e150 => ?_)
      have i150 := lc_in e150
      refine g_if_eq 154 181 (gd rfl) rfl rfl (fun c151 => ?_) (fun c151 => ?_)
      · skip
        have i151 := z_eq 0 0 c151 i150 rfl
        have c151a := lc_eq e150 c151
        have i151a := lr_eq1 0 0 c151a i147 (l_c 0 rfl) rfl
        refine g_aload_n 182 (gd rfl) rfl rfl ?_
        refine g_lload 184 (gd rfl) rfl rfl ?_
        refine g_putL 187 (gd rfl) rfl rfl rfl rfl ?_
        have hI184 := inv_sG (q := 94) (j := 0) (x := y147_4) hIc147 rfl (lw 0 2305843009213693951 i147a rfl)
        exact g_return (gd rfl) rfl (hP _ _ ⟨(sG sc147 94 0 y147_4), hI184, (fr_sG rfl hFc147), rfl, rfl⟩)
      · skip
        have c151a := lc_ne e150 c151
        have i151 := lr_ne1 1 2305843009213693951 c151a i147 (l_c 0 rfl) rfl
        refine g_lload 156 (gd rfl) rfl rfl ?_
        refine g_aload_n 157 (gd rfl) rfl rfl ?_
        refine g_getA (q2 := 95) 160 (gd rfl) rfl rfl rfl rfl ?_
        refine g_lload 162 (gd rfl) rfl rfl ?_
        refine g_calls (As := [.long y147_6]) (r := [.ref (A 95), .long y147_4]) 165 (gd rfl) rfl rfl rfl rfl rfl (Nat.le_of_ble_eq_true rfl) (Nat.zero_le _) (Nat.zero_le _) (k_265n 61 (by first | exact dq1 hd rfl | exact dq0 hd rfl | exact dq2 hd rfl | exact dq3 hd rfl | omega) (nz_l c151a) (by decide) (lw 0 (2 ^ 61 - 1) i151 rfl)) (fun v u h => ?_)
        obtain ⟨z162, rfl, rfl, i162, hb162⟩ := h
        show GG _ _ _ _ _ _ _ _ [.int z162, .ref (A 95), .long y147_4] _ _ _
        refine g_laload 166 (gd rfl) rfl (n := 61) rfl (in_ix i162 rfl) (fun z165 e165 => ?_)
        have i165 := inv_L hIc147 (n := 61) 0 2305843009213693951 rfl (in_ix i162 rfl) rfl e165
        refine g_lor 167 (gd rfl) rfl (fun z166 e166 => ?_)
        have i166 := inl_or 61 e166 (lw 0 2305843009213693951 i147a rfl) (lw 0 2305843009213693951 i165 rfl) rfl
        refine g_lstore 169 (gd rfl) rfl (Nat.le_of_ble_eq_true rfl) ?_
        refine g_lload 171 (gd rfl) rfl rfl ?_
        refine g_lload 173 (gd rfl) rfl rfl ?_
        refine g_lconst 1 174 (gd rfl) rfl rfl ?_
        refine g_lsub 175 (gd rfl) rfl (fun z174 e174 => ?_)
        have i174 := l_sub 0 2305843009213693950 e174 i151 (l_c 1 rfl) rfl
        refine g_land 176 (gd rfl) rfl (fun z175 e175 => ?_)
        have i175 := inl_and2 e175 i174 rfl
        refine g_lstore 178 (gd rfl) rfl (Nat.le_of_ble_eq_true rfl) ?_
        refine g_goto 147 (gd rfl) rfl ?_
        have n147 : InL z175 0 2305843009213693951 := by first | exact i142 | exact inl_and1 e175 g147_0 rfl
        have n147a : InL z166 0 2305843009213693951 := by first | exact lw 0 2305843009213693951 (l_c 0 rfl) rfl | exact inl_or 61 e166 g147_1 i165 rfl
        exact gg_w (by first | exact Nat.le_add_right _ _ | exact gw2 | exact gw3 | exact gwe rfl | exact gwf rfl | exact gwg rfl | exact gwh rfl | omega) (gg_f (gf_cons rfl (gf_cons rfl (gf_cons rfl (gf_cons rfl (gf_cons rfl gf_nil))))) (ih147 sc147 y147_2 z166 z175 hIc147 hFc147 n147 n147a (mbl e175 e174 (nz_l c151a) mm147)))
  have ct115 : ∀ (k115 : Nat) (sc115 : GS) (y115_2 : Int64) (y115_4 : Int32), Inv sc115 → Fr fm_162_94 s sc115 → (In y115_4 0 120) → 120 - (y115_4).toInt < (k115 : Int) → GG Z (d - 1) 162 post (gx xp) (16602069666338596454402 + k115 * 900) 115 (fun j => xlook j [(0, .ref (A 94)), (1, .int x1), (2, .long y115_2), (4, .int y115_4)]) [] (WW Z A sc115 ++ ex) 0 0 := by
    intro k115
    induction k115 with
    | zero => intro sc115 y115_2 y115_4 hIc115 hFc115 j115_4 mm115; exact m_no mm115 j115_4 rfl
    | succ k115 ih115 =>
      intro sc115 y115_2 y115_4 hIc115 hFc115 j115_4 mm115
      refine gg_w (M := 16602069666338596454402 + k115 * 900 + 900) gws ?_
      refine g_iload 117 (gd rfl) rfl rfl ?_
      refine g_iload_n 118 (gd rfl) rfl rfl ?_
      refine g_cmp_gt 121 138 (gd rfl) rfl rfl (fun c118 => ?_) (fun c118 => ?_)
      · skip
        have i118 := r_lt2 1 120 c118 h1 j115_4 rfl
        refine g_lconst 0 139 (gd rfl) rfl rfl ?_
        refine g_lstore 141 (gd rfl) rfl (Nat.le_of_ble_eq_true rfl) ?_
        refine g_aload_n 142 (gd rfl) rfl rfl ?_
        refine g_getL 145 (gd rfl) rfl rfl rfl (fun z142 e142 => ?_)
        have i142 := inv_G hIc115 0 2305843009213693951 rfl e142
        refine g_lstore 147 (gd rfl) rfl (Nat.le_of_ble_eq_true rfl) ?_
        have n147 : InL z142 0 2305843009213693951 := by first | exact i142 | exact inl_and1 e175 g147_0 rfl
        have n147a : InL (Int64.ofInt 0) 0 2305843009213693951 := by first | exact lw 0 2305843009213693951 (l_c 0 rfl) rfl | exact inl_or 61 e166 g147_1 i165 rfl
        exact gg_w (by first | exact Nat.le_add_right _ _ | exact gw2 | exact gw3 | exact gwe rfl | exact gwf rfl | exact gwg rfl | exact gwh rfl | omega) (gg_f (gf_cons rfl (gf_cons rfl (gf_cons rfl (gf_cons rfl (gf_cons rfl gf_nil))))) (ct147 18446744073709551616 sc115 y115_2 (Int64.ofInt 0) z142 hIc115 hFc115 n147 n147a (mb_inl _)))
      · skip
        have i118 := r_le1 0 60 c118 j115_4 h1 rfl
        refine g_aload_n 122 (gd rfl) rfl rfl ?_
        refine g_getA (q2 := 95) 125 (gd rfl) rfl rfl rfl rfl ?_
        refine g_iload 127 (gd rfl) rfl rfl ?_
        refine g_dup2 128 (gd rfl) rfl rfl rfl ?_
        refine g_laload 129 (gd rfl) rfl (n := 61) rfl (in_ix i118 rfl) (fun z128 e128 => ?_)
        have i128 := inv_L hIc115 (n := 61) 0 2305843009213693951 rfl (in_ix i118 rfl) rfl e128
        refine g_lload_n 130 (gd rfl) rfl rfl ?_
        refine g_land 131 (gd rfl) rfl (fun z130 e130 => ?_)
        have i130 := inl_and1 e130 i128 rfl
        refine g_lastore 132 (gd rfl) rfl (n := 61) rfl (in_ix i118 rfl) ?_
        have hI131 := inv_sL (q := 95) (j := y115_4.toNatClampNeg) (x := z130) hIc115 rfl (lw 0 2305843009213693951 i130 rfl)
        refine g_iinc 135 (gd rfl) rfl rfl (Nat.le_of_ble_eq_true rfl) (fun z132 e132 => ?_)
        have i132 := in_add 1 61 e132 i118 (in_c 1 rfl) rfl rfl
        refine g_goto 115 (gd rfl) rfl ?_
        exact gg_w (by first | exact Nat.le_add_right _ _ | exact gw2 | exact gw3 | exact gwe rfl | exact gwf rfl | exact gwg rfl | exact gwh rfl | omega) (gg_f (gf_cons rfl (gf_cons rfl (gf_cons rfl (gf_cons rfl gf_nil)))) (ih115 (sL sc115 95 y115_4.toNatClampNeg z130) y115_2 z132 hI131 (fr_sL rfl hFc115) (in_w 0 120 i132 rfl) (m_up mm115 (t_add e132 i118 (in_c 1 rfl) rfl) (in_w 1 1 (in_c 1 rfl) rfl))))
  have ct89 : ∀ (k89 : Nat) (sc89 : GS) (y89_2 : Int64) (y89_4 : Int32), Inv sc89 → Fr fm_162_94 s sc89 → (In y89_4 0 26) → (InL y89_2 0 2305843009213693951) → 26 - (y89_4).toInt < (k89 : Int) → GG Z (d - 1) 162 post (gx xp) (16602069666338596563303 + k89 * 900) 89 (fun j => xlook j [(0, .ref (A 94)), (1, .int x1), (2, .long y89_2), (4, .int y89_4)]) [] (WW Z A sc89 ++ ex) 0 0 := by
    intro k89
    induction k89 with
    | zero => intro sc89 y89_2 y89_4 hIc89 hFc89 j89_4 g89_0 mm89; exact m_no mm89 j89_4 rfl
    | succ k89 ih89 =>
      intro sc89 y89_2 y89_4 hIc89 hFc89 j89_4 g89_0 mm89
      refine gg_w (M := 16602069666338596563303 + k89 * 900 + 900) gws ?_
      have i89 : InL y89_2 0 2305843009213693951 := by exact g89_0
      refine g_iload 91 (gd rfl) rfl rfl ?_
      refine g_bipush 26 93 (gd rfl) rfl rfl ?_
      refine g_cmp_ge 96 112 (gd rfl) rfl rfl (fun c93 => ?_) (fun c93 => ?_)
      · skip
        have i93 := r_le2 26 26 c93 (in_c 26 rfl) j89_4 rfl
        refine g_iconst 0 113 (gd rfl) rfl rfl ?_
        refine g_istore 115 (gd rfl) rfl (Nat.le_of_ble_eq_true rfl) ?_
        exact gg_w (by first | exact Nat.le_add_right _ _ | exact gw2 | exact gw3 | exact gwe rfl | exact gwf rfl | exact gwg rfl | exact gwh rfl | omega) (gg_f (gf_cons rfl (gf_cons rfl (gf_cons rfl (gf_cons rfl gf_nil)))) (ct115 121 sc89 y89_2 (Int32.ofInt 0) hIc89 hFc89 (in_w 0 120 (in_c 0 rfl) rfl) (m_in 121 (in_w 0 120 (in_c 0 rfl) rfl) rfl)))
      · skip
        have i93 := r_lt1 0 25 c93 j89_4 (in_c 26 rfl) rfl
        refine g_lload_n 97 (gd rfl) rfl rfl ?_
        refine g_aload_n 98 (gd rfl) rfl rfl ?_
        refine g_getA (q2 := 96) 101 (gd rfl) rfl rfl rfl rfl ?_
        refine g_iload 103 (gd rfl) rfl rfl ?_
        refine g_laload 104 (gd rfl) rfl (n := 26) rfl (in_ix i93 rfl) (fun z103 e103 => ?_)
        have i103 := inv_L hIc89 (n := 26) 0 1152921504606846975 rfl (in_ix i93 rfl) rfl e103
        refine g_lor 105 (gd rfl) rfl (fun z104 e104 => ?_)
        have i104 := inl_or 61 e104 (lw 0 2305843009213693951 i89 rfl) (lw 0 2305843009213693951 i103 rfl) rfl
        refine g_lstore_n 106 (gd rfl) rfl (Nat.le_of_ble_eq_true rfl) ?_
        refine g_iinc 109 (gd rfl) rfl rfl (Nat.le_of_ble_eq_true rfl) (fun z106 e106 => ?_)
        have i106 := in_add 1 26 e106 i93 (in_c 1 rfl) rfl rfl
        refine g_goto 89 (gd rfl) rfl ?_
        have n89 : InL z104 0 2305843009213693951 := by first | exact i82 | exact inl_or 61 e104 g89_0 (lw 0 2305843009213693951 i103 rfl) rfl
        exact gg_w (by first | exact Nat.le_add_right _ _ | exact gw2 | exact gw3 | exact gwe rfl | exact gwf rfl | exact gwg rfl | exact gwh rfl | omega) (gg_f (gf_cons rfl (gf_cons rfl (gf_cons rfl (gf_cons rfl gf_nil)))) (ih89 sc89 z104 z106 hIc89 hFc89 (in_w 0 26 i106 rfl) n89 (m_up mm89 (t_add e106 i93 (in_c 1 rfl) rfl) (in_w 1 1 (in_c 1 rfl) rfl))))
  have ct27 : ∀ (k27 : Nat) (sc27 : GS) (y27_2 : Int32), Inv sc27 → Fr fm_162_94 s sc27 → (In y27_2 0 120) → 120 - (y27_2).toInt < (k27 : Int) → GG Z (d - 1) 162 post (gx xp) (16602069666338596587604 + k27 * 111601) 27 (fun j => xlook j [(0, .ref (A 94)), (1, .int x1), (2, .int y27_2)]) [] (WW Z A sc27 ++ ex) 0 0 := by
    intro k27
    induction k27 with
    | zero => intro sc27 y27_2 hIc27 hFc27 j27_2 mm27; exact m_no mm27 j27_2 rfl
    | succ k27 ih27 =>
      intro sc27 y27_2 hIc27 hFc27 j27_2 mm27
      refine gg_w (M := 16602069666338596587604 + k27 * 111601 + 111601) gws ?_
      have ct34 : ∀ (k34 : Nat) (sc34 : GS) (y34_3 : Int32), Inv sc34 → Fr fm_162_94 s sc34 → (In y27_2 0 60) → (In y34_3 0 120) → 120 - (y34_3).toInt < (k34 : Int) → GG Z (d - 1) 162 post (gx xp) (16602069666338596587604 + k27 * 111601 + 1 + k34 * 900) 34 (fun j => xlook j [(0, .ref (A 94)), (1, .int x1), (2, .int y27_2), (3, .int y34_3)]) [] (WW Z A sc34 ++ ex) 0 0 := by
        intro k34
        induction k34 with
        | zero => intro sc34 y34_3 hIc34 hFc34 j34_2 j34_3 mm34; exact m_no mm34 j34_3 rfl
        | succ k34 ih34 =>
          intro sc34 y34_3 hIc34 hFc34 j34_2 j34_3 mm34
          refine gg_w (M := 16602069666338596587604 + k27 * 111601 + 1 + k34 * 900 + 900) gws ?_
          refine g_iload_n 35 (gd rfl) rfl rfl ?_
          refine g_iload_n 36 (gd rfl) rfl rfl ?_
          refine g_cmp_gt 39 75 (gd rfl) rfl rfl (fun c36 => ?_) (fun c36 => ?_)
          · skip
            have i36 := r_lt2 1 120 c36 h1 j34_3 rfl
            refine g_iinc 78 (gd rfl) rfl rfl (Nat.le_of_ble_eq_true rfl) (fun z75 e75 => ?_)
            have i75 := in_add 1 61 e75 j34_2 (in_c 1 rfl) rfl rfl
            refine g_goto 27 (gd rfl) rfl ?_
            exact gg_w (by first | exact Nat.le_add_right _ _ | exact gw2 | exact gw3 | exact gwe rfl | exact gwf rfl | exact gwg rfl | exact gwh rfl | omega) (gg_f (gf_cons rfl (gf_cons rfl (gf_cons rfl gf_nil))) (ih27 sc34 z75 hIc34 hFc34 (in_w 0 120 i75 rfl) (m_up mm27 (t_add e75 j34_2 (in_c 1 rfl) rfl) (in_w 1 1 (in_c 1 rfl) rfl))))
          · skip
            have i36 := r_le1 0 60 c36 j34_3 h1 rfl
            refine g_aload_n 40 (gd rfl) rfl rfl ?_
            refine g_getA (q2 := 95) 43 (gd rfl) rfl rfl rfl rfl ?_
            refine g_iload_n 44 (gd rfl) rfl rfl ?_
            refine g_laload 45 (gd rfl) rfl (n := 61) rfl (in_ix i36 rfl) (fun z44 e44 => ?_)
            have i44 := inv_L hIc34 (n := 61) 0 2305843009213693951 rfl (in_ix i36 rfl) rfl e44
            refine g_iload_n 46 (gd rfl) rfl rfl ?_
            refine g_lshr 47 (gd rfl) rfl (fun z46 e46 => ?_)
            refine g_lconst 1 48 (gd rfl) rfl rfl ?_
            refine g_land 49 (gd rfl) rfl (fun z48 e48 => ?_)
            have i48 := inl_and2 e48 (l_c 1 rfl) rfl
            refine g_lconst 0 50 (gd rfl) rfl rfl ?_
            refine g_lcmp 51 (gd rfl) rfl (fun z50 e50 => ?_)
            have i50 := lc_in e50
            refine g_if_eq 54 69 (gd rfl) rfl rfl (fun c51 => ?_) (fun c51 => ?_)
            · skip
              have i51 := z_eq 0 0 c51 i50 rfl
              have c51a := lc_eq e50 c51
              have i51a := lr_eq1 0 0 c51a i48 (l_c 0 rfl) rfl
              refine g_iinc 72 (gd rfl) rfl rfl (Nat.le_of_ble_eq_true rfl) (fun z69 e69 => ?_)
              have i69 := in_add 1 61 e69 i36 (in_c 1 rfl) rfl rfl
              refine g_goto 34 (gd rfl) rfl ?_
              exact gg_w (by first | exact Nat.le_add_right _ _ | exact gw2 | exact gw3 | exact gwe rfl | exact gwf rfl | exact gwg rfl | exact gwh rfl | omega) (gg_f (gf_cons rfl (gf_cons rfl (gf_cons rfl (gf_cons rfl gf_nil)))) (ih34 sc34 z69 hIc34 hFc34 (in_w 0 60 j34_2 rfl) (in_w 0 120 i69 rfl) (m_up mm34 (t_add e69 i36 (in_c 1 rfl) rfl) (in_w 1 1 (in_c 1 rfl) rfl))))
            · skip
              have c51a := lc_ne e50 c51
              have i51 := lr_ne1 1 1 c51a i48 (l_c 0 rfl) rfl
              refine g_aload_n 55 (gd rfl) rfl rfl ?_
              refine g_getA (q2 := 95) 58 (gd rfl) rfl rfl rfl rfl ?_
              refine g_iload_n 59 (gd rfl) rfl rfl ?_
              refine g_dup2 60 (gd rfl) rfl rfl rfl ?_
              refine g_laload 61 (gd rfl) rfl (n := 61) rfl (in_ix i36 rfl) (fun z60 e60 => ?_)
              have i60 := inv_L hIc34 (n := 61) 0 2305843009213693951 rfl (in_ix i36 rfl) rfl e60
              refine g_aload_n 62 (gd rfl) rfl rfl ?_
              refine g_getA (q2 := 95) 65 (gd rfl) rfl rfl rfl rfl ?_
              refine g_iload_n 66 (gd rfl) rfl rfl ?_
              refine g_laload 67 (gd rfl) rfl (n := 61) rfl (in_ix j34_2 rfl) (fun z66 e66 => ?_)
              have i66 := inv_L hIc34 (n := 61) 0 2305843009213693951 rfl (in_ix j34_2 rfl) rfl e66
              refine g_lor 68 (gd rfl) rfl (fun z67 e67 => ?_)
              have i67 := inl_or 61 e67 (lw 0 2305843009213693951 i60 rfl) (lw 0 2305843009213693951 i66 rfl) rfl
              refine g_lastore 69 (gd rfl) rfl (n := 61) rfl (in_ix i36 rfl) ?_
              have hI68 := inv_sL (q := 95) (j := y34_3.toNatClampNeg) (x := z67) hIc34 rfl (lw 0 2305843009213693951 i67 rfl)
              refine g_iinc 72 (gd rfl) rfl rfl (Nat.le_of_ble_eq_true rfl) (fun z69 e69 => ?_)
              have i69 := in_add 1 61 e69 i36 (in_c 1 rfl) rfl rfl
              refine g_goto 34 (gd rfl) rfl ?_
              exact gg_w (by first | exact Nat.le_add_right _ _ | exact gw2 | exact gw3 | exact gwe rfl | exact gwf rfl | exact gwg rfl | exact gwh rfl | omega) (gg_f (gf_cons rfl (gf_cons rfl (gf_cons rfl (gf_cons rfl gf_nil)))) (ih34 (sL sc34 95 y34_3.toNatClampNeg z67) z69 hI68 (fr_sL rfl hFc34) (in_w 0 60 j34_2 rfl) (in_w 0 120 i69 rfl) (m_up mm34 (t_add e69 i36 (in_c 1 rfl) rfl) (in_w 1 1 (in_c 1 rfl) rfl))))
      refine g_iload_n 28 (gd rfl) rfl rfl ?_
      refine g_iload_n 29 (gd rfl) rfl rfl ?_
      refine g_cmp_gt 32 81 (gd rfl) rfl rfl (fun c29 => ?_) (fun c29 => ?_)
      · skip
        have i29 := r_lt2 1 120 c29 h1 j27_2 rfl
        refine g_aload_n 82 (gd rfl) rfl rfl ?_
        refine g_getL 85 (gd rfl) rfl rfl rfl (fun z82 e82 => ?_)
        have i82 := inv_G hIc27 0 2305843009213693951 rfl e82
        refine g_lstore_n 86 (gd rfl) rfl (Nat.le_of_ble_eq_true rfl) ?_
        refine g_iconst 0 87 (gd rfl) rfl rfl ?_
        refine g_istore 89 (gd rfl) rfl (Nat.le_of_ble_eq_true rfl) ?_
        have n89 : InL z82 0 2305843009213693951 := by first | exact i82 | exact inl_or 61 e104 g89_0 (lw 0 2305843009213693951 i103 rfl) rfl
        exact gg_w (by first | exact Nat.le_add_right _ _ | exact gw2 | exact gw3 | exact gwe rfl | exact gwf rfl | exact gwg rfl | exact gwh rfl | omega) (gg_f (gf_cons rfl (gf_cons rfl (gf_cons rfl (gf_cons rfl gf_nil)))) (ct89 27 sc27 z82 (Int32.ofInt 0) hIc27 hFc27 (in_w 0 26 (in_c 0 rfl) rfl) n89 (m_in 27 (in_w 0 26 (in_c 0 rfl) rfl) rfl)))
      · skip
        have i29 := r_le1 0 60 c29 j27_2 h1 rfl
        refine g_iconst 0 33 (gd rfl) rfl rfl ?_
        refine g_istore_n 34 (gd rfl) rfl (Nat.le_of_ble_eq_true rfl) ?_
        exact gg_w (by first | exact Nat.le_add_right _ _ | exact gw2 | exact gw3 | exact gwe rfl | exact gwf rfl | exact gwg rfl | exact gwh rfl | omega) (gg_f (gf_cons rfl (gf_cons rfl (gf_cons rfl (gf_cons rfl gf_nil)))) (ct34 121 sc27 (Int32.ofInt 0) hIc27 hFc27 (in_w 0 60 i29 rfl) (in_w 0 120 (in_c 0 rfl) rfl) (m_in 121 (in_w 0 120 (in_c 0 rfl) rfl) rfl)))
  have ct2 : ∀ (k2 : Nat) (sc2 : GS) (y2_2 : Int32), Inv sc2 → Fr fm_162_94 s sc2 → (In y2_2 0 120) → 120 - (y2_2).toInt < (k2 : Int) → GG Z (d - 1) 162 post (gx xp) (16602069666338610091326 + k2 * 900) 2 (fun j => xlook j [(0, .ref (A 94)), (1, .int x1), (2, .int y2_2)]) [] (WW Z A sc2 ++ ex) 0 0 := by
    intro k2
    induction k2 with
    | zero => intro sc2 y2_2 hIc2 hFc2 j2_2 mm2; exact m_no mm2 j2_2 rfl
    | succ k2 ih2 =>
      intro sc2 y2_2 hIc2 hFc2 j2_2 mm2
      refine gg_w (M := 16602069666338610091326 + k2 * 900 + 900) gws ?_
      refine g_iload_n 3 (gd rfl) rfl rfl ?_
      refine g_iload_n 4 (gd rfl) rfl rfl ?_
      refine g_cmp_gt 7 25 (gd rfl) rfl rfl (fun c4 => ?_) (fun c4 => ?_)
      · skip
        have i4 := r_lt2 1 120 c4 h1 j2_2 rfl
        refine g_iconst 0 26 (gd rfl) rfl rfl ?_
        refine g_istore_n 27 (gd rfl) rfl (Nat.le_of_ble_eq_true rfl) ?_
        exact gg_w (by first | exact Nat.le_add_right _ _ | exact gw2 | exact gw3 | exact gwe rfl | exact gwf rfl | exact gwg rfl | exact gwh rfl | omega) (gg_f (gf_cons rfl (gf_cons rfl (gf_cons rfl gf_nil))) (ct27 121 sc2 (Int32.ofInt 0) hIc2 hFc2 (in_w 0 120 (in_c 0 rfl) rfl) (m_in 121 (in_w 0 120 (in_c 0 rfl) rfl) rfl)))
      · skip
        have i4 := r_le1 0 60 c4 j2_2 h1 rfl
        refine g_aload_n 8 (gd rfl) rfl rfl ?_
        refine g_getA (q2 := 95) 11 (gd rfl) rfl rfl rfl rfl ?_
        refine g_iload_n 12 (gd rfl) rfl rfl ?_
        refine g_dup2 13 (gd rfl) rfl rfl rfl ?_
        refine g_laload 14 (gd rfl) rfl (n := 61) rfl (in_ix i4 rfl) (fun z13 e13 => ?_)
        have i13 := inv_L hIc2 (n := 61) 0 2305843009213693951 rfl (in_ix i4 rfl) rfl e13
        refine g_lconst 1 15 (gd rfl) rfl rfl ?_
        refine g_iload_n 16 (gd rfl) rfl rfl ?_
        refine g_lshl 17 (gd rfl) rfl (fun z16 e16 => ?_)
        have i16 := l_shl 60 e16 i4 rfl
        refine g_lor 18 (gd rfl) rfl (fun z17 e17 => ?_)
        have i17 := inl_or 61 e17 (lw 0 2305843009213693951 i13 rfl) (lw 0 2305843009213693951 i16 rfl) rfl
        refine g_lastore 19 (gd rfl) rfl (n := 61) rfl (in_ix i4 rfl) ?_
        have hI18 := inv_sL (q := 95) (j := y2_2.toNatClampNeg) (x := z17) hIc2 rfl (lw 0 2305843009213693951 i17 rfl)
        refine g_iinc 22 (gd rfl) rfl rfl (Nat.le_of_ble_eq_true rfl) (fun z19 e19 => ?_)
        have i19 := in_add 1 61 e19 i4 (in_c 1 rfl) rfl rfl
        refine g_goto 2 (gd rfl) rfl ?_
        exact gg_w (by first | exact Nat.le_add_right _ _ | exact gw2 | exact gw3 | exact gwe rfl | exact gwf rfl | exact gwg rfl | exact gwh rfl | omega) (gg_f (gf_cons rfl (gf_cons rfl (gf_cons rfl gf_nil))) (ih2 (sL sc2 95 y2_2.toNatClampNeg z17) z19 hI18 (fr_sL rfl hFc2) (in_w 0 120 i19 rfl) (m_up mm2 (t_add e19 i4 (in_c 1 rfl) rfl) (in_w 1 1 (in_c 1 rfl) rfl))))
  refine g_enter2 (k := 162) (N := 16602069666338610201126) (by first | exact dq1 hd rfl | exact dq0 hd rfl | exact dq2 hd rfl | exact dq3 hd rfl | omega) rfl (Nat.le_of_ble_eq_true rfl) ?_
  refine g_iconst 0 1 (gd rfl) rfl rfl ?_
  refine g_istore_n 2 (gd rfl) rfl (Nat.le_of_ble_eq_true rfl) ?_
  exact gg_w (by first | exact Nat.le_of_ble_eq_true rfl | omega) (gg_f (gf_cons rfl (gf_cons rfl (gf_cons rfl gf_nil))) (ct2 121 s (Int32.ofInt 0) hI fr_rf (in_w 0 120 (in_c 0 rfl) rfl) (m_in 121 (in_w 0 120 (in_c 0 rfl) rfl) rfl)))

/-- GraphHouse$Question.behind -/
theorem k_165_94 {Z : AmZ} {A : Nat → Nat} {s : GS} {ex : va_W} {d : Nat} {X : AmX} {x1 : Int64} (hd : 4 ≤ d) (hI : Inv s) (q_0 : InL x1 0 1152921504606846975) : GC Z d 165 [.ref (A 94), .long x1] (WW Z A s ++ ex) 0 0 (fun v u => ∃ z : Int64, v = some (.long z) ∧ u = WW Z A s ++ ex ∧ (InL z 0 2305843009213693951)) X := by
  intro post xp hP hX
  have ct5 : ∀ (k5 : Nat) (y5_3 : Int64) (y5_5 : Int64), (InL y5_5 0 1152921504606846975) → (InL y5_3 0 2305843009213693951) → ((y5_5.toBitVec.toNat : Nat) : Int) < (k5 : Int) → GG Z (d - 1) 165 post (gx xp) (1 + k5 * 900) 5 (fun j => xlook j [(0, .ref (A 94)), (1, .long x1), (3, .long y5_3), (5, .long y5_5)]) [] (WW Z A s ++ ex) 0 0 := by
    intro k5
    induction k5 with
    | zero => intro y5_3 y5_5 g5_0 g5_1 mm5; exact absurd mm5 (Int.not_lt.mpr (Int.natCast_nonneg _))
    | succ k5 ih5 =>
      intro y5_3 y5_5 g5_0 g5_1 mm5
      refine gg_w (M := 1 + k5 * 900 + 900) gws ?_
      have i5 : InL y5_5 0 1152921504606846975 := by exact g5_0
      have i5a : InL y5_3 0 2305843009213693951 := by exact g5_1
      refine g_lload 7 (gd rfl) rfl rfl ?_
      refine g_lconst 0 8 (gd rfl) rfl rfl ?_
      refine g_lcmp 9 (gd rfl) rfl (fun z8 e8 => ?_)
      have i8 := lc_in e8
      refine g_if_eq 12 39 (gd rfl) rfl rfl (fun c9 => ?_) (fun c9 => ?_)
      · skip
        have i9 := z_eq 0 0 c9 i8 rfl
        have c9a := lc_eq e8 c9
        have i9a := lr_eq1 0 0 c9a i5 (l_c 0 rfl) rfl
        refine g_lload_n 40 (gd rfl) rfl rfl ?_
        have n40 : InL y5_3 0 2305843009213693951 := by exact g5_1
        exact g_lreturn (gd rfl) rfl (hP _ _ ⟨y5_3, rfl, rfl, n40⟩)
      · skip
        have c9a := lc_ne e8 c9
        have i9 := lr_ne1 1 1152921504606846975 c9a i5 (l_c 0 rfl) rfl
        refine g_lload_n 13 (gd rfl) rfl rfl ?_
        refine g_aload_n 14 (gd rfl) rfl rfl ?_
        refine g_getA (q2 := 95) 17 (gd rfl) rfl rfl rfl rfl ?_
        refine g_lload 19 (gd rfl) rfl rfl ?_
        refine g_calls (As := [.long y5_5]) (r := [.ref (A 95), .long y5_3]) 22 (gd rfl) rfl rfl rfl rfl rfl (Nat.le_of_ble_eq_true rfl) (Nat.zero_le _) (Nat.zero_le _) (k_265n 60 (by first | exact dq1 hd rfl | exact dq0 hd rfl | exact dq2 hd rfl | exact dq3 hd rfl | omega) (nz_l c9a) (by decide) (lw 0 (2 ^ 60 - 1) i9 rfl)) (fun v u h => ?_)
        obtain ⟨z19, rfl, rfl, i19, hb19⟩ := h
        show GG _ _ _ _ _ _ _ _ [.int z19, .ref (A 95), .long y5_3] _ _ _
        refine g_iconst 1 23 (gd rfl) rfl rfl ?_
        refine g_iadd 24 (gd rfl) rfl (fun z23 e23 => ?_)
        have i23 := in_add 1 60 e23 i19 (in_c 1 rfl) rfl rfl
        refine g_laload 25 (gd rfl) rfl (n := 61) rfl (in_ix i23 rfl) (fun z24 e24 => ?_)
        have i24 := inv_L hI (n := 61) 0 2305843009213693951 rfl (in_ix i23 rfl) rfl e24
        refine g_lor 26 (gd rfl) rfl (fun z25 e25 => ?_)
        have i25 := inl_or 61 e25 (lw 0 2305843009213693951 i5a rfl) (lw 0 2305843009213693951 i24 rfl) rfl
        refine g_lstore_n 27 (gd rfl) rfl (Nat.le_of_ble_eq_true rfl) ?_
        refine g_lload 29 (gd rfl) rfl rfl ?_
        refine g_lload 31 (gd rfl) rfl rfl ?_
        refine g_lconst 1 32 (gd rfl) rfl rfl ?_
        refine g_lsub 33 (gd rfl) rfl (fun z32 e32 => ?_)
        have i32 := l_sub 0 1152921504606846974 e32 i9 (l_c 1 rfl) rfl
        refine g_land 34 (gd rfl) rfl (fun z33 e33 => ?_)
        have i33 := inl_and2 e33 i32 rfl
        refine g_lstore 36 (gd rfl) rfl (Nat.le_of_ble_eq_true rfl) ?_
        refine g_goto 5 (gd rfl) rfl ?_
        have n5 : InL z33 0 1152921504606846975 := by first | exact q_0 | exact inl_and1 e33 g5_0 rfl
        have n5a : InL z25 0 2305843009213693951 := by first | exact lw 0 2305843009213693951 (l_c 0 rfl) rfl | exact inl_or 61 e25 g5_1 i24 rfl
        exact gg_w (by first | exact Nat.le_add_right _ _ | exact gw2 | exact gw3 | exact gwe rfl | exact gwf rfl | exact gwg rfl | exact gwh rfl | omega) (gg_f (gf_cons rfl (gf_cons rfl (gf_cons rfl (gf_cons rfl gf_nil)))) (ih5  z25 z33  n5 n5a (mbl e33 e32 (nz_l c9a) mm5)))
  refine g_enter2 (k := 165) (N := 16602069666338596455301) (by first | exact dq1 hd rfl | exact dq0 hd rfl | exact dq2 hd rfl | exact dq3 hd rfl | omega) rfl (Nat.le_of_ble_eq_true rfl) ?_
  refine g_lconst 0 1 (gd rfl) rfl rfl ?_
  refine g_lstore_n 2 (gd rfl) rfl (Nat.le_of_ble_eq_true rfl) ?_
  refine g_lload_n 3 (gd rfl) rfl rfl ?_
  refine g_lstore 5 (gd rfl) rfl (Nat.le_of_ble_eq_true rfl) ?_
  have n5 : InL x1 0 1152921504606846975 := by first | exact q_0 | exact inl_and1 e33 g5_0 rfl
  have n5a : InL (Int64.ofInt 0) 0 2305843009213693951 := by first | exact lw 0 2305843009213693951 (l_c 0 rfl) rfl | exact inl_or 61 e25 g5_1 i24 rfl
  exact gg_w (by first | exact Nat.le_of_ble_eq_true rfl | omega) (gg_f (gf_cons rfl (gf_cons rfl (gf_cons rfl (gf_cons rfl gf_nil)))) (ct5 18446744073709551616  (Int64.ofInt 0) x1  n5 n5a (mb_inl _)))

def fm_168_46 : FM := ([], [], [(46, 6), (46, 7)], [])
/-- GraphHouse$Script.accuse -/
theorem k_168_46 {Z : AmZ} {A : Nat → Nat} {s : GS} {ex : va_W} {d : Nat} {X : AmX} {x1 : Int32} {x2 : Int32} (hd : 1 ≤ d) (hI : Inv s) (h1 : In x1 1 5) (h2 : In x2 0 1000) : GC Z d 168 [.ref (A 46), .int x1, .int x2] (WW Z A s ++ ex) 0 0 (fun v u => ∃ t : GS, Inv t ∧ Fr fm_168_46 s t ∧ ∃ z : Int32, v = some (.int z) ∧ u = WW Z A t ++ ex ∧ In z 0 0) X := by
  intro post xp hP hX
  refine g_enter2 (k := 168) (N := 900) (by first | exact dq1 hd rfl | exact dq0 hd rfl | exact dq2 hd rfl | exact dq3 hd rfl | omega) rfl (Nat.le_of_ble_eq_true rfl) ?_
  refine g_aload_n 1 (gd rfl) rfl rfl ?_
  refine g_iload_n 2 (gd rfl) rfl rfl ?_
  refine g_putI 5 (gd rfl) rfl rfl rfl rfl ?_
  have hI2 := inv_sF (q := 46) (j := 6) hI rfl (in_w (-1) 5 h1 rfl)
  refine g_aload_n 6 (gd rfl) rfl rfl ?_
  refine g_iload_n 7 (gd rfl) rfl rfl ?_
  refine g_putI 10 (gd rfl) rfl rfl rfl rfl ?_
  have hI7 := inv_sF (q := 46) (j := 7) hI2 rfl (in_w (-1) 1000 h2 rfl)
  refine g_iconst 0 11 (gd rfl) rfl rfl ?_
  exact g_ireturn (gd rfl) rfl (nb01 (in_w 0 1 (in_c 0 rfl) rfl)) (hP _ _ ⟨(sF (sF s 46 6 x1) 46 7 x2), hI7, (fr_sF rfl (fr_sF rfl fr_rf)), (Int32.ofInt 0), rfl, rfl, in_w 0 0 (in_c 0 rfl) rfl⟩)

def fm_169_46 : FM := ([], [], [(46, 6), (46, 7)], [])
/-- GraphHouse$Script.refuse -/
theorem k_169_46 {Z : AmZ} {A : Nat → Nat} {s : GS} {ex : va_W} {d : Nat} {X : AmX} {x1 : Int32} {x2 : Int32} (hd : 2 ≤ d) (hI : Inv s) (h1 : In x1 2 2) (h2 : In x2 3 4) : GC Z d 169 [.ref (A 46), .int x1, .int x2] (WW Z A s ++ ex) 0 0 (fun v u => ∃ t : GS, Inv t ∧ Fr fm_169_46 s t ∧ ∃ z : Int32, v = some (.int z) ∧ u = WW Z A t ++ ex ∧ In z 0 0) X := by
  intro post xp hP hX
  obtain ⟨u_46_3, e_46_3⟩ : ∃ w, w = s.2.2.1 46 3 := ⟨_, rfl⟩
  have ro_46_3 := inv_F hI 0 5 rfl e_46_3
  obtain ⟨u_46_4, e_46_4⟩ : ∃ w, w = s.2.2.1 46 4 := ⟨_, rfl⟩
  have ro_46_4 := inv_F hI 0 1000 rfl e_46_4
  refine g_enter2 (k := 169) (N := 900) (by first | exact dq1 hd rfl | exact dq0 hd rfl | exact dq2 hd rfl | exact dq3 hd rfl | omega) rfl (Nat.le_of_ble_eq_true rfl) ?_
  refine g_aload_n 1 (gd rfl) rfl rfl ?_
  refine g_getI 4 (gd rfl) rfl rfl rfl (fun z1 e1 => ?_)
  have q1 : u_46_3 = z1 := (e_46_3).trans e1.symm
  subst q1
  refine g_iconst 4 5 (gd rfl) rfl rfl ?_
  refine g_cmp_ne 8 18 (gd rfl) rfl rfl (fun c5 => ?_) (fun c5 => ?_)
  · skip
    refine g_aload_n 19 (gd rfl) rfl rfl ?_
    refine g_aload_n 20 (gd rfl) rfl rfl ?_
    refine g_getI 23 (gd rfl) rfl rfl rfl (fun z20 e20 => ?_)
    have q20 : u_46_3 = z20 := (e_46_3).trans e20.symm
    subst q20
    refine g_iconst 5 24 (gd rfl) rfl rfl ?_
    refine g_cmp_ne 27 31 (gd rfl) rfl rfl (fun c24 => ?_) (fun c24 => ?_)
    · skip
      have i24 := r_ne1 0 4 c24 ro_46_3 (in_c 5 rfl) rfl
      refine g_iload_n 32 (gd rfl) rfl rfl ?_
      refine g_aload_n 33 (gd rfl) rfl rfl ?_
      refine g_getI 36 (gd rfl) rfl rfl rfl (fun z33 e33 => ?_)
      have q33 : u_46_4 = z33 := (e_46_4).trans e33.symm
      subst q33
      refine g_callv (X := _) (As := [.int x1, .int u_46_4]) (r := []) (b := A 46) (q := 46) 39 (gd rfl) rfl rfl rfl rfl rfl (ww_o rfl) (Nat.le_of_ble_eq_true rfl) (Nat.zero_le _) (Nat.zero_le _) (k_168_46 (by first | exact dq1 hd rfl | exact dq0 hd rfl | exact dq2 hd rfl | exact dq3 hd rfl | omega) hI (in_w 1 5 h1 rfl) (in_w 0 1000 ro_46_4 rfl)) (fun e u h => h) (fun v u h => ?_)
      obtain ⟨s36, hI36, hF36, z36, rfl, rfl, i36⟩ := h
      show GG _ _ _ _ _ _ _ _ [.int z36] _ _ _
      exact g_ireturn (gd rfl) rfl (nb01 (in_w 0 1 i36 rfl)) (hP _ _ ⟨s36, hI36, (fr_tr rfl fr_rf hF36), z36, rfl, rfl, in_w 0 0 i36 rfl⟩)
    · skip
      have i24 := r_eq1 5 5 c24 ro_46_3 (in_c 5 rfl) rfl
      refine g_iload_n 28 (gd rfl) rfl rfl ?_
      refine g_goto 32 (gd rfl) rfl ?_
      refine g_aload_n 33 (gd rfl) rfl rfl ?_
      refine g_getI 36 (gd rfl) rfl rfl rfl (fun z33 e33 => ?_)
      have q33 : u_46_4 = z33 := (e_46_4).trans e33.symm
      subst q33
      refine g_callv (X := _) (As := [.int x2, .int u_46_4]) (r := []) (b := A 46) (q := 46) 39 (gd rfl) rfl rfl rfl rfl rfl (ww_o rfl) (Nat.le_of_ble_eq_true rfl) (Nat.zero_le _) (Nat.zero_le _) (k_168_46 (by first | exact dq1 hd rfl | exact dq0 hd rfl | exact dq2 hd rfl | exact dq3 hd rfl | omega) hI (in_w 1 5 h2 rfl) (in_w 0 1000 ro_46_4 rfl)) (fun e u h => h) (fun v u h => ?_)
      obtain ⟨s36, hI36, hF36, z36, rfl, rfl, i36⟩ := h
      show GG _ _ _ _ _ _ _ _ [.int z36] _ _ _
      exact g_ireturn (gd rfl) rfl (nb01 (in_w 0 1 i36 rfl)) (hP _ _ ⟨s36, hI36, (fr_tr rfl fr_rf hF36), z36, rfl, rfl, in_w 0 0 i36 rfl⟩)
  · skip
    have i5 := r_eq1 4 4 c5 ro_46_3 (in_c 4 rfl) rfl
    refine g_aload_n 9 (gd rfl) rfl rfl ?_
    refine g_iconst 1 10 (gd rfl) rfl rfl ?_
    refine g_aload_n 11 (gd rfl) rfl rfl ?_
    refine g_getI 14 (gd rfl) rfl rfl rfl (fun z11 e11 => ?_)
    have q11 : u_46_4 = z11 := (e_46_4).trans e11.symm
    subst q11
    refine g_callv (X := _) (As := [.int (Int32.ofInt 1), .int u_46_4]) (r := []) (b := A 46) (q := 46) 17 (gd rfl) rfl rfl rfl rfl rfl (ww_o rfl) (Nat.le_of_ble_eq_true rfl) (Nat.zero_le _) (Nat.zero_le _) (k_168_46 (by first | exact dq1 hd rfl | exact dq0 hd rfl | exact dq2 hd rfl | exact dq3 hd rfl | omega) hI (in_w 1 5 (in_c 1 rfl) rfl) (in_w 0 1000 ro_46_4 rfl)) (fun e u h => h) (fun v u h => ?_)
    obtain ⟨s14, hI14, hF14, z14, rfl, rfl, i14⟩ := h
    show GG _ _ _ _ _ _ _ _ [.int z14] _ _ _
    exact g_ireturn (gd rfl) rfl (nb01 (in_w 0 1 i14 rfl)) (hP _ _ ⟨s14, hI14, (fr_tr rfl fr_rf hF14), z14, rfl, rfl, in_w 0 0 i14 rfl⟩)

def fm_178_46 : FM := ([48], [], [(46, 9)], [])
/-- GraphHouse$Script.putNumber -/
theorem k_178_46 {Z : AmZ} {A : Nat → Nat} {s : GS} {ex : va_W} {d : Nat} {X : AmX} {x1 : Int32} (hd : 3 ≤ d) (hI : Inv s) (h1 : In x1 (-1000000) 1000000) : GC Z d 178 [.ref (A 46), .int x1] (WW Z A s ++ ex) 0 0 (fun v u => ∃ t : GS, Inv t ∧ Fr fm_178_46 s t ∧ v = none ∧ u = WW Z A t ++ ex) X := by
  intro post xp hP hX
  have ct52 : ∀ (k52 : Nat) (sc52 : GS) (y52_2 : Int32) (y52_3 : Int32) (y52_4 : Int32), Inv sc52 → Fr fm_178_46 s sc52 → (In y52_2 0 1000000) → (In y52_3 0 1000000) → (In y52_4 0 7) → (y52_3).toInt < (k52 : Int) → GG Z (d - 1) 178 post (gx xp) (1 + k52 * 900) 52 (fun j => xlook j [(0, .ref (A 46)), (1, .int x1), (2, .int y52_2), (3, .int y52_3), (4, .int y52_4)]) [] (WW Z A sc52 ++ ex) 0 0 := by
    intro k52
    induction k52 with
    | zero => intro sc52 y52_2 y52_3 y52_4 hIc52 hFc52 j52_2 j52_3 j52_4 mm52; exfalso; (first | have a0 := in_u h1 | (have a0 := h1; unfold In at a0)); have a1 := j52_4; unfold In at a1; have a2 := j52_3; unfold In at a2; have a3 := j52_2; unfold In at a3; omega
    | succ k52 ih52 =>
      intro sc52 y52_2 y52_3 y52_4 hIc52 hFc52 j52_2 j52_3 j52_4 mm52
      refine gg_w (M := 1 + k52 * 900 + 900) gws ?_
      refine g_iload_n 53 (gd rfl) rfl rfl ?_
      refine g_if_le 56 78 (gd rfl) rfl rfl (fun c53 => ?_) (fun c53 => ?_)
      · skip
        have i53 := z_le 0 0 c53 j52_3 rfl
        exact g_return (gd rfl) rfl (hP _ _ ⟨sc52, hIc52, hFc52, rfl, rfl⟩)
      · skip
        have i53 := z_gt 1 1000000 c53 j52_3 rfl
        refine g_aload_n 57 (gd rfl) rfl rfl ?_
        refine g_bipush 48 59 (gd rfl) rfl rfl ?_
        refine g_iload_n 60 (gd rfl) rfl rfl ?_
        refine g_iload_n 61 (gd rfl) rfl rfl ?_
        refine g_idiv 62 (gd rfl) rfl (dv_nz i53 rfl) (fun z61 e61 => ?_)
        have i61 := in_divv e61 j52_2 i53 rfl
        refine g_bipush 10 64 (gd rfl) rfl rfl ?_
        refine g_irem 65 (gd rfl) rfl (by decide) (fun z64 e64 => ?_)
        have i64 := in_rem 9 e64 i61 rfl rfl
        refine g_iadd 66 (gd rfl) rfl (fun z65 e65 => ?_)
        have i65 := in_add 48 57 e65 (in_c 48 rfl) i64 rfl rfl
        refine g_i2c 67 (gd rfl) rfl (fun z66 e66 => ?_)
        have i66 := in_i2c e66
        refine g_callv (X := _) (As := [.int z66]) (r := []) (b := A 46) (q := 46) 70 (gd rfl) rfl rfl rfl rfl rfl (ww_o rfl) (Nat.le_of_ble_eq_true rfl) (mc := 0) (ms := 0) (Nat.zero_le _) (Nat.zero_le _) (P := fun v u => _) ?_ (fun e u h => h) (fun v u h => h)
        intro po67 xx67 hp67 hx67
        refine g_enter2 (k := 177) (N := 300) (by first | exact dq1 hd rfl | exact dq0 hd rfl | exact dq2 hd rfl | exact dq3 hd rfl | omega) rfl (Nat.le_of_ble_eq_true rfl) ?_
        refine g_aload_n 1 (gd rfl) rfl rfl ?_
        refine g_getI 4 (gd rfl) rfl rfl rfl (fun z67x1 e67x1 => ?_)
        have i67x1 := inv_F hIc52 0 4608 rfl e67x1
        refine g_aload_n 5 (gd rfl) rfl rfl ?_
        refine g_getA (q2 := 48) 8 (gd rfl) rfl rfl rfl rfl ?_
        refine g_alen (n := 4608) (t := 2) 4608 9 (gd rfl) rfl rfl (Nat.le_of_ble_eq_true rfl) rfl ?_
        refine g_cmp_ge 12 32 (gd rfl) rfl rfl (fun c67x9 => ?_) (fun c67x9 => ?_)
        · skip
          have i67x9 := r_le2 4608 4608 c67x9 (in_c 4608 rfl) i67x1 rfl
          refine g_return (gd rfl) rfl (hp67 _ _ ?_)
          show GG _ _ _ _ _ _ _ _ [] _ _ _
          refine g_iload_n 71 (gd rfl) rfl rfl ?_
          refine g_bipush 10 73 (gd rfl) rfl rfl ?_
          refine g_idiv 74 (gd rfl) rfl (by decide) (fun z73 e73 => ?_)
          have i73 := in_div 0 100000 e73 i53 rfl rfl
          refine g_istore_n 75 (gd rfl) rfl (Nat.le_of_ble_eq_true rfl) ?_
          refine g_goto 52 (gd rfl) rfl ?_
          have m52 : (z73).toInt < ((k52 : Nat) : Int) := by (first | have a0 := oa5 h1 j52_4 i53 j52_2 i73 | ((first | have a0 := in_u h1 | (have a0 := h1; unfold In at a0)); (first | have a1 := in_u j52_4 | (have a1 := j52_4; unfold In at a1)); (first | have a2 := in_u i53 | (have a2 := i53; unfold In at a2)); (first | have a3 := in_u j52_2 | (have a3 := j52_2; unfold In at a3)); (first | have a4 := in_u i73 | (have a4 := i73; unfold In at a4)))); have a5 := t_div e73 i53 rfl; (first | have a6 := oa2 i67x9 i65 | ((first | have a6 := in_u i67x9 | (have a6 := i67x9; unfold In at a6)); (first | have a7 := in_u i65 | (have a7 := i65; unfold In at a7)))); have a8 := t_add e65 (in_c 48 rfl) i64 rfl; (first | have a9 := oa2 i64 ((in_c 48 rfl)) | ((first | have a9 := in_u i64 | (have a9 := i64; unfold In at a9)); (first | have a10 := in_u ((in_c 48 rfl)) | (have a10 := (in_c 48 rfl); unfold In at a10)))); omega
          exact gg_w (by first | exact Nat.le_add_right _ _ | exact gw2 | exact gw3 | exact gwe rfl | exact gwf rfl | exact gwg rfl | exact gwh rfl | omega) (gg_f (gf_cons rfl (gf_cons rfl (gf_cons rfl (gf_cons rfl (gf_cons rfl gf_nil))))) (ih52  sc52 y52_2 z73 y52_4 hIc52 hFc52 (in_w 0 1000000 j52_2 rfl) (in_w 0 1000000 i73 rfl) (in_w 0 7 j52_4 rfl) m52))
        · skip
          have i67x9 := r_lt1 0 4607 c67x9 i67x1 (in_c 4608 rfl) rfl
          refine g_aload_n 13 (gd rfl) rfl rfl ?_
          refine g_getA (q2 := 48) 16 (gd rfl) rfl rfl rfl rfl ?_
          refine g_aload_n 17 (gd rfl) rfl rfl ?_
          refine g_getI 20 (gd rfl) rfl rfl rfl (fun z67x17 e67x17 => ?_)
          have q67x17 : z67x1 = z67x17 := (e67x1).trans e67x17.symm
          subst q67x17
          refine g_iload_n 21 (gd rfl) rfl rfl ?_
          refine g_castore 22 (gd rfl) rfl (n := 4608) rfl (in_ix i67x9 rfl) ?_
          have hI67x21 := inv_sI (q := 48) (j := z67x1.toNatClampNeg) hIc52 rfl (in_w 0 65535 (nar_c z66) rfl)
          refine g_aload_n 23 (gd rfl) rfl rfl ?_
          refine g_dup 24 (gd rfl) rfl rfl ?_
          refine g_getI 27 (gd rfl) rfl rfl rfl (fun z67x24 e67x24 => ?_)
          have q67x24 : z67x1 = z67x24 := (sI_F (e67x1)).trans e67x24.symm
          subst q67x24
          refine g_iconst 1 28 (gd rfl) rfl rfl ?_
          refine g_iadd 29 (gd rfl) rfl (fun z67x28 e67x28 => ?_)
          have i67x28 := in_add 1 4608 e67x28 i67x9 (in_c 1 rfl) rfl rfl
          refine g_putI 32 (gd rfl) rfl rfl rfl rfl ?_
          have hI67x29 := inv_sF (q := 46) (j := 9) hI67x21 rfl (in_w 0 4608 i67x28 rfl)
          refine g_return (gd rfl) rfl (hp67 _ _ ?_)
          show GG _ _ _ _ _ _ _ _ [] _ _ _
          refine g_iload_n 71 (gd rfl) rfl rfl ?_
          refine g_bipush 10 73 (gd rfl) rfl rfl ?_
          refine g_idiv 74 (gd rfl) rfl (by decide) (fun z73 e73 => ?_)
          have i73 := in_div 0 100000 e73 i53 rfl rfl
          refine g_istore_n 75 (gd rfl) rfl (Nat.le_of_ble_eq_true rfl) ?_
          refine g_goto 52 (gd rfl) rfl ?_
          have m52 : (z73).toInt < ((k52 : Nat) : Int) := by (first | have a0 := oa5 h1 j52_4 i53 j52_2 i73 | ((first | have a0 := in_u h1 | (have a0 := h1; unfold In at a0)); (first | have a1 := in_u j52_4 | (have a1 := j52_4; unfold In at a1)); (first | have a2 := in_u i53 | (have a2 := i53; unfold In at a2)); (first | have a3 := in_u j52_2 | (have a3 := j52_2; unfold In at a3)); (first | have a4 := in_u i73 | (have a4 := i73; unfold In at a4)))); have a5 := t_div e73 i53 rfl; (first | have a6 := in_u i67x28 | (have a6 := i67x28; unfold In at a6)); have a7 := t_add e67x28 i67x9 (in_c 1 rfl) rfl; (first | have a8 := oa3 ((in_c 1 rfl)) i67x9 i65 | ((first | have a8 := in_u ((in_c 1 rfl)) | (have a8 := (in_c 1 rfl); unfold In at a8)); (first | have a9 := in_u i67x9 | (have a9 := i67x9; unfold In at a9)); (first | have a10 := in_u i65 | (have a10 := i65; unfold In at a10)))); have a11 := t_add e65 (in_c 48 rfl) i64 rfl; (first | have a12 := oa2 i64 ((in_c 48 rfl)) | ((first | have a12 := in_u i64 | (have a12 := i64; unfold In at a12)); (first | have a13 := in_u ((in_c 48 rfl)) | (have a13 := (in_c 48 rfl); unfold In at a13)))); omega
          exact gg_w (by first | exact Nat.le_add_right _ _ | exact gw2 | exact gw3 | exact gwe rfl | exact gwf rfl | exact gwg rfl | exact gwh rfl | omega) (gg_f (gf_cons rfl (gf_cons rfl (gf_cons rfl (gf_cons rfl (gf_cons rfl gf_nil))))) (ih52  (sF (sI sc52 48 z67x1.toNatClampNeg (vp_nar .char z66)) 46 9 z67x28) y52_2 z73 y52_4 hI67x29 (fr_sF rfl (fr_sI rfl hFc52)) (in_w 0 1000000 j52_2 rfl) (in_w 0 1000000 i73 rfl) (in_w 0 7 j52_4 rfl) m52))
  have ct26 : ∀ (k26 : Nat) (sc26 : GS) (y26_2 : Int32) (y26_3 : Int32) (y26_4 : Int32), Inv sc26 → Fr fm_178_46 s sc26 → (In y26_2 0 1000000) → (In y26_3 1 1000000) → (In y26_4 0 7) → 7 - (y26_4).toInt < (k26 : Int) → GG Z (d - 1) 178 post (gx xp) (900001802 + k26 * 900) 26 (fun j => xlook j [(0, .ref (A 46)), (1, .int x1), (2, .int y26_2), (3, .int y26_3), (4, .int y26_4)]) [] (WW Z A sc26 ++ ex) 0 0 := by
    intro k26
    induction k26 with
    | zero => intro sc26 y26_2 y26_3 y26_4 hIc26 hFc26 j26_2 j26_3 j26_4 mm26; exact m_no mm26 j26_4 rfl
    | succ k26 ih26 =>
      intro sc26 y26_2 y26_3 y26_4 hIc26 hFc26 j26_2 j26_3 j26_4 mm26
      refine gg_w (M := 900001802 + k26 * 900 + 900) gws ?_
      refine g_iload 28 (gd rfl) rfl rfl ?_
      refine g_bipush 7 30 (gd rfl) rfl rfl ?_
      refine g_cmp_ge 33 52 (gd rfl) rfl rfl (fun c30 => ?_) (fun c30 => ?_)
      · skip
        have i30 := r_le2 7 7 c30 (in_c 7 rfl) j26_4 rfl
        have m52 : (y26_3).toInt < ((1000002 : Nat) : Int) := by (first | have a0 := oa4 h1 i30 j26_3 j26_2 | ((first | have a0 := in_u h1 | (have a0 := h1; unfold In at a0)); (first | have a1 := in_u i30 | (have a1 := i30; unfold In at a1)); (first | have a2 := in_u j26_3 | (have a2 := j26_3; unfold In at a2)); (first | have a3 := in_u j26_2 | (have a3 := j26_2; unfold In at a3)))); omega
        exact gg_w (by first | exact Nat.le_add_right _ _ | exact gw2 | exact gw3 | exact gwe rfl | exact gwf rfl | exact gwg rfl | exact gwh rfl | omega) (gg_f (gf_cons rfl (gf_cons rfl (gf_cons rfl (gf_cons rfl (gf_cons rfl gf_nil))))) (ct52 1000002 sc26 y26_2 y26_3 y26_4 hIc26 hFc26 (in_w 0 1000000 j26_2 rfl) (in_w 0 1000000 j26_3 rfl) (in_w 0 7 i30 rfl) m52))
      · skip
        have i30 := r_lt1 0 6 c30 j26_4 (in_c 7 rfl) rfl
        refine g_iload_n 34 (gd rfl) rfl rfl ?_
        refine g_iload_n 35 (gd rfl) rfl rfl ?_
        refine g_idiv 36 (gd rfl) rfl (dv_nz j26_3 rfl) (fun z35 e35 => ?_)
        have i35 := in_divv e35 j26_2 j26_3 rfl
        refine g_bipush 10 38 (gd rfl) rfl rfl ?_
        refine g_cmp_lt 41 52 (gd rfl) rfl rfl (fun c38 => ?_) (fun c38 => ?_)
        · skip
          have i38 := r_lt1 0 9 c38 i35 (in_c 10 rfl) rfl
          have m52 : (y26_3).toInt < ((1000002 : Nat) : Int) := by (first | have a0 := oa4 h1 i30 j26_3 j26_2 | ((first | have a0 := in_u h1 | (have a0 := h1; unfold In at a0)); (first | have a1 := in_u i30 | (have a1 := i30; unfold In at a1)); (first | have a2 := in_u j26_3 | (have a2 := j26_3; unfold In at a2)); (first | have a3 := in_u j26_2 | (have a3 := j26_2; unfold In at a3)))); omega
          exact gg_w (by first | exact Nat.le_add_right _ _ | exact gw2 | exact gw3 | exact gwe rfl | exact gwf rfl | exact gwg rfl | exact gwh rfl | omega) (gg_f (gf_cons rfl (gf_cons rfl (gf_cons rfl (gf_cons rfl (gf_cons rfl gf_nil))))) (ct52 1000002 sc26 y26_2 y26_3 y26_4 hIc26 hFc26 (in_w 0 1000000 j26_2 rfl) (in_w 0 1000000 j26_3 rfl) (in_w 0 7 i30 rfl) m52))
        · skip
          have i38 := r_le2 10 1000000 c38 (in_c 10 rfl) i35 rfl
          refine g_iload_n 42 (gd rfl) rfl rfl ?_
          refine g_bipush 10 44 (gd rfl) rfl rfl ?_
          refine g_imul 45 (gd rfl) rfl (fun z44 e44 => ?_)
          have i44 := in_mulc 10 10 10000000 (Or.inr e44) j26_3 rfl rfl
          refine g_istore_n 46 (gd rfl) rfl (Nat.le_of_ble_eq_true rfl) ?_
          refine g_iinc 49 (gd rfl) rfl rfl (Nat.le_of_ble_eq_true rfl) (fun z46 e46 => ?_)
          have i46 := in_add 1 7 e46 i30 (in_c 1 rfl) rfl rfl
          refine g_goto 26 (gd rfl) rfl ?_
          have i26 : In z44 1 1000000 := by have h := t_divv e35 j26_2 j26_3 rfl; have h2 := (t_mulc 10 (Or.inr e44) j26_3 rfl).1; have h10 : (Int32.ofInt 10).toInt = 10 := rfl; rw [h, h10] at c38; have h3 := (Int.le_ediv_iff_mul_le (by have := j26_3.1; omega)).mp c38; have := j26_2.2; have := j26_3.1; exact ⟨by omega, by omega⟩
          exact gg_w (by first | exact Nat.le_add_right _ _ | exact gw2 | exact gw3 | exact gwe rfl | exact gwf rfl | exact gwg rfl | exact gwh rfl | omega) (gg_f (gf_cons rfl (gf_cons rfl (gf_cons rfl (gf_cons rfl (gf_cons rfl gf_nil))))) (ih26 sc26 y26_2 z44 z46 hIc26 hFc26 (in_w 0 1000000 j26_2 rfl) i26 (in_w 0 7 i46 rfl) (m_up mm26 (t_add e46 i30 (in_c 1 rfl) rfl) (in_w 1 1 (in_c 1 rfl) rfl))))
  refine g_enter2 (k := 178) (N := 900009902) (by first | exact dq1 hd rfl | exact dq0 hd rfl | exact dq2 hd rfl | exact dq3 hd rfl | omega) rfl (Nat.le_of_ble_eq_true rfl) ?_
  refine g_aload_n 1 (gd rfl) rfl rfl ?_
  refine g_bipush 32 3 (gd rfl) rfl rfl ?_
  refine g_callv (X := _) (As := [.int (Int32.ofInt 32)]) (r := []) (b := A 46) (q := 46) 6 (gd rfl) rfl rfl rfl rfl rfl (ww_o rfl) (Nat.le_of_ble_eq_true rfl) (mc := 0) (ms := 0) (Nat.zero_le _) (Nat.zero_le _) (P := fun v u => _) ?_ (fun e u h => h) (fun v u h => h)
  intro po3 xx3 hp3 hx3
  refine g_enter2 (k := 177) (N := 300) (by first | exact dq1 hd rfl | exact dq0 hd rfl | exact dq2 hd rfl | exact dq3 hd rfl | omega) rfl (Nat.le_of_ble_eq_true rfl) ?_
  refine g_aload_n 1 (gd rfl) rfl rfl ?_
  refine g_getI 4 (gd rfl) rfl rfl rfl (fun z3x1 e3x1 => ?_)
  have i3x1 := inv_F hI 0 4608 rfl e3x1
  refine g_aload_n 5 (gd rfl) rfl rfl ?_
  refine g_getA (q2 := 48) 8 (gd rfl) rfl rfl rfl rfl ?_
  refine g_alen (n := 4608) (t := 2) 4608 9 (gd rfl) rfl rfl (Nat.le_of_ble_eq_true rfl) rfl ?_
  refine g_cmp_ge 12 32 (gd rfl) rfl rfl (fun c3x9 => ?_) (fun c3x9 => ?_)
  · skip
    have i3x9 := r_le2 4608 4608 c3x9 (in_c 4608 rfl) i3x1 rfl
    refine g_return (gd rfl) rfl (hp3 _ _ ?_)
    show GG _ _ _ _ _ _ _ _ [] _ _ _
    refine g_iload_n 7 (gd rfl) rfl rfl ?_
    refine g_if_ge 10 16 (gd rfl) rfl rfl (fun c7 => ?_) (fun c7 => ?_)
    · skip
      have i7 := z_ge 0 1000000 c7 h1 rfl
      refine g_iload_n 17 (gd rfl) rfl rfl ?_
      refine g_calls (As := [.int x1]) (r := []) 20 (gd rfl) rfl rfl rfl rfl rfl (Nat.le_of_ble_eq_true rfl) (mc := 0) (ms := 0) (Nat.zero_le _) (Nat.zero_le _) (P := fun v u => _) ?_ (fun v u h => h)
      intro po17 xx17 hp17 hx17
      refine g_enter2 (k := 420) (N := 300) (by first | exact dq1 hd rfl | exact dq0 hd rfl | exact dq2 hd rfl | exact dq3 hd rfl | omega) rfl (Nat.le_of_ble_eq_true rfl) ?_
      refine g_iload_n 1 (gd rfl) rfl rfl ?_
      refine g_if_ge 4 9 (gd rfl) rfl rfl (fun c17x1 => ?_) (fun c17x1 => ?_)
      · skip
        refine g_iload_n 10 (gd rfl) rfl rfl ?_
        refine g_ireturn (gd rfl) rfl rfl (hp17 _ _ ?_)
        show GG _ _ _ _ _ _ _ _ [.int x1] _ _ _
        refine g_istore_n 21 (gd rfl) rfl (Nat.le_of_ble_eq_true rfl) ?_
        refine g_iconst 1 22 (gd rfl) rfl rfl ?_
        refine g_istore_n 23 (gd rfl) rfl (Nat.le_of_ble_eq_true rfl) ?_
        refine g_iconst 0 24 (gd rfl) rfl rfl ?_
        refine g_istore 26 (gd rfl) rfl (Nat.le_of_ble_eq_true rfl) ?_
        exact gg_w (by first | exact Nat.le_of_ble_eq_true rfl | omega) (gg_f (gf_cons rfl (gf_cons rfl (gf_cons rfl (gf_cons rfl (gf_cons rfl gf_nil))))) (ct26 8 s x1 (Int32.ofInt 1) (Int32.ofInt 0) hI fr_rf (in_w 0 1000000 i7 rfl) (in_w 1 1000000 (in_c 1 rfl) rfl) (in_w 0 7 (in_c 0 rfl) rfl) (m_in 8 (in_w 0 7 (in_c 0 rfl) rfl) rfl)))
      · skip
        exact zn_lt c17x1 i7 rfl
    · skip
      have i7 := z_lt (-1000000) (-1) c7 h1 rfl
      refine g_aload_n 11 (gd rfl) rfl rfl ?_
      refine g_bipush 45 13 (gd rfl) rfl rfl ?_
      refine g_callv (X := _) (As := [.int (Int32.ofInt 45)]) (r := []) (b := A 46) (q := 46) 16 (gd rfl) rfl rfl rfl rfl rfl (ww_o rfl) (Nat.le_of_ble_eq_true rfl) (mc := 0) (ms := 0) (Nat.zero_le _) (Nat.zero_le _) (P := fun v u => _) ?_ (fun e u h => h) (fun v u h => h)
      intro po13 xx13 hp13 hx13
      refine g_enter2 (k := 177) (N := 300) (by first | exact dq1 hd rfl | exact dq0 hd rfl | exact dq2 hd rfl | exact dq3 hd rfl | omega) rfl (Nat.le_of_ble_eq_true rfl) ?_
      refine g_aload_n 1 (gd rfl) rfl rfl ?_
      refine g_getI 4 (gd rfl) rfl rfl rfl (fun z13x1 e13x1 => ?_)
      have q13x1 : z3x1 = z13x1 := (e3x1).trans e13x1.symm
      subst q13x1
      refine g_aload_n 5 (gd rfl) rfl rfl ?_
      refine g_getA (q2 := 48) 8 (gd rfl) rfl rfl rfl rfl ?_
      refine g_alen (n := 4608) (t := 2) 4608 9 (gd rfl) rfl rfl (Nat.le_of_ble_eq_true rfl) rfl ?_
      refine g_cmp_ge 12 32 (gd rfl) rfl rfl (fun c13x9 => ?_) (fun c13x9 => ?_)
      · skip
        refine g_return (gd rfl) rfl (hp13 _ _ ?_)
        show GG _ _ _ _ _ _ _ _ [] _ _ _
        refine g_iload_n 17 (gd rfl) rfl rfl ?_
        refine g_calls (As := [.int x1]) (r := []) 20 (gd rfl) rfl rfl rfl rfl rfl (Nat.le_of_ble_eq_true rfl) (mc := 0) (ms := 0) (Nat.zero_le _) (Nat.zero_le _) (P := fun v u => _) ?_ (fun v u h => h)
        intro po17 xx17 hp17 hx17
        refine g_enter2 (k := 420) (N := 300) (by first | exact dq1 hd rfl | exact dq0 hd rfl | exact dq2 hd rfl | exact dq3 hd rfl | omega) rfl (Nat.le_of_ble_eq_true rfl) ?_
        refine g_iload_n 1 (gd rfl) rfl rfl ?_
        refine g_if_ge 4 9 (gd rfl) rfl rfl (fun c17x1 => ?_) (fun c17x1 => ?_)
        · skip
          exact zn_ge c17x1 i7 rfl
        · skip
          refine g_iload_n 5 (gd rfl) rfl rfl ?_
          refine g_ineg 6 (gd rfl) rfl (fun z17x5 e17x5 => ?_)
          have i17x5 := in_neg 1 1000000 e17x5 i7 rfl
          refine g_goto 10 (gd rfl) rfl ?_
          refine g_ireturn (gd rfl) rfl rfl (hp17 _ _ ?_)
          show GG _ _ _ _ _ _ _ _ [.int z17x5] _ _ _
          refine g_istore_n 21 (gd rfl) rfl (Nat.le_of_ble_eq_true rfl) ?_
          refine g_iconst 1 22 (gd rfl) rfl rfl ?_
          refine g_istore_n 23 (gd rfl) rfl (Nat.le_of_ble_eq_true rfl) ?_
          refine g_iconst 0 24 (gd rfl) rfl rfl ?_
          refine g_istore 26 (gd rfl) rfl (Nat.le_of_ble_eq_true rfl) ?_
          exact gg_w (by first | exact Nat.le_of_ble_eq_true rfl | omega) (gg_f (gf_cons rfl (gf_cons rfl (gf_cons rfl (gf_cons rfl (gf_cons rfl gf_nil))))) (ct26 8 s z17x5 (Int32.ofInt 1) (Int32.ofInt 0) hI fr_rf (in_w 0 1000000 i17x5 rfl) (in_w 1 1000000 (in_c 1 rfl) rfl) (in_w 0 7 (in_c 0 rfl) rfl) (m_in 8 (in_w 0 7 (in_c 0 rfl) rfl) rfl)))
      · skip
        exact n_lt c13x9 i3x9 (in_c 4608 rfl) rfl
  · skip
    have i3x9 := r_lt1 0 4607 c3x9 i3x1 (in_c 4608 rfl) rfl
    refine g_aload_n 13 (gd rfl) rfl rfl ?_
    refine g_getA (q2 := 48) 16 (gd rfl) rfl rfl rfl rfl ?_
    refine g_aload_n 17 (gd rfl) rfl rfl ?_
    refine g_getI 20 (gd rfl) rfl rfl rfl (fun z3x17 e3x17 => ?_)
    have q3x17 : z3x1 = z3x17 := (e3x1).trans e3x17.symm
    subst q3x17
    refine g_iload_n 21 (gd rfl) rfl rfl ?_
    refine g_castore 22 (gd rfl) rfl (n := 4608) rfl (in_ix i3x9 rfl) ?_
    have hI3x21 := inv_sI (q := 48) (j := z3x1.toNatClampNeg) hI rfl (in_w 0 65535 (nar_c (Int32.ofInt 32)) rfl)
    refine g_aload_n 23 (gd rfl) rfl rfl ?_
    refine g_dup 24 (gd rfl) rfl rfl ?_
    refine g_getI 27 (gd rfl) rfl rfl rfl (fun z3x24 e3x24 => ?_)
    have q3x24 : z3x1 = z3x24 := (sI_F (e3x1)).trans e3x24.symm
    subst q3x24
    refine g_iconst 1 28 (gd rfl) rfl rfl ?_
    refine g_iadd 29 (gd rfl) rfl (fun z3x28 e3x28 => ?_)
    have i3x28 := in_add 1 4608 e3x28 i3x9 (in_c 1 rfl) rfl rfl
    refine g_putI 32 (gd rfl) rfl rfl rfl rfl ?_
    have hI3x29 := inv_sF (q := 46) (j := 9) hI3x21 rfl (in_w 0 4608 i3x28 rfl)
    refine g_return (gd rfl) rfl (hp3 _ _ ?_)
    show GG _ _ _ _ _ _ _ _ [] _ _ _
    refine g_iload_n 7 (gd rfl) rfl rfl ?_
    refine g_if_ge 10 16 (gd rfl) rfl rfl (fun c7 => ?_) (fun c7 => ?_)
    · skip
      have i7 := z_ge 0 1000000 c7 h1 rfl
      refine g_iload_n 17 (gd rfl) rfl rfl ?_
      refine g_calls (As := [.int x1]) (r := []) 20 (gd rfl) rfl rfl rfl rfl rfl (Nat.le_of_ble_eq_true rfl) (mc := 0) (ms := 0) (Nat.zero_le _) (Nat.zero_le _) (P := fun v u => _) ?_ (fun v u h => h)
      intro po17 xx17 hp17 hx17
      refine g_enter2 (k := 420) (N := 300) (by first | exact dq1 hd rfl | exact dq0 hd rfl | exact dq2 hd rfl | exact dq3 hd rfl | omega) rfl (Nat.le_of_ble_eq_true rfl) ?_
      refine g_iload_n 1 (gd rfl) rfl rfl ?_
      refine g_if_ge 4 9 (gd rfl) rfl rfl (fun c17x1 => ?_) (fun c17x1 => ?_)
      · skip
        refine g_iload_n 10 (gd rfl) rfl rfl ?_
        refine g_ireturn (gd rfl) rfl rfl (hp17 _ _ ?_)
        show GG _ _ _ _ _ _ _ _ [.int x1] _ _ _
        refine g_istore_n 21 (gd rfl) rfl (Nat.le_of_ble_eq_true rfl) ?_
        refine g_iconst 1 22 (gd rfl) rfl rfl ?_
        refine g_istore_n 23 (gd rfl) rfl (Nat.le_of_ble_eq_true rfl) ?_
        refine g_iconst 0 24 (gd rfl) rfl rfl ?_
        refine g_istore 26 (gd rfl) rfl (Nat.le_of_ble_eq_true rfl) ?_
        exact gg_w (by first | exact Nat.le_of_ble_eq_true rfl | omega) (gg_f (gf_cons rfl (gf_cons rfl (gf_cons rfl (gf_cons rfl (gf_cons rfl gf_nil))))) (ct26 8 (sF (sI s 48 z3x1.toNatClampNeg (vp_nar .char (Int32.ofInt 32))) 46 9 z3x28) x1 (Int32.ofInt 1) (Int32.ofInt 0) hI3x29 (fr_sF rfl (fr_sI rfl fr_rf)) (in_w 0 1000000 i7 rfl) (in_w 1 1000000 (in_c 1 rfl) rfl) (in_w 0 7 (in_c 0 rfl) rfl) (m_in 8 (in_w 0 7 (in_c 0 rfl) rfl) rfl)))
      · skip
        exact zn_lt c17x1 i7 rfl
    · skip
      have i7 := z_lt (-1000000) (-1) c7 h1 rfl
      refine g_aload_n 11 (gd rfl) rfl rfl ?_
      refine g_bipush 45 13 (gd rfl) rfl rfl ?_
      refine g_callv (X := _) (As := [.int (Int32.ofInt 45)]) (r := []) (b := A 46) (q := 46) 16 (gd rfl) rfl rfl rfl rfl rfl (ww_o rfl) (Nat.le_of_ble_eq_true rfl) (mc := 0) (ms := 0) (Nat.zero_le _) (Nat.zero_le _) (P := fun v u => _) ?_ (fun e u h => h) (fun v u h => h)
      intro po13 xx13 hp13 hx13
      refine g_enter2 (k := 177) (N := 300) (by first | exact dq1 hd rfl | exact dq0 hd rfl | exact dq2 hd rfl | exact dq3 hd rfl | omega) rfl (Nat.le_of_ble_eq_true rfl) ?_
      refine g_aload_n 1 (gd rfl) rfl rfl ?_
      refine g_getI 4 (gd rfl) rfl rfl rfl (fun z13x1 e13x1 => ?_)
      have q13x1 : z3x28 = z13x1 := (sF_get).trans e13x1.symm
      subst q13x1
      refine g_aload_n 5 (gd rfl) rfl rfl ?_
      refine g_getA (q2 := 48) 8 (gd rfl) rfl rfl rfl rfl ?_
      refine g_alen (n := 4608) (t := 2) 4608 9 (gd rfl) rfl rfl (Nat.le_of_ble_eq_true rfl) rfl ?_
      refine g_cmp_ge 12 32 (gd rfl) rfl rfl (fun c13x9 => ?_) (fun c13x9 => ?_)
      · skip
        have i13x9 := r_le2 4608 4608 c13x9 (in_c 4608 rfl) i3x28 rfl
        refine g_return (gd rfl) rfl (hp13 _ _ ?_)
        show GG _ _ _ _ _ _ _ _ [] _ _ _
        refine g_iload_n 17 (gd rfl) rfl rfl ?_
        refine g_calls (As := [.int x1]) (r := []) 20 (gd rfl) rfl rfl rfl rfl rfl (Nat.le_of_ble_eq_true rfl) (mc := 0) (ms := 0) (Nat.zero_le _) (Nat.zero_le _) (P := fun v u => _) ?_ (fun v u h => h)
        intro po17 xx17 hp17 hx17
        refine g_enter2 (k := 420) (N := 300) (by first | exact dq1 hd rfl | exact dq0 hd rfl | exact dq2 hd rfl | exact dq3 hd rfl | omega) rfl (Nat.le_of_ble_eq_true rfl) ?_
        refine g_iload_n 1 (gd rfl) rfl rfl ?_
        refine g_if_ge 4 9 (gd rfl) rfl rfl (fun c17x1 => ?_) (fun c17x1 => ?_)
        · skip
          exact zn_ge c17x1 i7 rfl
        · skip
          refine g_iload_n 5 (gd rfl) rfl rfl ?_
          refine g_ineg 6 (gd rfl) rfl (fun z17x5 e17x5 => ?_)
          have i17x5 := in_neg 1 1000000 e17x5 i7 rfl
          refine g_goto 10 (gd rfl) rfl ?_
          refine g_ireturn (gd rfl) rfl rfl (hp17 _ _ ?_)
          show GG _ _ _ _ _ _ _ _ [.int z17x5] _ _ _
          refine g_istore_n 21 (gd rfl) rfl (Nat.le_of_ble_eq_true rfl) ?_
          refine g_iconst 1 22 (gd rfl) rfl rfl ?_
          refine g_istore_n 23 (gd rfl) rfl (Nat.le_of_ble_eq_true rfl) ?_
          refine g_iconst 0 24 (gd rfl) rfl rfl ?_
          refine g_istore 26 (gd rfl) rfl (Nat.le_of_ble_eq_true rfl) ?_
          exact gg_w (by first | exact Nat.le_of_ble_eq_true rfl | omega) (gg_f (gf_cons rfl (gf_cons rfl (gf_cons rfl (gf_cons rfl (gf_cons rfl gf_nil))))) (ct26 8 (sF (sI s 48 z3x1.toNatClampNeg (vp_nar .char (Int32.ofInt 32))) 46 9 z3x28) z17x5 (Int32.ofInt 1) (Int32.ofInt 0) hI3x29 (fr_sF rfl (fr_sI rfl fr_rf)) (in_w 0 1000000 i17x5 rfl) (in_w 1 1000000 (in_c 1 rfl) rfl) (in_w 0 7 (in_c 0 rfl) rfl) (m_in 8 (in_w 0 7 (in_c 0 rfl) rfl) rfl)))
      · skip
        have i13x9 := r_lt1 1 4607 c13x9 i3x28 (in_c 4608 rfl) rfl
        refine g_aload_n 13 (gd rfl) rfl rfl ?_
        refine g_getA (q2 := 48) 16 (gd rfl) rfl rfl rfl rfl ?_
        refine g_aload_n 17 (gd rfl) rfl rfl ?_
        refine g_getI 20 (gd rfl) rfl rfl rfl (fun z13x17 e13x17 => ?_)
        have q13x17 : z3x28 = z13x17 := (sF_get).trans e13x17.symm
        subst q13x17
        refine g_iload_n 21 (gd rfl) rfl rfl ?_
        refine g_castore 22 (gd rfl) rfl (n := 4608) rfl (in_ix i13x9 rfl) ?_
        have hI13x21 := inv_sI (q := 48) (j := z3x28.toNatClampNeg) hI3x29 rfl (in_w 0 65535 (nar_c (Int32.ofInt 45)) rfl)
        refine g_aload_n 23 (gd rfl) rfl rfl ?_
        refine g_dup 24 (gd rfl) rfl rfl ?_
        refine g_getI 27 (gd rfl) rfl rfl rfl (fun z13x24 e13x24 => ?_)
        have q13x24 : z3x28 = z13x24 := (sI_F (sF_get)).trans e13x24.symm
        subst q13x24
        refine g_iconst 1 28 (gd rfl) rfl rfl ?_
        refine g_iadd 29 (gd rfl) rfl (fun z13x28 e13x28 => ?_)
        have i13x28 := in_add 2 4608 e13x28 i13x9 (in_c 1 rfl) rfl rfl
        refine g_putI 32 (gd rfl) rfl rfl rfl rfl ?_
        have hI13x29 := inv_sF (q := 46) (j := 9) hI13x21 rfl (in_w 0 4608 i13x28 rfl)
        refine g_return (gd rfl) rfl (hp13 _ _ ?_)
        show GG _ _ _ _ _ _ _ _ [] _ _ _
        refine g_iload_n 17 (gd rfl) rfl rfl ?_
        refine g_calls (As := [.int x1]) (r := []) 20 (gd rfl) rfl rfl rfl rfl rfl (Nat.le_of_ble_eq_true rfl) (mc := 0) (ms := 0) (Nat.zero_le _) (Nat.zero_le _) (P := fun v u => _) ?_ (fun v u h => h)
        intro po17 xx17 hp17 hx17
        refine g_enter2 (k := 420) (N := 300) (by first | exact dq1 hd rfl | exact dq0 hd rfl | exact dq2 hd rfl | exact dq3 hd rfl | omega) rfl (Nat.le_of_ble_eq_true rfl) ?_
        refine g_iload_n 1 (gd rfl) rfl rfl ?_
        refine g_if_ge 4 9 (gd rfl) rfl rfl (fun c17x1 => ?_) (fun c17x1 => ?_)
        · skip
          exact zn_ge c17x1 i7 rfl
        · skip
          refine g_iload_n 5 (gd rfl) rfl rfl ?_
          refine g_ineg 6 (gd rfl) rfl (fun z17x5 e17x5 => ?_)
          have i17x5 := in_neg 1 1000000 e17x5 i7 rfl
          refine g_goto 10 (gd rfl) rfl ?_
          refine g_ireturn (gd rfl) rfl rfl (hp17 _ _ ?_)
          show GG _ _ _ _ _ _ _ _ [.int z17x5] _ _ _
          refine g_istore_n 21 (gd rfl) rfl (Nat.le_of_ble_eq_true rfl) ?_
          refine g_iconst 1 22 (gd rfl) rfl rfl ?_
          refine g_istore_n 23 (gd rfl) rfl (Nat.le_of_ble_eq_true rfl) ?_
          refine g_iconst 0 24 (gd rfl) rfl rfl ?_
          refine g_istore 26 (gd rfl) rfl (Nat.le_of_ble_eq_true rfl) ?_
          exact gg_w (by first | exact Nat.le_of_ble_eq_true rfl | omega) (gg_f (gf_cons rfl (gf_cons rfl (gf_cons rfl (gf_cons rfl (gf_cons rfl gf_nil))))) (ct26 8 (sF (sI (sF (sI s 48 z3x1.toNatClampNeg (vp_nar .char (Int32.ofInt 32))) 46 9 z3x28) 48 z3x28.toNatClampNeg (vp_nar .char (Int32.ofInt 45))) 46 9 z13x28) z17x5 (Int32.ofInt 1) (Int32.ofInt 0) hI13x29 (fr_sF rfl (fr_sI rfl (fr_sF rfl (fr_sI rfl fr_rf)))) (in_w 0 1000000 i17x5 rfl) (in_w 1 1000000 (in_c 1 rfl) rfl) (in_w 0 7 (in_c 0 rfl) rfl) (m_in 8 (in_w 0 7 (in_c 0 rfl) rfl) rfl)))

def fm_181_76_2 : FM := ([77, 78], [79], [(76, 0)], [])
/-- GraphHouse$Trees.copyArcs -/
theorem k_181_76_2 {Z : AmZ} {A : Nat → Nat} {s : GS} {ex : va_W} {d : Nat} {X : AmX}  (hd : 3 ≤ d) (hI : Inv s) (q_0 : KN (s.1 4) (s.1 5) (s.2.2.1 2 1)) : GC Z d 181 [.ref (A 76), .ref (A 2)] (WW Z A s ++ ex) 0 0 (fun v u => ∃ t : GS, Inv t ∧ Fr fm_181_76_2 s t ∧ v = none ∧ u = WW Z A t ++ ex ∧ (AE t (s.2.2.1 2 1).toInt)) X := by
  intro post xp hP hX
  obtain ⟨u_2_3, e_2_3⟩ : ∃ w, w = s.2.2.1 2 3 := ⟨_, rfl⟩
  have ro_2_3 := inv_F hI 0 160 rfl e_2_3
  have ct7 : ∀ (k7 : Nat) (sc7 : GS) (y7_2 : Int32) (w7_76_0 : Int32), Inv sc7 → Fr fm_181_76_2 s sc7 → (In y7_2 0 160) → (w7_76_0 = sc7.2.2.1 76 0) → ((w7_76_0).toInt ≤ (y7_2).toInt) → (AE sc7 (s.2.2.1 2 1).toInt) → 160 - (y7_2).toInt < (k7 : Int) → GG Z (d - 1) 181 post (gx xp) (1 + k7 * 900) 7 (fun j => xlook j [(0, .ref (A 76)), (1, .ref (A 2)), (2, .int y7_2)]) [] (WW Z A sc7 ++ ex) 0 0 := by
    intro k7
    induction k7 with
    | zero => intro sc7 y7_2 w7_76_0 hIc7 hFc7 j7_2 v7_76_0 n7_0 g7_0 mm7; exact m_no mm7 j7_2 rfl
    | succ k7 ih7 =>
      intro sc7 y7_2 w7_76_0 hIc7 hFc7 j7_2 v7_76_0 n7_0 g7_0 mm7
      refine gg_w (M := 1 + k7 * 900 + 900) gws ?_
      refine g_iload_n 8 (gd rfl) rfl rfl ?_
      refine g_aload_n 9 (gd rfl) rfl rfl ?_
      refine g_getI 12 (gd rfl) rfl rfl rfl (fun z9 e9 => ?_)
      have q9 : u_2_3 = z9 := (fr_F e_2_3 hFc7 rfl).trans e9.symm
      subst q9
      refine g_cmp_ge 15 85 (gd rfl) rfl rfl (fun c12 => ?_) (fun c12 => ?_)
      · skip
        have n85 : AE sc7 (s.2.2.1 2 1).toInt := by exact g7_0
        exact g_return (gd rfl) rfl (hP _ _ ⟨sc7, hIc7, hFc7, rfl, rfl, n85⟩)
      · skip
        have i12 := r_lt1 0 159 c12 j7_2 ro_2_3 rfl
        have i12a := r_lt2 1 160 c12 j7_2 ro_2_3 rfl
        refine g_aload_n 16 (gd rfl) rfl rfl ?_
        refine g_iload_n 17 (gd rfl) rfl rfl ?_
        refine g_callv (X := _) (As := [.int y7_2]) (r := []) (b := A 2) (q := 2) 20 (gd rfl) rfl rfl rfl rfl rfl (ww_o rfl) (Nat.le_of_ble_eq_true rfl) (mc := 0) (ms := 0) (Nat.zero_le _) (Nat.zero_le _) (P := fun v u => _) ?_ (fun e u h => h) (fun v u h => h)
        intro po17 xx17 hp17 hx17
        refine g_enter2 (k := 97) (N := 300) (by first | exact dq1 hd rfl | exact dq0 hd rfl | exact dq2 hd rfl | exact dq3 hd rfl | omega) rfl (Nat.le_of_ble_eq_true rfl) ?_
        refine g_aload_n 1 (gd rfl) rfl rfl ?_
        refine g_getA (q2 := 4) 4 (gd rfl) rfl rfl rfl rfl ?_
        refine g_iload_n 5 (gd rfl) rfl rfl ?_
        refine g_iaload 6 (gd rfl) rfl (n := 160) rfl (in_ix i12 rfl) (fun z17x5 e17x5 => ?_)
        have i17x5 := inv_I hIc7 (n := 160) (t := 0) (-1) 31 rfl (in_ix i12 rfl) rfl e17x5
        refine g_iconst (-1) 7 (gd rfl) rfl rfl ?_
        refine g_cmp_eq 10 29 (gd rfl) rfl rfl (fun c17x7 => ?_) (fun c17x7 => ?_)
        · skip
          have i17x7 := r_eq1 (-1) (-1) c17x7 i17x5 (in_c (-1) rfl) rfl
          refine g_iconst 0 30 (gd rfl) rfl rfl ?_
          refine g_ireturn (gd rfl) rfl (nb01 (in_w 0 1 (in_c 0 rfl) rfl)) (hp17 _ _ ?_)
          show GG _ _ _ _ _ _ _ _ [.int (Int32.ofInt 0)] _ _ _
          refine g_if_eq 23 79 (gd rfl) rfl rfl (fun c20 => ?_) (fun c20 => ?_)
          · skip
            refine g_iinc 82 (gd rfl) rfl rfl (Nat.le_of_ble_eq_true rfl) (fun z79 e79 => ?_)
            have i79 := in_add 1 160 e79 i12 (in_c 1 rfl) rfl rfl
            refine g_goto 7 (gd rfl) rfl ?_
            have n7 : (w7_76_0).toInt ≤ (z79).toInt := by (first | have a0 := oa4 i12a ((inv_F hIc7 0 160 rfl v7_76_0)) i12 i79 | ((first | have a0 := in_u i12a | (have a0 := i12a; unfold In at a0)); (first | have a1 := in_u ((inv_F hIc7 0 160 rfl v7_76_0)) | (have a1 := (inv_F hIc7 0 160 rfl v7_76_0); unfold In at a1)); (first | have a2 := in_u i12 | (have a2 := i12; unfold In at a2)); (first | have a3 := in_u i79 | (have a3 := i79; unfold In at a3)))); have a4 := t_add e79 i12 (in_c 1 rfl) rfl; (first | have a5 := in_u ((in_c 1 rfl)) | (have a5 := (in_c 1 rfl); unfold In at a5)); omega
            have n7a : AE sc7 (s.2.2.1 2 1).toInt := by exact g7_0
            exact gg_w (by first | exact Nat.le_add_right _ _ | exact gw2 | exact gw3 | exact gwe rfl | exact gwf rfl | exact gwg rfl | exact gwh rfl | omega) (gg_f (gf_cons rfl (gf_cons rfl (gf_cons rfl gf_nil))) (ih7 sc7 z79 w7_76_0 hIc7 hFc7 (in_w 0 160 i79 rfl) v7_76_0 n7 n7a (m_up mm7 (t_add e79 i12 (in_c 1 rfl) rfl) (in_w 1 1 (in_c 1 rfl) rfl))))
          · skip
            exact zn_ne c20 (in_c 0 rfl) rfl
        · skip
          have i17x7 := r_ne1 0 31 c17x7 i17x5 (in_c (-1) rfl) rfl
          refine g_aload_n 11 (gd rfl) rfl rfl ?_
          refine g_getA (q2 := 4) 14 (gd rfl) rfl rfl rfl rfl ?_
          refine g_iload_n 15 (gd rfl) rfl rfl ?_
          refine g_iaload 16 (gd rfl) rfl (n := 160) rfl (in_ix i12 rfl) (fun z17x15 e17x15 => ?_)
          have q17x15 : z17x5 = z17x15 := (e17x5).trans e17x15.symm
          subst q17x15
          refine g_aload_n 17 (gd rfl) rfl rfl ?_
          refine g_getA (q2 := 5) 20 (gd rfl) rfl rfl rfl rfl ?_
          refine g_iload_n 21 (gd rfl) rfl rfl ?_
          refine g_iaload 22 (gd rfl) rfl (n := 160) rfl (in_ix i12 rfl) (fun z17x21 e17x21 => ?_)
          have i17x21 := inv_I hIc7 (n := 160) (t := 0) 0 31 rfl (in_ix i12 rfl) rfl e17x21
          refine g_cmp_eq 25 29 (gd rfl) rfl rfl (fun c17x22 => ?_) (fun c17x22 => ?_)
          · skip
            refine g_iconst 0 30 (gd rfl) rfl rfl ?_
            refine g_ireturn (gd rfl) rfl (nb01 (in_w 0 1 (in_c 0 rfl) rfl)) (hp17 _ _ ?_)
            show GG _ _ _ _ _ _ _ _ [.int (Int32.ofInt 0)] _ _ _
            refine g_if_eq 23 79 (gd rfl) rfl rfl (fun c20 => ?_) (fun c20 => ?_)
            · skip
              refine g_iinc 82 (gd rfl) rfl rfl (Nat.le_of_ble_eq_true rfl) (fun z79 e79 => ?_)
              have i79 := in_add 1 160 e79 i12 (in_c 1 rfl) rfl rfl
              refine g_goto 7 (gd rfl) rfl ?_
              have n7 : (w7_76_0).toInt ≤ (z79).toInt := by (first | have a0 := oa4 i12a ((inv_F hIc7 0 160 rfl v7_76_0)) i12 i79 | ((first | have a0 := in_u i12a | (have a0 := i12a; unfold In at a0)); (first | have a1 := in_u ((inv_F hIc7 0 160 rfl v7_76_0)) | (have a1 := (inv_F hIc7 0 160 rfl v7_76_0); unfold In at a1)); (first | have a2 := in_u i12 | (have a2 := i12; unfold In at a2)); (first | have a3 := in_u i79 | (have a3 := i79; unfold In at a3)))); have a4 := t_add e79 i12 (in_c 1 rfl) rfl; (first | have a5 := in_u ((in_c 1 rfl)) | (have a5 := (in_c 1 rfl); unfold In at a5)); omega
              have n7a : AE sc7 (s.2.2.1 2 1).toInt := by exact g7_0
              exact gg_w (by first | exact Nat.le_add_right _ _ | exact gw2 | exact gw3 | exact gwe rfl | exact gwf rfl | exact gwg rfl | exact gwh rfl | omega) (gg_f (gf_cons rfl (gf_cons rfl (gf_cons rfl gf_nil))) (ih7 sc7 z79 w7_76_0 hIc7 hFc7 (in_w 0 160 i79 rfl) v7_76_0 n7 n7a (m_up mm7 (t_add e79 i12 (in_c 1 rfl) rfl) (in_w 1 1 (in_c 1 rfl) rfl))))
            · skip
              exact zn_ne c20 (in_c 0 rfl) rfl
          · skip
            refine g_iconst 1 26 (gd rfl) rfl rfl ?_
            refine g_goto 30 (gd rfl) rfl ?_
            refine g_ireturn (gd rfl) rfl (nb01 (in_w 0 1 (in_c 1 rfl) rfl)) (hp17 _ _ ?_)
            show GG _ _ _ _ _ _ _ _ [.int (Int32.ofInt 1)] _ _ _
            refine g_if_eq 23 79 (gd rfl) rfl rfl (fun c20 => ?_) (fun c20 => ?_)
            · skip
              exact zn_eq c20 (in_c 1 rfl) rfl
            · skip
              refine g_aload_n 24 (gd rfl) rfl rfl ?_
              refine g_getA (q2 := 77) 27 (gd rfl) rfl rfl rfl rfl ?_
              refine g_aload_n 28 (gd rfl) rfl rfl ?_
              refine g_getI 31 (gd rfl) rfl rfl rfl (fun z28 e28 => ?_)
              have q28 : w7_76_0 = z28 := (v7_76_0).trans e28.symm
              subst q28
              refine g_aload_n 32 (gd rfl) rfl rfl ?_
              refine g_getA (q2 := 4) 35 (gd rfl) rfl rfl rfl rfl ?_
              refine g_iload_n 36 (gd rfl) rfl rfl ?_
              refine g_iaload 37 (gd rfl) rfl (n := 160) rfl (in_ix i12 rfl) (fun z36 e36 => ?_)
              have q36 : z17x5 = z36 := (e17x5).trans e36.symm
              subst q36
              have i37 : In w7_76_0 0 159 := by (first | have a0 := oa3 i12a ((inv_F hIc7 0 160 rfl v7_76_0)) i12 | ((first | have a0 := in_u i12a | (have a0 := i12a; unfold In at a0)); (first | have a1 := in_u ((inv_F hIc7 0 160 rfl v7_76_0)) | (have a1 := (inv_F hIc7 0 160 rfl v7_76_0); unfold In at a1)); (first | have a2 := in_u i12 | (have a2 := i12; unfold In at a2)))); exact ⟨by omega, by omega⟩
              refine g_iastore 38 (gd rfl) rfl (n := 160) rfl (in_ix i37 rfl) ?_
              have hI37 := inv_sI (q := 77) (j := w7_76_0.toNatClampNeg) hIc7 rfl (in_w 0 31 i17x7 rfl)
              refine g_aload_n 39 (gd rfl) rfl rfl ?_
              refine g_getA (q2 := 78) 42 (gd rfl) rfl rfl rfl rfl ?_
              refine g_aload_n 43 (gd rfl) rfl rfl ?_
              refine g_getI 46 (gd rfl) rfl rfl rfl (fun z43 e43 => ?_)
              have q43 : w7_76_0 = z43 := (sI_F (v7_76_0)).trans e43.symm
              subst q43
              refine g_aload_n 47 (gd rfl) rfl rfl ?_
              refine g_getA (q2 := 5) 50 (gd rfl) rfl rfl rfl rfl ?_
              refine g_iload_n 51 (gd rfl) rfl rfl ?_
              refine g_iaload 52 (gd rfl) rfl (n := 160) rfl (in_ix i12 rfl) (fun z51 e51 => ?_)
              have q51 : z17x21 = z51 := (sI_ne rfl (e17x21)).trans e51.symm
              subst q51
              refine g_iastore 53 (gd rfl) rfl (n := 160) rfl (in_ix i37 rfl) ?_
              have hI52 := inv_sI (q := 78) (j := w7_76_0.toNatClampNeg) hI37 rfl (in_w 0 31 i17x21 rfl)
              refine g_aload_n 54 (gd rfl) rfl rfl ?_
              refine g_getA (q2 := 79) 57 (gd rfl) rfl rfl rfl rfl ?_
              refine g_aload_n 58 (gd rfl) rfl rfl ?_
              refine g_getI 61 (gd rfl) rfl rfl rfl (fun z58 e58 => ?_)
              have q58 : w7_76_0 = z58 := (sI_F (sI_F (v7_76_0))).trans e58.symm
              subst q58
              refine g_aload_n 62 (gd rfl) rfl rfl ?_
              refine g_getA (q2 := 6) 65 (gd rfl) rfl rfl rfl rfl ?_
              refine g_iload_n 66 (gd rfl) rfl rfl ?_
              refine g_iaload 67 (gd rfl) rfl (n := 160) rfl (in_ix i12 rfl) (fun z66 e66 => ?_)
              have i66 := inv_I hI52 (n := 160) (t := 0) (-1000000) 1000000 rfl (in_ix i12 rfl) rfl e66
              refine g_i2l 68 (gd rfl) rfl (fun z67 e67 => ?_)
              have i67 := l_i e67 i66
              refine g_lastore 69 (gd rfl) rfl (n := 160) rfl (in_ix i37 rfl) ?_
              have hI68 := inv_sL (q := 79) (j := w7_76_0.toNatClampNeg) (x := z67) hI52 rfl (l_rng z67)
              refine g_aload_n 70 (gd rfl) rfl rfl ?_
              refine g_dup 71 (gd rfl) rfl rfl ?_
              refine g_getI 74 (gd rfl) rfl rfl rfl (fun z71 e71 => ?_)
              have q71 : w7_76_0 = z71 := (sL_F (sI_F (sI_F (v7_76_0)))).trans e71.symm
              subst q71
              refine g_iconst 1 75 (gd rfl) rfl rfl ?_
              refine g_iadd 76 (gd rfl) rfl (fun z75 e75 => ?_)
              have i75 := in_add 1 160 e75 i37 (in_c 1 rfl) rfl rfl
              refine g_putI 79 (gd rfl) rfl rfl rfl rfl ?_
              have hI76 := inv_sF (q := 76) (j := 0) hI68 rfl (in_w 0 160 i75 rfl)
              refine g_iinc 82 (gd rfl) rfl rfl (Nat.le_of_ble_eq_true rfl) (fun z79 e79 => ?_)
              have i79 := in_add 1 160 e79 i12 (in_c 1 rfl) rfl rfl
              refine g_goto 7 (gd rfl) rfl ?_
              have v7 : z75 = (sF (sL (sI (sI sc7 77 w7_76_0.toNatClampNeg z17x5) 78 w7_76_0.toNatClampNeg z17x21) 79 w7_76_0.toNatClampNeg z67) 76 0 z75).2.2.1 76 0 := sF_get
              have n7 : (z75).toInt ≤ (z79).toInt := by (first | have a0 := oa4 i12a i37 i12 i79 | ((first | have a0 := in_u i12a | (have a0 := i12a; unfold In at a0)); (first | have a1 := in_u i37 | (have a1 := i37; unfold In at a1)); (first | have a2 := in_u i12 | (have a2 := i12; unfold In at a2)); (first | have a3 := in_u i79 | (have a3 := i79; unfold In at a3)))); have a4 := t_add e79 i12 (in_c 1 rfl) rfl; (first | have a5 := oa2 ((in_c 1 rfl)) i75 | ((first | have a5 := in_u ((in_c 1 rfl)) | (have a5 := (in_c 1 rfl); unfold In at a5)); (first | have a6 := in_u i75 | (have a6 := i75; unfold In at a6)))); have a7 := t_add e75 i37 (in_c 1 rfl) rfl; have a8 := tx_i2l e67; (first | have a9 := in_u i66 | (have a9 := i66; unfold In at a9)); omega
              have n7a : AE (sF (sL (sI (sI sc7 77 w7_76_0.toNatClampNeg z17x5) 78 w7_76_0.toNatClampNeg z17x21) 79 w7_76_0.toNatClampNeg z67) 76 0 z75) (s.2.2.1 2 1).toInt := by have hk := q_0 (y7_2).toNatClampNeg (by show (y7_2).toInt.toNat < 160; (first | have a0 := oa4 i12a i37 i12 i79 | ((first | have a0 := in_u i12a | (have a0 := i12a; unfold In at a0)); (first | have a1 := in_u i37 | (have a1 := i37; unfold In at a1)); (first | have a2 := in_u i12 | (have a2 := i12; unfold In at a2)); (first | have a3 := in_u i79 | (have a3 := i79; unfold In at a3)))); have a4 := t_add e79 i12 (in_c 1 rfl) rfl; (first | have a5 := oa2 ((in_c 1 rfl)) i75 | ((first | have a5 := in_u ((in_c 1 rfl)) | (have a5 := (in_c 1 rfl); unfold In at a5)); (first | have a6 := in_u i75 | (have a6 := i75; unfold In at a6)))); have a7 := t_add e75 i37 (in_c 1 rfl) rfl; have a8 := tx_i2l e67; (first | have a9 := in_u i66 | (have a9 := i66; unfold In at a9)); (first | exact zt_l (by decide) (by omega) | omega)); rw [← hFc7.1 4 rfl, ← hFc7.1 5 rfl, ← e17x5, ← e17x21] at hk; rcases hk with hk | hk; (exact absurd (hk.trans (by decide)) c17x7); exact ae_add g7_0 v7_76_0 (inv_F hIc7 0 160 rfl v7_76_0).1 (by show (sI (sI sc7 77 w7_76_0.toNatClampNeg z17x5) 78 w7_76_0.toNatClampNeg z17x21).1 77 = _; rw [sI_r rfl, sI_q]) (by show (sI (sI sc7 77 w7_76_0.toNatClampNeg z17x5) 78 w7_76_0.toNatClampNeg z17x21).1 78 = _; rw [sI_q, sI_r rfl]) (by rw [← (show z75 = (sF (sL (sI (sI sc7 77 w7_76_0.toNatClampNeg z17x5) 78 w7_76_0.toNatClampNeg z17x21) 79 w7_76_0.toNatClampNeg z67) 76 0 z75).2.2.1 76 0 from sF_get)]; (first | have a0 := oa4 i12a i37 i12 i79 | ((first | have a0 := in_u i12a | (have a0 := i12a; unfold In at a0)); (first | have a1 := in_u i37 | (have a1 := i37; unfold In at a1)); (first | have a2 := in_u i12 | (have a2 := i12; unfold In at a2)); (first | have a3 := in_u i79 | (have a3 := i79; unfold In at a3)))); have a4 := t_add e79 i12 (in_c 1 rfl) rfl; (first | have a5 := oa2 ((in_c 1 rfl)) i75 | ((first | have a5 := in_u ((in_c 1 rfl)) | (have a5 := (in_c 1 rfl); unfold In at a5)); (first | have a6 := in_u i75 | (have a6 := i75; unfold In at a6)))); have a7 := t_add e75 i37 (in_c 1 rfl) rfl; have a8 := tx_i2l e67; (first | have a9 := in_u i66 | (have a9 := i66; unfold In at a9)); omega) hk.1 hk.2
              exact gg_w (by first | exact Nat.le_add_right _ _ | exact gw2 | exact gw3 | exact gwe rfl | exact gwf rfl | exact gwg rfl | exact gwh rfl | omega) (gg_f (gf_cons rfl (gf_cons rfl (gf_cons rfl gf_nil))) (ih7 (sF (sL (sI (sI sc7 77 w7_76_0.toNatClampNeg z17x5) 78 w7_76_0.toNatClampNeg z17x21) 79 w7_76_0.toNatClampNeg z67) 76 0 z75) z79 z75 hI76 (fr_sF rfl (fr_sL rfl (fr_sI rfl (fr_sI rfl hFc7)))) (in_w 0 160 i79 rfl) v7 n7 n7a (m_up mm7 (t_add e79 i12 (in_c 1 rfl) rfl) (in_w 1 1 (in_c 1 rfl) rfl))))
  refine g_enter2 (k := 181) (N := 145801) (by first | exact dq1 hd rfl | exact dq0 hd rfl | exact dq2 hd rfl | exact dq3 hd rfl | omega) rfl (Nat.le_of_ble_eq_true rfl) ?_
  refine g_aload_n 1 (gd rfl) rfl rfl ?_
  refine g_iconst 0 2 (gd rfl) rfl rfl ?_
  refine g_putI 5 (gd rfl) rfl rfl rfl rfl ?_
  have hI2 := inv_sF (q := 76) (j := 0) hI rfl (in_w 0 160 (in_c 0 rfl) rfl)
  refine g_iconst 0 6 (gd rfl) rfl rfl ?_
  refine g_istore_n 7 (gd rfl) rfl (Nat.le_of_ble_eq_true rfl) ?_
  have v7 : (Int32.ofInt 0) = (sF s 76 0 (Int32.ofInt 0)).2.2.1 76 0 := sF_get
  have n7 : ((Int32.ofInt 0)).toInt ≤ ((Int32.ofInt 0)).toInt := by exact Int.le_refl _
  have n7a : AE (sF s 76 0 (Int32.ofInt 0)) (s.2.2.1 2 1).toInt := by exact ae_0 (by rw [← (show (Int32.ofInt 0) = (sF s 76 0 (Int32.ofInt 0)).2.2.1 76 0 from sF_get)]; decide)
  exact gg_w (by first | exact Nat.le_of_ble_eq_true rfl | omega) (gg_f (gf_cons rfl (gf_cons rfl (gf_cons rfl gf_nil))) (ct7 161 (sF s 76 0 (Int32.ofInt 0)) (Int32.ofInt 0) (Int32.ofInt 0) hI2 (fr_sF rfl fr_rf) (in_w 0 160 (in_c 0 rfl) rfl) v7 n7 n7a (m_in 161 (in_w 0 160 (in_c 0 rfl) rfl) rfl)))

def fm_181_76_32 : FM := ([77, 78], [79], [(76, 0)], [])
/-- GraphHouse$Trees.copyArcs -/
theorem k_181_76_32 {Z : AmZ} {A : Nat → Nat} {s : GS} {ex : va_W} {d : Nat} {X : AmX}  (hd : 3 ≤ d) (hI : Inv s) (q_0 : KN (s.1 34) (s.1 35) (s.2.2.1 32 1)) : GC Z d 181 [.ref (A 76), .ref (A 32)] (WW Z A s ++ ex) 0 0 (fun v u => ∃ t : GS, Inv t ∧ Fr fm_181_76_32 s t ∧ v = none ∧ u = WW Z A t ++ ex ∧ (AE t (s.2.2.1 32 1).toInt)) X := by
  intro post xp hP hX
  obtain ⟨u_32_3, e_32_3⟩ : ∃ w, w = s.2.2.1 32 3 := ⟨_, rfl⟩
  have ro_32_3 := inv_F hI 0 160 rfl e_32_3
  have ct7 : ∀ (k7 : Nat) (sc7 : GS) (y7_2 : Int32) (w7_76_0 : Int32), Inv sc7 → Fr fm_181_76_32 s sc7 → (In y7_2 0 160) → (w7_76_0 = sc7.2.2.1 76 0) → ((w7_76_0).toInt ≤ (y7_2).toInt) → (AE sc7 (s.2.2.1 32 1).toInt) → 160 - (y7_2).toInt < (k7 : Int) → GG Z (d - 1) 181 post (gx xp) (1 + k7 * 900) 7 (fun j => xlook j [(0, .ref (A 76)), (1, .ref (A 32)), (2, .int y7_2)]) [] (WW Z A sc7 ++ ex) 0 0 := by
    intro k7
    induction k7 with
    | zero => intro sc7 y7_2 w7_76_0 hIc7 hFc7 j7_2 v7_76_0 n7_0 g7_0 mm7; exact m_no mm7 j7_2 rfl
    | succ k7 ih7 =>
      intro sc7 y7_2 w7_76_0 hIc7 hFc7 j7_2 v7_76_0 n7_0 g7_0 mm7
      refine gg_w (M := 1 + k7 * 900 + 900) gws ?_
      refine g_iload_n 8 (gd rfl) rfl rfl ?_
      refine g_aload_n 9 (gd rfl) rfl rfl ?_
      refine g_getI 12 (gd rfl) rfl rfl rfl (fun z9 e9 => ?_)
      have q9 : u_32_3 = z9 := (fr_F e_32_3 hFc7 rfl).trans e9.symm
      subst q9
      refine g_cmp_ge 15 85 (gd rfl) rfl rfl (fun c12 => ?_) (fun c12 => ?_)
      · skip
        have n85 : AE sc7 (s.2.2.1 32 1).toInt := by exact g7_0
        exact g_return (gd rfl) rfl (hP _ _ ⟨sc7, hIc7, hFc7, rfl, rfl, n85⟩)
      · skip
        have i12 := r_lt1 0 159 c12 j7_2 ro_32_3 rfl
        have i12a := r_lt2 1 160 c12 j7_2 ro_32_3 rfl
        refine g_aload_n 16 (gd rfl) rfl rfl ?_
        refine g_iload_n 17 (gd rfl) rfl rfl ?_
        refine g_callv (X := _) (As := [.int y7_2]) (r := []) (b := A 32) (q := 32) 20 (gd rfl) rfl rfl rfl rfl rfl (ww_o rfl) (Nat.le_of_ble_eq_true rfl) (mc := 0) (ms := 0) (Nat.zero_le _) (Nat.zero_le _) (P := fun v u => _) ?_ (fun e u h => h) (fun v u h => h)
        intro po17 xx17 hp17 hx17
        refine g_enter2 (k := 97) (N := 300) (by first | exact dq1 hd rfl | exact dq0 hd rfl | exact dq2 hd rfl | exact dq3 hd rfl | omega) rfl (Nat.le_of_ble_eq_true rfl) ?_
        refine g_aload_n 1 (gd rfl) rfl rfl ?_
        refine g_getA (q2 := 34) 4 (gd rfl) rfl rfl rfl rfl ?_
        refine g_iload_n 5 (gd rfl) rfl rfl ?_
        refine g_iaload 6 (gd rfl) rfl (n := 160) rfl (in_ix i12 rfl) (fun z17x5 e17x5 => ?_)
        have i17x5 := inv_I hIc7 (n := 160) (t := 0) (-1) 31 rfl (in_ix i12 rfl) rfl e17x5
        refine g_iconst (-1) 7 (gd rfl) rfl rfl ?_
        refine g_cmp_eq 10 29 (gd rfl) rfl rfl (fun c17x7 => ?_) (fun c17x7 => ?_)
        · skip
          have i17x7 := r_eq1 (-1) (-1) c17x7 i17x5 (in_c (-1) rfl) rfl
          refine g_iconst 0 30 (gd rfl) rfl rfl ?_
          refine g_ireturn (gd rfl) rfl (nb01 (in_w 0 1 (in_c 0 rfl) rfl)) (hp17 _ _ ?_)
          show GG _ _ _ _ _ _ _ _ [.int (Int32.ofInt 0)] _ _ _
          refine g_if_eq 23 79 (gd rfl) rfl rfl (fun c20 => ?_) (fun c20 => ?_)
          · skip
            refine g_iinc 82 (gd rfl) rfl rfl (Nat.le_of_ble_eq_true rfl) (fun z79 e79 => ?_)
            have i79 := in_add 1 160 e79 i12 (in_c 1 rfl) rfl rfl
            refine g_goto 7 (gd rfl) rfl ?_
            have n7 : (w7_76_0).toInt ≤ (z79).toInt := by (first | have a0 := oa4 i12a ((inv_F hIc7 0 160 rfl v7_76_0)) i12 i79 | ((first | have a0 := in_u i12a | (have a0 := i12a; unfold In at a0)); (first | have a1 := in_u ((inv_F hIc7 0 160 rfl v7_76_0)) | (have a1 := (inv_F hIc7 0 160 rfl v7_76_0); unfold In at a1)); (first | have a2 := in_u i12 | (have a2 := i12; unfold In at a2)); (first | have a3 := in_u i79 | (have a3 := i79; unfold In at a3)))); have a4 := t_add e79 i12 (in_c 1 rfl) rfl; (first | have a5 := in_u ((in_c 1 rfl)) | (have a5 := (in_c 1 rfl); unfold In at a5)); omega
            have n7a : AE sc7 (s.2.2.1 32 1).toInt := by exact g7_0
            exact gg_w (by first | exact Nat.le_add_right _ _ | exact gw2 | exact gw3 | exact gwe rfl | exact gwf rfl | exact gwg rfl | exact gwh rfl | omega) (gg_f (gf_cons rfl (gf_cons rfl (gf_cons rfl gf_nil))) (ih7 sc7 z79 w7_76_0 hIc7 hFc7 (in_w 0 160 i79 rfl) v7_76_0 n7 n7a (m_up mm7 (t_add e79 i12 (in_c 1 rfl) rfl) (in_w 1 1 (in_c 1 rfl) rfl))))
          · skip
            exact zn_ne c20 (in_c 0 rfl) rfl
        · skip
          have i17x7 := r_ne1 0 31 c17x7 i17x5 (in_c (-1) rfl) rfl
          refine g_aload_n 11 (gd rfl) rfl rfl ?_
          refine g_getA (q2 := 34) 14 (gd rfl) rfl rfl rfl rfl ?_
          refine g_iload_n 15 (gd rfl) rfl rfl ?_
          refine g_iaload 16 (gd rfl) rfl (n := 160) rfl (in_ix i12 rfl) (fun z17x15 e17x15 => ?_)
          have q17x15 : z17x5 = z17x15 := (e17x5).trans e17x15.symm
          subst q17x15
          refine g_aload_n 17 (gd rfl) rfl rfl ?_
          refine g_getA (q2 := 35) 20 (gd rfl) rfl rfl rfl rfl ?_
          refine g_iload_n 21 (gd rfl) rfl rfl ?_
          refine g_iaload 22 (gd rfl) rfl (n := 160) rfl (in_ix i12 rfl) (fun z17x21 e17x21 => ?_)
          have i17x21 := inv_I hIc7 (n := 160) (t := 0) 0 31 rfl (in_ix i12 rfl) rfl e17x21
          refine g_cmp_eq 25 29 (gd rfl) rfl rfl (fun c17x22 => ?_) (fun c17x22 => ?_)
          · skip
            refine g_iconst 0 30 (gd rfl) rfl rfl ?_
            refine g_ireturn (gd rfl) rfl (nb01 (in_w 0 1 (in_c 0 rfl) rfl)) (hp17 _ _ ?_)
            show GG _ _ _ _ _ _ _ _ [.int (Int32.ofInt 0)] _ _ _
            refine g_if_eq 23 79 (gd rfl) rfl rfl (fun c20 => ?_) (fun c20 => ?_)
            · skip
              refine g_iinc 82 (gd rfl) rfl rfl (Nat.le_of_ble_eq_true rfl) (fun z79 e79 => ?_)
              have i79 := in_add 1 160 e79 i12 (in_c 1 rfl) rfl rfl
              refine g_goto 7 (gd rfl) rfl ?_
              have n7 : (w7_76_0).toInt ≤ (z79).toInt := by (first | have a0 := oa4 i12a ((inv_F hIc7 0 160 rfl v7_76_0)) i12 i79 | ((first | have a0 := in_u i12a | (have a0 := i12a; unfold In at a0)); (first | have a1 := in_u ((inv_F hIc7 0 160 rfl v7_76_0)) | (have a1 := (inv_F hIc7 0 160 rfl v7_76_0); unfold In at a1)); (first | have a2 := in_u i12 | (have a2 := i12; unfold In at a2)); (first | have a3 := in_u i79 | (have a3 := i79; unfold In at a3)))); have a4 := t_add e79 i12 (in_c 1 rfl) rfl; (first | have a5 := in_u ((in_c 1 rfl)) | (have a5 := (in_c 1 rfl); unfold In at a5)); omega
              have n7a : AE sc7 (s.2.2.1 32 1).toInt := by exact g7_0
              exact gg_w (by first | exact Nat.le_add_right _ _ | exact gw2 | exact gw3 | exact gwe rfl | exact gwf rfl | exact gwg rfl | exact gwh rfl | omega) (gg_f (gf_cons rfl (gf_cons rfl (gf_cons rfl gf_nil))) (ih7 sc7 z79 w7_76_0 hIc7 hFc7 (in_w 0 160 i79 rfl) v7_76_0 n7 n7a (m_up mm7 (t_add e79 i12 (in_c 1 rfl) rfl) (in_w 1 1 (in_c 1 rfl) rfl))))
            · skip
              exact zn_ne c20 (in_c 0 rfl) rfl
          · skip
            refine g_iconst 1 26 (gd rfl) rfl rfl ?_
            refine g_goto 30 (gd rfl) rfl ?_
            refine g_ireturn (gd rfl) rfl (nb01 (in_w 0 1 (in_c 1 rfl) rfl)) (hp17 _ _ ?_)
            show GG _ _ _ _ _ _ _ _ [.int (Int32.ofInt 1)] _ _ _
            refine g_if_eq 23 79 (gd rfl) rfl rfl (fun c20 => ?_) (fun c20 => ?_)
            · skip
              exact zn_eq c20 (in_c 1 rfl) rfl
            · skip
              refine g_aload_n 24 (gd rfl) rfl rfl ?_
              refine g_getA (q2 := 77) 27 (gd rfl) rfl rfl rfl rfl ?_
              refine g_aload_n 28 (gd rfl) rfl rfl ?_
              refine g_getI 31 (gd rfl) rfl rfl rfl (fun z28 e28 => ?_)
              have q28 : w7_76_0 = z28 := (v7_76_0).trans e28.symm
              subst q28
              refine g_aload_n 32 (gd rfl) rfl rfl ?_
              refine g_getA (q2 := 34) 35 (gd rfl) rfl rfl rfl rfl ?_
              refine g_iload_n 36 (gd rfl) rfl rfl ?_
              refine g_iaload 37 (gd rfl) rfl (n := 160) rfl (in_ix i12 rfl) (fun z36 e36 => ?_)
              have q36 : z17x5 = z36 := (e17x5).trans e36.symm
              subst q36
              have i37 : In w7_76_0 0 159 := by (first | have a0 := oa3 i12a ((inv_F hIc7 0 160 rfl v7_76_0)) i12 | ((first | have a0 := in_u i12a | (have a0 := i12a; unfold In at a0)); (first | have a1 := in_u ((inv_F hIc7 0 160 rfl v7_76_0)) | (have a1 := (inv_F hIc7 0 160 rfl v7_76_0); unfold In at a1)); (first | have a2 := in_u i12 | (have a2 := i12; unfold In at a2)))); exact ⟨by omega, by omega⟩
              refine g_iastore 38 (gd rfl) rfl (n := 160) rfl (in_ix i37 rfl) ?_
              have hI37 := inv_sI (q := 77) (j := w7_76_0.toNatClampNeg) hIc7 rfl (in_w 0 31 i17x7 rfl)
              refine g_aload_n 39 (gd rfl) rfl rfl ?_
              refine g_getA (q2 := 78) 42 (gd rfl) rfl rfl rfl rfl ?_
              refine g_aload_n 43 (gd rfl) rfl rfl ?_
              refine g_getI 46 (gd rfl) rfl rfl rfl (fun z43 e43 => ?_)
              have q43 : w7_76_0 = z43 := (sI_F (v7_76_0)).trans e43.symm
              subst q43
              refine g_aload_n 47 (gd rfl) rfl rfl ?_
              refine g_getA (q2 := 35) 50 (gd rfl) rfl rfl rfl rfl ?_
              refine g_iload_n 51 (gd rfl) rfl rfl ?_
              refine g_iaload 52 (gd rfl) rfl (n := 160) rfl (in_ix i12 rfl) (fun z51 e51 => ?_)
              have q51 : z17x21 = z51 := (sI_ne rfl (e17x21)).trans e51.symm
              subst q51
              refine g_iastore 53 (gd rfl) rfl (n := 160) rfl (in_ix i37 rfl) ?_
              have hI52 := inv_sI (q := 78) (j := w7_76_0.toNatClampNeg) hI37 rfl (in_w 0 31 i17x21 rfl)
              refine g_aload_n 54 (gd rfl) rfl rfl ?_
              refine g_getA (q2 := 79) 57 (gd rfl) rfl rfl rfl rfl ?_
              refine g_aload_n 58 (gd rfl) rfl rfl ?_
              refine g_getI 61 (gd rfl) rfl rfl rfl (fun z58 e58 => ?_)
              have q58 : w7_76_0 = z58 := (sI_F (sI_F (v7_76_0))).trans e58.symm
              subst q58
              refine g_aload_n 62 (gd rfl) rfl rfl ?_
              refine g_getA (q2 := 36) 65 (gd rfl) rfl rfl rfl rfl ?_
              refine g_iload_n 66 (gd rfl) rfl rfl ?_
              refine g_iaload 67 (gd rfl) rfl (n := 160) rfl (in_ix i12 rfl) (fun z66 e66 => ?_)
              have i66 := inv_I hI52 (n := 160) (t := 0) (-1000000) 1000000 rfl (in_ix i12 rfl) rfl e66
              refine g_i2l 68 (gd rfl) rfl (fun z67 e67 => ?_)
              have i67 := l_i e67 i66
              refine g_lastore 69 (gd rfl) rfl (n := 160) rfl (in_ix i37 rfl) ?_
              have hI68 := inv_sL (q := 79) (j := w7_76_0.toNatClampNeg) (x := z67) hI52 rfl (l_rng z67)
              refine g_aload_n 70 (gd rfl) rfl rfl ?_
              refine g_dup 71 (gd rfl) rfl rfl ?_
              refine g_getI 74 (gd rfl) rfl rfl rfl (fun z71 e71 => ?_)
              have q71 : w7_76_0 = z71 := (sL_F (sI_F (sI_F (v7_76_0)))).trans e71.symm
              subst q71
              refine g_iconst 1 75 (gd rfl) rfl rfl ?_
              refine g_iadd 76 (gd rfl) rfl (fun z75 e75 => ?_)
              have i75 := in_add 1 160 e75 i37 (in_c 1 rfl) rfl rfl
              refine g_putI 79 (gd rfl) rfl rfl rfl rfl ?_
              have hI76 := inv_sF (q := 76) (j := 0) hI68 rfl (in_w 0 160 i75 rfl)
              refine g_iinc 82 (gd rfl) rfl rfl (Nat.le_of_ble_eq_true rfl) (fun z79 e79 => ?_)
              have i79 := in_add 1 160 e79 i12 (in_c 1 rfl) rfl rfl
              refine g_goto 7 (gd rfl) rfl ?_
              have v7 : z75 = (sF (sL (sI (sI sc7 77 w7_76_0.toNatClampNeg z17x5) 78 w7_76_0.toNatClampNeg z17x21) 79 w7_76_0.toNatClampNeg z67) 76 0 z75).2.2.1 76 0 := sF_get
              have n7 : (z75).toInt ≤ (z79).toInt := by (first | have a0 := oa4 i12a i37 i12 i79 | ((first | have a0 := in_u i12a | (have a0 := i12a; unfold In at a0)); (first | have a1 := in_u i37 | (have a1 := i37; unfold In at a1)); (first | have a2 := in_u i12 | (have a2 := i12; unfold In at a2)); (first | have a3 := in_u i79 | (have a3 := i79; unfold In at a3)))); have a4 := t_add e79 i12 (in_c 1 rfl) rfl; (first | have a5 := oa2 ((in_c 1 rfl)) i75 | ((first | have a5 := in_u ((in_c 1 rfl)) | (have a5 := (in_c 1 rfl); unfold In at a5)); (first | have a6 := in_u i75 | (have a6 := i75; unfold In at a6)))); have a7 := t_add e75 i37 (in_c 1 rfl) rfl; have a8 := tx_i2l e67; (first | have a9 := in_u i66 | (have a9 := i66; unfold In at a9)); omega
              have n7a : AE (sF (sL (sI (sI sc7 77 w7_76_0.toNatClampNeg z17x5) 78 w7_76_0.toNatClampNeg z17x21) 79 w7_76_0.toNatClampNeg z67) 76 0 z75) (s.2.2.1 32 1).toInt := by have hk := q_0 (y7_2).toNatClampNeg (by show (y7_2).toInt.toNat < 160; (first | have a0 := oa4 i12a i37 i12 i79 | ((first | have a0 := in_u i12a | (have a0 := i12a; unfold In at a0)); (first | have a1 := in_u i37 | (have a1 := i37; unfold In at a1)); (first | have a2 := in_u i12 | (have a2 := i12; unfold In at a2)); (first | have a3 := in_u i79 | (have a3 := i79; unfold In at a3)))); have a4 := t_add e79 i12 (in_c 1 rfl) rfl; (first | have a5 := oa2 ((in_c 1 rfl)) i75 | ((first | have a5 := in_u ((in_c 1 rfl)) | (have a5 := (in_c 1 rfl); unfold In at a5)); (first | have a6 := in_u i75 | (have a6 := i75; unfold In at a6)))); have a7 := t_add e75 i37 (in_c 1 rfl) rfl; have a8 := tx_i2l e67; (first | have a9 := in_u i66 | (have a9 := i66; unfold In at a9)); (first | exact zt_l (by decide) (by omega) | omega)); rw [← hFc7.1 34 rfl, ← hFc7.1 35 rfl, ← e17x5, ← e17x21] at hk; rcases hk with hk | hk; (exact absurd (hk.trans (by decide)) c17x7); exact ae_add g7_0 v7_76_0 (inv_F hIc7 0 160 rfl v7_76_0).1 (by show (sI (sI sc7 77 w7_76_0.toNatClampNeg z17x5) 78 w7_76_0.toNatClampNeg z17x21).1 77 = _; rw [sI_r rfl, sI_q]) (by show (sI (sI sc7 77 w7_76_0.toNatClampNeg z17x5) 78 w7_76_0.toNatClampNeg z17x21).1 78 = _; rw [sI_q, sI_r rfl]) (by rw [← (show z75 = (sF (sL (sI (sI sc7 77 w7_76_0.toNatClampNeg z17x5) 78 w7_76_0.toNatClampNeg z17x21) 79 w7_76_0.toNatClampNeg z67) 76 0 z75).2.2.1 76 0 from sF_get)]; (first | have a0 := oa4 i12a i37 i12 i79 | ((first | have a0 := in_u i12a | (have a0 := i12a; unfold In at a0)); (first | have a1 := in_u i37 | (have a1 := i37; unfold In at a1)); (first | have a2 := in_u i12 | (have a2 := i12; unfold In at a2)); (first | have a3 := in_u i79 | (have a3 := i79; unfold In at a3)))); have a4 := t_add e79 i12 (in_c 1 rfl) rfl; (first | have a5 := oa2 ((in_c 1 rfl)) i75 | ((first | have a5 := in_u ((in_c 1 rfl)) | (have a5 := (in_c 1 rfl); unfold In at a5)); (first | have a6 := in_u i75 | (have a6 := i75; unfold In at a6)))); have a7 := t_add e75 i37 (in_c 1 rfl) rfl; have a8 := tx_i2l e67; (first | have a9 := in_u i66 | (have a9 := i66; unfold In at a9)); omega) hk.1 hk.2
              exact gg_w (by first | exact Nat.le_add_right _ _ | exact gw2 | exact gw3 | exact gwe rfl | exact gwf rfl | exact gwg rfl | exact gwh rfl | omega) (gg_f (gf_cons rfl (gf_cons rfl (gf_cons rfl gf_nil))) (ih7 (sF (sL (sI (sI sc7 77 w7_76_0.toNatClampNeg z17x5) 78 w7_76_0.toNatClampNeg z17x21) 79 w7_76_0.toNatClampNeg z67) 76 0 z75) z79 z75 hI76 (fr_sF rfl (fr_sL rfl (fr_sI rfl (fr_sI rfl hFc7)))) (in_w 0 160 i79 rfl) v7 n7 n7a (m_up mm7 (t_add e79 i12 (in_c 1 rfl) rfl) (in_w 1 1 (in_c 1 rfl) rfl))))
  refine g_enter2 (k := 181) (N := 145801) (by first | exact dq1 hd rfl | exact dq0 hd rfl | exact dq2 hd rfl | exact dq3 hd rfl | omega) rfl (Nat.le_of_ble_eq_true rfl) ?_
  refine g_aload_n 1 (gd rfl) rfl rfl ?_
  refine g_iconst 0 2 (gd rfl) rfl rfl ?_
  refine g_putI 5 (gd rfl) rfl rfl rfl rfl ?_
  have hI2 := inv_sF (q := 76) (j := 0) hI rfl (in_w 0 160 (in_c 0 rfl) rfl)
  refine g_iconst 0 6 (gd rfl) rfl rfl ?_
  refine g_istore_n 7 (gd rfl) rfl (Nat.le_of_ble_eq_true rfl) ?_
  have v7 : (Int32.ofInt 0) = (sF s 76 0 (Int32.ofInt 0)).2.2.1 76 0 := sF_get
  have n7 : ((Int32.ofInt 0)).toInt ≤ ((Int32.ofInt 0)).toInt := by exact Int.le_refl _
  have n7a : AE (sF s 76 0 (Int32.ofInt 0)) (s.2.2.1 32 1).toInt := by exact ae_0 (by rw [← (show (Int32.ofInt 0) = (sF s 76 0 (Int32.ofInt 0)).2.2.1 76 0 from sF_get)]; decide)
  exact gg_w (by first | exact Nat.le_of_ble_eq_true rfl | omega) (gg_f (gf_cons rfl (gf_cons rfl (gf_cons rfl gf_nil))) (ct7 161 (sF s 76 0 (Int32.ofInt 0)) (Int32.ofInt 0) (Int32.ofInt 0) hI2 (fr_sF rfl fr_rf) (in_w 0 160 (in_c 0 rfl) rfl) v7 n7 n7a (m_in 161 (in_w 0 160 (in_c 0 rfl) rfl) rfl)))

def fm_182_76 : FM := ([81], [80], [], [])
/-- GraphHouse$Trees.takeCheapest -/
theorem k_182_76 {Z : AmZ} {A : Nat → Nat} {s : GS} {ex : va_W} {d : Nat} {X : AmX} {x1 : Int32} {x2 : Int32} (hd : 2 ≤ d) (hI : Inv s) (h1 : In x1 0 32) (h2 : In x2 0 31) : GC Z d 182 [.ref (A 76), .int x1, .int x2] (WW Z A s ++ ex) 0 0 (fun v u => ∃ t : GS, Inv t ∧ Fr fm_182_76 s t ∧ ∃ z : Int32, v = some (.int z) ∧ u = WW Z A t ++ ex ∧ In z 0 1) X := by
  intro post xp hP hX
  obtain ⟨u_76_0, e_76_0⟩ : ∃ w, w = s.2.2.1 76 0 := ⟨_, rfl⟩
  have ro_76_0 := inv_F hI 0 160 rfl e_76_0
  have ct105 : ∀ (k105 : Nat) (sc105 : GS) (y105_3 : Int32), Inv sc105 → Fr fm_182_76 s sc105 → (In y105_3 0 32) → 32 - (y105_3).toInt < (k105 : Int) → GG Z (d - 1) 182 post (gx xp) (1 + k105 * 900) 105 (fun j => xlook j [(0, .ref (A 76)), (1, .int x1), (2, .int x2), (3, .int y105_3)]) [] (WW Z A sc105 ++ ex) 0 0 := by
    intro k105
    induction k105 with
    | zero => intro sc105 y105_3 hIc105 hFc105 j105_3 mm105; exact m_no mm105 j105_3 rfl
    | succ k105 ih105 =>
      intro sc105 y105_3 hIc105 hFc105 j105_3 mm105
      refine gg_w (M := 1 + k105 * 900 + 900) gws ?_
      refine g_iload_n 106 (gd rfl) rfl rfl ?_
      refine g_iload_n 107 (gd rfl) rfl rfl ?_
      refine g_cmp_ge 110 131 (gd rfl) rfl rfl (fun c107 => ?_) (fun c107 => ?_)
      · skip
        refine g_iconst 1 132 (gd rfl) rfl rfl ?_
        exact g_ireturn (gd rfl) rfl (nb01 (in_w 0 1 (in_c 1 rfl) rfl)) (hP _ _ ⟨sc105, hIc105, hFc105, (Int32.ofInt 1), rfl, rfl, in_w 0 1 (in_c 1 rfl) rfl⟩)
      · skip
        have i107 := r_lt1 0 31 c107 j105_3 h1 rfl
        have i107a := r_lt2 1 32 c107 j105_3 h1 rfl
        refine g_aload_n 111 (gd rfl) rfl rfl ?_
        refine g_getA (q2 := 80) 114 (gd rfl) rfl rfl rfl rfl ?_
        refine g_iload_n 115 (gd rfl) rfl rfl ?_
        refine g_laload 116 (gd rfl) rfl (n := 32) rfl (in_ix i107 rfl) (fun z115 e115 => ?_)
        refine g_ldc2_w 9223372036854775807 119 (gd rfl) rfl rfl ?_
        refine g_lcmp 120 (gd rfl) rfl (fun z119 e119 => ?_)
        have i119 := lc_in e119
        refine g_if_ne 123 125 (gd rfl) rfl rfl (fun c120 => ?_) (fun c120 => ?_)
        · skip
          have c120a := lc_ne e119 c120
          have i120 := lr_ne1 (-9223372036854775808) 9223372036854775806 c120a (l_rng z115) (l_c 9223372036854775807 rfl) rfl
          refine g_iinc 128 (gd rfl) rfl rfl (Nat.le_of_ble_eq_true rfl) (fun z125 e125 => ?_)
          have i125 := in_add 1 32 e125 i107 (in_c 1 rfl) rfl rfl
          refine g_goto 105 (gd rfl) rfl ?_
          exact gg_w (by first | exact Nat.le_add_right _ _ | exact gw2 | exact gw3 | exact gwe rfl | exact gwf rfl | exact gwg rfl | exact gwh rfl | omega) (gg_f (gf_cons rfl (gf_cons rfl (gf_cons rfl (gf_cons rfl gf_nil)))) (ih105 sc105 z125 hIc105 hFc105 (in_w 0 32 i125 rfl) (m_up mm105 (t_add e125 i107 (in_c 1 rfl) rfl) (in_w 1 1 (in_c 1 rfl) rfl))))
        · skip
          have i120 := z_eq 0 0 c120 i119 rfl
          have c120a := lc_eq e119 c120
          have i120a := lr_eq1 9223372036854775807 9223372036854775807 c120a (l_rng z115) (l_c 9223372036854775807 rfl) rfl
          refine g_iconst 0 124 (gd rfl) rfl rfl ?_
          exact g_ireturn (gd rfl) rfl (nb01 (in_w 0 1 (in_c 0 rfl) rfl)) (hP _ _ ⟨sc105, hIc105, hFc105, (Int32.ofInt 0), rfl, rfl, in_w 0 1 (in_c 0 rfl) rfl⟩)
  have ct12 : ∀ (k12 : Nat) (sc12 : GS) (y12_3 : Int32), Inv sc12 → Fr fm_182_76 s sc12 → (In y12_3 0 160) → 160 - (y12_3).toInt < (k12 : Int) → GG Z (d - 1) 182 post (gx xp) (29702 + k12 * 900) 12 (fun j => xlook j [(0, .ref (A 76)), (1, .int x1), (2, .int x2), (3, .int y12_3)]) [] (WW Z A sc12 ++ ex) 0 0 := by
    intro k12
    induction k12 with
    | zero => intro sc12 y12_3 hIc12 hFc12 j12_3 mm12; exact m_no mm12 j12_3 rfl
    | succ k12 ih12 =>
      intro sc12 y12_3 hIc12 hFc12 j12_3 mm12
      refine gg_w (M := 29702 + k12 * 900 + 900) gws ?_
      refine g_iload_n 13 (gd rfl) rfl rfl ?_
      refine g_aload_n 14 (gd rfl) rfl rfl ?_
      refine g_getI 17 (gd rfl) rfl rfl rfl (fun z14 e14 => ?_)
      have q14 : u_76_0 = z14 := (fr_F e_76_0 hFc12 rfl).trans e14.symm
      subst q14
      refine g_cmp_ge 20 96 (gd rfl) rfl rfl (fun c17 => ?_) (fun c17 => ?_)
      · skip
        refine g_aload_n 97 (gd rfl) rfl rfl ?_
        refine g_getA (q2 := 80) 100 (gd rfl) rfl rfl rfl rfl ?_
        refine g_iload_n 101 (gd rfl) rfl rfl ?_
        refine g_lconst 0 102 (gd rfl) rfl rfl ?_
        refine g_lastore 103 (gd rfl) rfl (n := 32) rfl (in_ix h2 rfl) ?_
        have hI102 := inv_sL (q := 80) (j := x2.toNatClampNeg) (x := (Int64.ofInt 0)) hIc12 rfl (l_rng (Int64.ofInt 0))
        refine g_iconst 0 104 (gd rfl) rfl rfl ?_
        refine g_istore_n 105 (gd rfl) rfl (Nat.le_of_ble_eq_true rfl) ?_
        exact gg_w (by first | exact Nat.le_add_right _ _ | exact gw2 | exact gw3 | exact gwe rfl | exact gwf rfl | exact gwg rfl | exact gwh rfl | omega) (gg_f (gf_cons rfl (gf_cons rfl (gf_cons rfl (gf_cons rfl gf_nil)))) (ct105 33 (sL sc12 80 x2.toNatClampNeg (Int64.ofInt 0)) (Int32.ofInt 0) hI102 (fr_sL rfl hFc12) (in_w 0 32 (in_c 0 rfl) rfl) (m_in 33 (in_w 0 32 (in_c 0 rfl) rfl) rfl)))
      · skip
        have i17 := r_lt1 0 159 c17 j12_3 ro_76_0 rfl
        have i17a := r_lt2 1 160 c17 j12_3 ro_76_0 rfl
        refine g_aload_n 21 (gd rfl) rfl rfl ?_
        refine g_getA (q2 := 77) 24 (gd rfl) rfl rfl rfl rfl ?_
        refine g_iload_n 25 (gd rfl) rfl rfl ?_
        refine g_iaload 26 (gd rfl) rfl (n := 160) rfl (in_ix i17 rfl) (fun z25 e25 => ?_)
        have i25 := inv_I hIc12 (n := 160) (t := 0) 0 31 rfl (in_ix i17 rfl) rfl e25
        refine g_aload_n 27 (gd rfl) rfl rfl ?_
        refine g_getA (q2 := 78) 30 (gd rfl) rfl rfl rfl rfl ?_
        refine g_iload_n 31 (gd rfl) rfl rfl ?_
        refine g_iaload 32 (gd rfl) rfl (n := 160) rfl (in_ix i17 rfl) (fun z31 e31 => ?_)
        have i31 := inv_I hIc12 (n := 160) (t := 0) 0 31 rfl (in_ix i17 rfl) rfl e31
        refine g_cmp_eq 35 90 (gd rfl) rfl rfl (fun c32 => ?_) (fun c32 => ?_)
        · skip
          refine g_iinc 93 (gd rfl) rfl rfl (Nat.le_of_ble_eq_true rfl) (fun z90 e90 => ?_)
          have i90 := in_add 1 160 e90 i17 (in_c 1 rfl) rfl rfl
          refine g_goto 12 (gd rfl) rfl ?_
          exact gg_w (by first | exact Nat.le_add_right _ _ | exact gw2 | exact gw3 | exact gwe rfl | exact gwf rfl | exact gwg rfl | exact gwh rfl | omega) (gg_f (gf_cons rfl (gf_cons rfl (gf_cons rfl (gf_cons rfl gf_nil)))) (ih12 sc12 z90 hIc12 hFc12 (in_w 0 160 i90 rfl) (m_up mm12 (t_add e90 i17 (in_c 1 rfl) rfl) (in_w 1 1 (in_c 1 rfl) rfl))))
        · skip
          refine g_aload_n 36 (gd rfl) rfl rfl ?_
          refine g_getA (q2 := 79) 39 (gd rfl) rfl rfl rfl rfl ?_
          refine g_iload_n 40 (gd rfl) rfl rfl ?_
          refine g_laload 41 (gd rfl) rfl (n := 160) rfl (in_ix i17 rfl) (fun z40 e40 => ?_)
          refine g_aload_n 42 (gd rfl) rfl rfl ?_
          refine g_getA (q2 := 80) 45 (gd rfl) rfl rfl rfl rfl ?_
          refine g_aload_n 46 (gd rfl) rfl rfl ?_
          refine g_getA (q2 := 78) 49 (gd rfl) rfl rfl rfl rfl ?_
          refine g_iload_n 50 (gd rfl) rfl rfl ?_
          refine g_iaload 51 (gd rfl) rfl (n := 160) rfl (in_ix i17 rfl) (fun z50 e50 => ?_)
          have q50 : z31 = z50 := (e31).trans e50.symm
          subst q50
          refine g_laload 52 (gd rfl) rfl (n := 32) rfl (in_ix i31 rfl) (fun z51 e51 => ?_)
          refine g_lcmp 53 (gd rfl) rfl (fun z52 e52 => ?_)
          have i52 := lc_in e52
          refine g_if_ge 56 90 (gd rfl) rfl rfl (fun c53 => ?_) (fun c53 => ?_)
          · skip
            have i53 := z_ge 0 1 c53 i52 rfl
            have c53a := lc_ge e52 c53
            refine g_iinc 93 (gd rfl) rfl rfl (Nat.le_of_ble_eq_true rfl) (fun z90 e90 => ?_)
            have i90 := in_add 1 160 e90 i17 (in_c 1 rfl) rfl rfl
            refine g_goto 12 (gd rfl) rfl ?_
            exact gg_w (by first | exact Nat.le_add_right _ _ | exact gw2 | exact gw3 | exact gwe rfl | exact gwf rfl | exact gwg rfl | exact gwh rfl | omega) (gg_f (gf_cons rfl (gf_cons rfl (gf_cons rfl (gf_cons rfl gf_nil)))) (ih12 sc12 z90 hIc12 hFc12 (in_w 0 160 i90 rfl) (m_up mm12 (t_add e90 i17 (in_c 1 rfl) rfl) (in_w 1 1 (in_c 1 rfl) rfl))))
          · skip
            have i53 := z_lt (-1) (-1) c53 i52 rfl
            have c53a := lc_lt e52 c53
            have i53a := lr_lt1 (-9223372036854775808) 9223372036854775806 c53a (l_rng z40) (l_rng z51) rfl
            have i53b := lr_lt2 (-9223372036854775807) 9223372036854775807 c53a (l_rng z40) (l_rng z51) rfl
            refine g_aload_n 57 (gd rfl) rfl rfl ?_
            refine g_getA (q2 := 80) 60 (gd rfl) rfl rfl rfl rfl ?_
            refine g_aload_n 61 (gd rfl) rfl rfl ?_
            refine g_getA (q2 := 78) 64 (gd rfl) rfl rfl rfl rfl ?_
            refine g_iload_n 65 (gd rfl) rfl rfl ?_
            refine g_iaload 66 (gd rfl) rfl (n := 160) rfl (in_ix i17 rfl) (fun z65 e65 => ?_)
            have q65 : z31 = z65 := (e31).trans e65.symm
            subst q65
            refine g_aload_n 67 (gd rfl) rfl rfl ?_
            refine g_getA (q2 := 79) 70 (gd rfl) rfl rfl rfl rfl ?_
            refine g_iload_n 71 (gd rfl) rfl rfl ?_
            refine g_laload 72 (gd rfl) rfl (n := 160) rfl (in_ix i17 rfl) (fun z71 e71 => ?_)
            refine g_lastore 73 (gd rfl) rfl (n := 32) rfl (in_ix i31 rfl) ?_
            have hI72 := inv_sL (q := 80) (j := z31.toNatClampNeg) (x := z71) hIc12 rfl (l_rng z71)
            refine g_aload_n 74 (gd rfl) rfl rfl ?_
            refine g_getA (q2 := 81) 77 (gd rfl) rfl rfl rfl rfl ?_
            refine g_aload_n 78 (gd rfl) rfl rfl ?_
            refine g_getA (q2 := 78) 81 (gd rfl) rfl rfl rfl rfl ?_
            refine g_iload_n 82 (gd rfl) rfl rfl ?_
            refine g_iaload 83 (gd rfl) rfl (n := 160) rfl (in_ix i17 rfl) (fun z82 e82 => ?_)
            have q82 : z31 = z82 := (sL_I (e31)).trans e82.symm
            subst q82
            refine g_aload_n 84 (gd rfl) rfl rfl ?_
            refine g_getA (q2 := 77) 87 (gd rfl) rfl rfl rfl rfl ?_
            refine g_iload_n 88 (gd rfl) rfl rfl ?_
            refine g_iaload 89 (gd rfl) rfl (n := 160) rfl (in_ix i17 rfl) (fun z88 e88 => ?_)
            have q88 : z25 = z88 := (sL_I (e25)).trans e88.symm
            subst q88
            refine g_iastore 90 (gd rfl) rfl (n := 32) rfl (in_ix i31 rfl) ?_
            have hI89 := inv_sI (q := 81) (j := z31.toNatClampNeg) hI72 rfl (in_w 0 31 i25 rfl)
            refine g_iinc 93 (gd rfl) rfl rfl (Nat.le_of_ble_eq_true rfl) (fun z90 e90 => ?_)
            have i90 := in_add 1 160 e90 i17 (in_c 1 rfl) rfl rfl
            refine g_goto 12 (gd rfl) rfl ?_
            exact gg_w (by first | exact Nat.le_add_right _ _ | exact gw2 | exact gw3 | exact gwe rfl | exact gwf rfl | exact gwg rfl | exact gwh rfl | omega) (gg_f (gf_cons rfl (gf_cons rfl (gf_cons rfl (gf_cons rfl gf_nil)))) (ih12 (sI (sL sc12 80 z31.toNatClampNeg z71) 81 z31.toNatClampNeg z25) z90 hI89 (fr_sI rfl (fr_sL rfl hFc12)) (in_w 0 160 i90 rfl) (m_up mm12 (t_add e90 i17 (in_c 1 rfl) rfl) (in_w 1 1 (in_c 1 rfl) rfl))))
  refine g_enter2 (k := 182) (N := 175502) (by first | exact dq1 hd rfl | exact dq0 hd rfl | exact dq2 hd rfl | exact dq3 hd rfl | omega) rfl (Nat.le_of_ble_eq_true rfl) ?_
  refine g_aload_n 1 (gd rfl) rfl rfl ?_
  refine g_getA (q2 := 80) 4 (gd rfl) rfl rfl rfl rfl ?_
  refine g_ldc2_w 9223372036854775807 7 (gd rfl) rfl rfl ?_
  refine g_calls (As := [.ref (A 80), .long (Int64.ofInt 9223372036854775807)]) (r := []) 10 (gd rfl) rfl rfl rfl rfl rfl (Nat.le_of_ble_eq_true rfl) (Nat.zero_le _) (Nat.zero_le _) (k_fillL 80 (by first | exact dq1 hd rfl | exact dq0 hd rfl | exact dq2 hd rfl | exact dq3 hd rfl | omega) hI (n := 32) rfl rfl rfl (l_rng (Int64.ofInt 9223372036854775807))) (fun v u h => ?_)
  obtain ⟨s7, hI7, hF7, rfl, rfl, fl7⟩ := h
  show GG _ _ _ _ _ _ _ _ [] _ _ _
  refine g_iconst 0 11 (gd rfl) rfl rfl ?_
  refine g_istore_n 12 (gd rfl) rfl (Nat.le_of_ble_eq_true rfl) ?_
  exact gg_w (by first | exact Nat.le_of_ble_eq_true rfl | omega) (gg_f (gf_cons rfl (gf_cons rfl (gf_cons rfl (gf_cons rfl gf_nil)))) (ct12 161 s7 (Int32.ofInt 0) hI7 (fr_tr rfl fr_rf hF7) (in_w 0 160 (in_c 0 rfl) rfl) (m_in 161 (in_w 0 160 (in_c 0 rfl) rfl) rfl)))

def fm_183_76 : FM := ([82, 83], [], [], [])
/-- GraphHouse$Trees.nameRings -/
theorem k_183_76 {Z : AmZ} {A : Nat → Nat} {s : GS} {ex : va_W} {d : Nat} {X : AmX} {x1 : Int32} {x2 : Int32} (hd : 2 ≤ d) (hI : Inv s) (h1 : In x1 0 32) (h2 : In x2 0 31) : GC Z d 183 [.ref (A 76), .int x1, .int x2] (WW Z A s ++ ex) 0 0 (fun v u => ∃ t : GS, Inv t ∧ Fr fm_183_76 s t ∧ ∃ z : Int32, v = some (.int z) ∧ u = WW Z A t ++ ex ∧ In z 0 32 ∧ ((z).toInt + (c1m (t.1 83) 32 : Int) ≤ 32) ∧ (∀ v : Nat, v < 32 → (t.1 83 v).toInt < (z).toInt)) X := by
  intro post xp hP hX
  have ct21 : ∀ (k21 : Nat) (sc21 : GS) (y21_3 : Int32) (y21_4 : Int32), Inv sc21 → Fr fm_183_76 s sc21 → (In y21_3 0 32) → (In y21_4 0 32) → ((y21_3).toInt + (c1m (sc21.1 83) 32 : Int) ≤ 32) → (∀ v : Nat, v < 32 → (sc21.1 83 v).toInt < (y21_3).toInt) → 32 - (y21_4).toInt < (k21 : Int) → GG Z (d - 1) 183 post (gx xp) (1 + k21 * 64802) 21 (fun j => xlook j [(0, .ref (A 76)), (1, .int x1), (2, .int x2), (3, .int y21_3), (4, .int y21_4)]) [] (WW Z A sc21 ++ ex) 0 0 := by
    intro k21
    induction k21 with
    | zero => intro sc21 y21_3 y21_4 hIc21 hFc21 j21_3 j21_4 g21_0 g21_1 mm21; exact m_no mm21 j21_4 rfl
    | succ k21 ih21 =>
      intro sc21 y21_3 y21_4 hIc21 hFc21 j21_3 j21_4 g21_0 g21_1 mm21
      refine gg_w (M := 1 + k21 * 64802 + 64802) gws ?_
      have ct113 : ∀ (k113 : Nat) (sc113 : GS) (y113_5 : Int32) (y113_6 : Int32), Inv sc113 → Fr fm_183_76 s sc113 → (In x1 1 32) → (In y21_4 0 31) → (In y113_5 0 31) → (In y113_6 0 32) → ((y21_3).toInt + (c1m (sc113.1 83) 32 : Int) + (if (y113_6).toInt = 0 then 0 else 1) ≤ 32) → (∀ v : Nat, v < 32 → (sc113.1 83 v).toInt ≤ (y21_3).toInt) → ((y113_6).toInt = 0 → (sc113.1 83 (y113_5).toNatClampNeg).toInt = -1) → 32 - (y113_6).toInt < (k113 : Int) → GG Z (d - 1) 183 post (gx xp) (1 + k21 * 64802 + 1 + k113 * 900) 113 (fun j => xlook j [(0, .ref (A 76)), (1, .int x1), (2, .int x2), (3, .int y21_3), (4, .int y21_4), (5, .int y113_5), (6, .int y113_6)]) [] (WW Z A sc113 ++ ex) 0 0 := by
        intro k113
        induction k113 with
        | zero => intro sc113 y113_5 y113_6 hIc113 hFc113 j113_1 j113_4 j113_5 j113_6 g113_0 g113_1 g113_2 mm113; exact m_no mm113 j113_6 rfl
        | succ k113 ih113 =>
          intro sc113 y113_5 y113_6 hIc113 hFc113 j113_1 j113_4 j113_5 j113_6 g113_0 g113_1 g113_2 mm113
          refine gg_w (M := 1 + k21 * 64802 + 1 + k113 * 900 + 900) gws ?_
          refine g_iload 115 (gd rfl) rfl rfl ?_
          refine g_iload_n 116 (gd rfl) rfl rfl ?_
          refine g_cmp_ge 119 153 (gd rfl) rfl rfl (fun c116 => ?_) (fun c116 => ?_)
          · skip
            have i116 := r_le2 1 32 c116 j113_1 j113_6 rfl
            have hi : (y113_6).toInt ≠ 0 := (by (first | have a0 := oa6 j113_4 j21_3 h2 j113_1 i116 j113_5 | ((first | have a0 := in_u j113_4 | (have a0 := j113_4; unfold In at a0)); (first | have a1 := in_u j21_3 | (have a1 := j21_3; unfold In at a1)); (first | have a2 := in_u h2 | (have a2 := h2; unfold In at a2)); (first | have a3 := in_u j113_1 | (have a3 := j113_1; unfold In at a3)); (first | have a4 := in_u i116 | (have a4 := i116; unfold In at a4)); (first | have a5 := in_u j113_5 | (have a5 := j113_5; unfold In at a5)))); omega)
            have hr9 : (y21_3).toInt + 1 + (c1m (sc113.1 83) 32 : Int) ≤ 32 := (by have h := g113_0; rw [if_neg hi] at h; omega)
            refine g_iinc 156 (gd rfl) rfl rfl (Nat.le_of_ble_eq_true rfl) (fun z153 e153 => ?_)
            have i153 := in_add 1 33 e153 j21_3 (in_c 1 rfl) rfl rfl
            refine g_iinc 159 (gd rfl) rfl rfl (Nat.le_of_ble_eq_true rfl) (fun z156 e156 => ?_)
            have i156 := in_add 1 32 e156 j113_4 (in_c 1 rfl) rfl rfl
            refine g_goto 21 (gd rfl) rfl ?_
            have i21 : In z153 0 32 := by exact ⟨by (first | have a0 := oa7 j113_4 j21_3 h2 j113_1 i116 j113_5 i156 | ((first | have a0 := in_u j113_4 | (have a0 := j113_4; unfold In at a0)); (first | have a1 := in_u j21_3 | (have a1 := j21_3; unfold In at a1)); (first | have a2 := in_u h2 | (have a2 := h2; unfold In at a2)); (first | have a3 := in_u j113_1 | (have a3 := j113_1; unfold In at a3)); (first | have a4 := in_u i116 | (have a4 := i116; unfold In at a4)); (first | have a5 := in_u j113_5 | (have a5 := j113_5; unfold In at a5)); (first | have a6 := in_u i156 | (have a6 := i156; unfold In at a6)))); have a7 := t_add e156 j113_4 (in_c 1 rfl) rfl; (first | have a8 := oa2 ((in_c 1 rfl)) i153 | ((first | have a8 := in_u ((in_c 1 rfl)) | (have a8 := (in_c 1 rfl); unfold In at a8)); (first | have a9 := in_u i153 | (have a9 := i153; unfold In at a9)))); have a10 := t_add e153 j21_3 (in_c 1 rfl) rfl; omega, by (first | have a0 := oa7 j113_4 j21_3 h2 j113_1 i116 j113_5 i156 | ((first | have a0 := in_u j113_4 | (have a0 := j113_4; unfold In at a0)); (first | have a1 := in_u j21_3 | (have a1 := j21_3; unfold In at a1)); (first | have a2 := in_u h2 | (have a2 := h2; unfold In at a2)); (first | have a3 := in_u j113_1 | (have a3 := j113_1; unfold In at a3)); (first | have a4 := in_u i116 | (have a4 := i116; unfold In at a4)); (first | have a5 := in_u j113_5 | (have a5 := j113_5; unfold In at a5)); (first | have a6 := in_u i156 | (have a6 := i156; unfold In at a6)))); have a7 := t_add e156 j113_4 (in_c 1 rfl) rfl; (first | have a8 := oa2 ((in_c 1 rfl)) i153 | ((first | have a8 := in_u ((in_c 1 rfl)) | (have a8 := (in_c 1 rfl); unfold In at a8)); (first | have a9 := in_u i153 | (have a9 := i153; unfold In at a9)))); have a10 := t_add e153 j21_3 (in_c 1 rfl) rfl; omega⟩
            have n21 : (z153).toInt + (c1m (sc113.1 83) 32 : Int) ≤ 32 := by (first | have a0 := oa7 j113_4 j21_3 h2 j113_1 i116 j113_5 i156 | ((first | have a0 := in_u j113_4 | (have a0 := j113_4; unfold In at a0)); (first | have a1 := in_u j21_3 | (have a1 := j21_3; unfold In at a1)); (first | have a2 := in_u h2 | (have a2 := h2; unfold In at a2)); (first | have a3 := in_u j113_1 | (have a3 := j113_1; unfold In at a3)); (first | have a4 := in_u i116 | (have a4 := i116; unfold In at a4)); (first | have a5 := in_u j113_5 | (have a5 := j113_5; unfold In at a5)); (first | have a6 := in_u i156 | (have a6 := i156; unfold In at a6)))); have a7 := t_add e156 j113_4 (in_c 1 rfl) rfl; (first | have a8 := oa2 ((in_c 1 rfl)) i21 | ((first | have a8 := in_u ((in_c 1 rfl)) | (have a8 := (in_c 1 rfl); unfold In at a8)); (first | have a9 := in_u i21 | (have a9 := i21; unfold In at a9)))); have a10 := t_add e153 j21_3 (in_c 1 rfl) rfl; omega
            have n21a : ∀ v : Nat, v < 32 → (sc113.1 83 v).toInt < (z153).toInt := by intro v hv; have h := g113_1 v hv; (first | have a0 := oa7 j113_4 j21_3 h2 j113_1 i116 j113_5 i156 | ((first | have a0 := in_u j113_4 | (have a0 := j113_4; unfold In at a0)); (first | have a1 := in_u j21_3 | (have a1 := j21_3; unfold In at a1)); (first | have a2 := in_u h2 | (have a2 := h2; unfold In at a2)); (first | have a3 := in_u j113_1 | (have a3 := j113_1; unfold In at a3)); (first | have a4 := in_u i116 | (have a4 := i116; unfold In at a4)); (first | have a5 := in_u j113_5 | (have a5 := j113_5; unfold In at a5)); (first | have a6 := in_u i156 | (have a6 := i156; unfold In at a6)))); have a7 := t_add e156 j113_4 (in_c 1 rfl) rfl; (first | have a8 := oa2 ((in_c 1 rfl)) i21 | ((first | have a8 := in_u ((in_c 1 rfl)) | (have a8 := (in_c 1 rfl); unfold In at a8)); (first | have a9 := in_u i21 | (have a9 := i21; unfold In at a9)))); have a10 := t_add e153 j21_3 (in_c 1 rfl) rfl; omega
            exact gg_w (by first | exact Nat.le_add_right _ _ | exact gw2 | exact gw3 | exact gwe rfl | exact gwf rfl | exact gwg rfl | exact gwh rfl | omega) (gg_f (gf_cons rfl (gf_cons rfl (gf_cons rfl (gf_cons rfl (gf_cons rfl gf_nil))))) (ih21 sc113 z153 z156 hIc113 hFc113 i21 (in_w 0 32 i156 rfl) n21 n21a (m_up mm21 (t_add e156 j113_4 (in_c 1 rfl) rfl) (in_w 1 1 (in_c 1 rfl) rfl))))
          · skip
            have i116 := r_lt1 0 31 c116 j113_6 j113_1 rfl
            refine g_aload_n 120 (gd rfl) rfl rfl ?_
            refine g_getA (q2 := 83) 123 (gd rfl) rfl rfl rfl rfl ?_
            refine g_iload 125 (gd rfl) rfl rfl ?_
            refine g_iaload 126 (gd rfl) rfl (n := 32) rfl (in_ix j113_5 rfl) (fun z125 e125 => ?_)
            have i125 := inv_I hIc113 (n := 32) (t := 0) (-1) 31 rfl (in_ix j113_5 rfl) rfl e125
            refine g_iconst (-1) 127 (gd rfl) rfl rfl ?_
            refine g_cmp_ne 130 153 (gd rfl) rfl rfl (fun c127 => ?_) (fun c127 => ?_)
            · skip
              have i127 := r_ne1 0 31 c127 i125 (in_c (-1) rfl) rfl
              have hi : (y113_6).toInt ≠ 0 := (fun h => c127 ((by rw [e125]; exact g113_2 h : (z125).toInt = -1).trans (by decide)))
              have hr9 : (y21_3).toInt + 1 + (c1m (sc113.1 83) 32 : Int) ≤ 32 := (by have h := g113_0; rw [if_neg hi] at h; omega)
              refine g_iinc 156 (gd rfl) rfl rfl (Nat.le_of_ble_eq_true rfl) (fun z153 e153 => ?_)
              have i153 := in_add 1 33 e153 j21_3 (in_c 1 rfl) rfl rfl
              refine g_iinc 159 (gd rfl) rfl rfl (Nat.le_of_ble_eq_true rfl) (fun z156 e156 => ?_)
              have i156 := in_add 1 32 e156 j113_4 (in_c 1 rfl) rfl rfl
              refine g_goto 21 (gd rfl) rfl ?_
              have i21 : In z153 0 32 := by exact ⟨by (first | have a0 := oa7 j113_4 j21_3 h2 j113_1 i116 j113_5 i156 | ((first | have a0 := in_u j113_4 | (have a0 := j113_4; unfold In at a0)); (first | have a1 := in_u j21_3 | (have a1 := j21_3; unfold In at a1)); (first | have a2 := in_u h2 | (have a2 := h2; unfold In at a2)); (first | have a3 := in_u j113_1 | (have a3 := j113_1; unfold In at a3)); (first | have a4 := in_u i116 | (have a4 := i116; unfold In at a4)); (first | have a5 := in_u j113_5 | (have a5 := j113_5; unfold In at a5)); (first | have a6 := in_u i156 | (have a6 := i156; unfold In at a6)))); have a7 := t_add e156 j113_4 (in_c 1 rfl) rfl; (first | have a8 := oa2 ((in_c 1 rfl)) i153 | ((first | have a8 := in_u ((in_c 1 rfl)) | (have a8 := (in_c 1 rfl); unfold In at a8)); (first | have a9 := in_u i153 | (have a9 := i153; unfold In at a9)))); have a10 := t_add e153 j21_3 (in_c 1 rfl) rfl; omega, by (first | have a0 := oa7 j113_4 j21_3 h2 j113_1 i116 j113_5 i156 | ((first | have a0 := in_u j113_4 | (have a0 := j113_4; unfold In at a0)); (first | have a1 := in_u j21_3 | (have a1 := j21_3; unfold In at a1)); (first | have a2 := in_u h2 | (have a2 := h2; unfold In at a2)); (first | have a3 := in_u j113_1 | (have a3 := j113_1; unfold In at a3)); (first | have a4 := in_u i116 | (have a4 := i116; unfold In at a4)); (first | have a5 := in_u j113_5 | (have a5 := j113_5; unfold In at a5)); (first | have a6 := in_u i156 | (have a6 := i156; unfold In at a6)))); have a7 := t_add e156 j113_4 (in_c 1 rfl) rfl; (first | have a8 := oa2 ((in_c 1 rfl)) i153 | ((first | have a8 := in_u ((in_c 1 rfl)) | (have a8 := (in_c 1 rfl); unfold In at a8)); (first | have a9 := in_u i153 | (have a9 := i153; unfold In at a9)))); have a10 := t_add e153 j21_3 (in_c 1 rfl) rfl; omega⟩
              have n21 : (z153).toInt + (c1m (sc113.1 83) 32 : Int) ≤ 32 := by (first | have a0 := oa7 j113_4 j21_3 h2 j113_1 i116 j113_5 i156 | ((first | have a0 := in_u j113_4 | (have a0 := j113_4; unfold In at a0)); (first | have a1 := in_u j21_3 | (have a1 := j21_3; unfold In at a1)); (first | have a2 := in_u h2 | (have a2 := h2; unfold In at a2)); (first | have a3 := in_u j113_1 | (have a3 := j113_1; unfold In at a3)); (first | have a4 := in_u i116 | (have a4 := i116; unfold In at a4)); (first | have a5 := in_u j113_5 | (have a5 := j113_5; unfold In at a5)); (first | have a6 := in_u i156 | (have a6 := i156; unfold In at a6)))); have a7 := t_add e156 j113_4 (in_c 1 rfl) rfl; (first | have a8 := oa2 ((in_c 1 rfl)) i21 | ((first | have a8 := in_u ((in_c 1 rfl)) | (have a8 := (in_c 1 rfl); unfold In at a8)); (first | have a9 := in_u i21 | (have a9 := i21; unfold In at a9)))); have a10 := t_add e153 j21_3 (in_c 1 rfl) rfl; omega
              have n21a : ∀ v : Nat, v < 32 → (sc113.1 83 v).toInt < (z153).toInt := by intro v hv; have h := g113_1 v hv; (first | have a0 := oa7 j113_4 j21_3 h2 j113_1 i116 j113_5 i156 | ((first | have a0 := in_u j113_4 | (have a0 := j113_4; unfold In at a0)); (first | have a1 := in_u j21_3 | (have a1 := j21_3; unfold In at a1)); (first | have a2 := in_u h2 | (have a2 := h2; unfold In at a2)); (first | have a3 := in_u j113_1 | (have a3 := j113_1; unfold In at a3)); (first | have a4 := in_u i116 | (have a4 := i116; unfold In at a4)); (first | have a5 := in_u j113_5 | (have a5 := j113_5; unfold In at a5)); (first | have a6 := in_u i156 | (have a6 := i156; unfold In at a6)))); have a7 := t_add e156 j113_4 (in_c 1 rfl) rfl; (first | have a8 := oa2 ((in_c 1 rfl)) i21 | ((first | have a8 := in_u ((in_c 1 rfl)) | (have a8 := (in_c 1 rfl); unfold In at a8)); (first | have a9 := in_u i21 | (have a9 := i21; unfold In at a9)))); have a10 := t_add e153 j21_3 (in_c 1 rfl) rfl; omega
              exact gg_w (by first | exact Nat.le_add_right _ _ | exact gw2 | exact gw3 | exact gwe rfl | exact gwf rfl | exact gwg rfl | exact gwh rfl | omega) (gg_f (gf_cons rfl (gf_cons rfl (gf_cons rfl (gf_cons rfl (gf_cons rfl gf_nil))))) (ih21 sc113 z153 z156 hIc113 hFc113 i21 (in_w 0 32 i156 rfl) n21 n21a (m_up mm21 (t_add e156 j113_4 (in_c 1 rfl) rfl) (in_w 1 1 (in_c 1 rfl) rfl))))
            · skip
              have i127 := r_eq1 (-1) (-1) c127 i125 (in_c (-1) rfl) rfl
              refine g_aload_n 131 (gd rfl) rfl rfl ?_
              refine g_getA (q2 := 83) 134 (gd rfl) rfl rfl rfl rfl ?_
              refine g_iload 136 (gd rfl) rfl rfl ?_
              refine g_iload_n 137 (gd rfl) rfl rfl ?_
              have i137 : In y21_3 0 31 := by have hq := c1m_pos (w := sc113.1 83) (n := 32) (by rw [← e125]; exact c127.trans (by decide)) (show (y113_5).toNatClampNeg < 32 from (by show (y113_5).toInt.toNat < 32; (first | have a0 := oa6 j113_4 j21_3 h2 j113_1 i116 j113_5 | ((first | have a0 := in_u j113_4 | (have a0 := j113_4; unfold In at a0)); (first | have a1 := in_u j21_3 | (have a1 := j21_3; unfold In at a1)); (first | have a2 := in_u h2 | (have a2 := h2; unfold In at a2)); (first | have a3 := in_u j113_1 | (have a3 := j113_1; unfold In at a3)); (first | have a4 := in_u i116 | (have a4 := i116; unfold In at a4)); (first | have a5 := in_u j113_5 | (have a5 := j113_5; unfold In at a5)))); (first | exact zt_l (by decide) (by omega) | omega))); have h := g113_0; split at h <;> exact ⟨by (first | have a0 := oa6 j113_4 j21_3 h2 j113_1 i116 j113_5 | ((first | have a0 := in_u j113_4 | (have a0 := j113_4; unfold In at a0)); (first | have a1 := in_u j21_3 | (have a1 := j21_3; unfold In at a1)); (first | have a2 := in_u h2 | (have a2 := h2; unfold In at a2)); (first | have a3 := in_u j113_1 | (have a3 := j113_1; unfold In at a3)); (first | have a4 := in_u i116 | (have a4 := i116; unfold In at a4)); (first | have a5 := in_u j113_5 | (have a5 := j113_5; unfold In at a5)))); omega, by (first | have a0 := oa6 j113_4 j21_3 h2 j113_1 i116 j113_5 | ((first | have a0 := in_u j113_4 | (have a0 := j113_4; unfold In at a0)); (first | have a1 := in_u j21_3 | (have a1 := j21_3; unfold In at a1)); (first | have a2 := in_u h2 | (have a2 := h2; unfold In at a2)); (first | have a3 := in_u j113_1 | (have a3 := j113_1; unfold In at a3)); (first | have a4 := in_u i116 | (have a4 := i116; unfold In at a4)); (first | have a5 := in_u j113_5 | (have a5 := j113_5; unfold In at a5)))); omega⟩
              refine g_iastore 138 (gd rfl) rfl (n := 32) rfl (in_ix j113_5 rfl) ?_
              have hI137 := inv_sI (q := 83) (j := y113_5.toNatClampNeg) hIc113 rfl (in_w (-1) 31 i137 rfl)
              refine g_aload_n 139 (gd rfl) rfl rfl ?_
              refine g_getA (q2 := 81) 142 (gd rfl) rfl rfl rfl rfl ?_
              refine g_iload 144 (gd rfl) rfl rfl ?_
              refine g_iaload 145 (gd rfl) rfl (n := 32) rfl (in_ix j113_5 rfl) (fun z144 e144 => ?_)
              have i144 := inv_I hI137 (n := 32) (t := 0) 0 31 rfl (in_ix j113_5 rfl) rfl e144
              refine g_istore 147 (gd rfl) rfl (Nat.le_of_ble_eq_true rfl) ?_
              refine g_iinc 150 (gd rfl) rfl rfl (Nat.le_of_ble_eq_true rfl) (fun z147 e147 => ?_)
              have i147 := in_add 1 32 e147 i116 (in_c 1 rfl) rfl rfl
              refine g_goto 113 (gd rfl) rfl ?_
              have n113 : (y21_3).toInt + (c1m ((sI sc113 83 y113_5.toNatClampNeg y21_3).1 83) 32 : Int) + (if (z147).toInt = 0 then 0 else 1) ≤ 32 := by rw [sI_q, if_neg (by (first | have a0 := oa2 j113_4 i137 | ((first | have a0 := in_u j113_4 | (have a0 := j113_4; unfold In at a0)); (first | have a1 := in_u i137 | (have a1 := i137; unfold In at a1)))); have a2 := h2; unfold In at a2; (first | have a3 := oa4 j113_1 i116 j113_5 i147 | ((first | have a3 := in_u j113_1 | (have a3 := j113_1; unfold In at a3)); (first | have a4 := in_u i116 | (have a4 := i116; unfold In at a4)); (first | have a5 := in_u j113_5 | (have a5 := j113_5; unfold In at a5)); (first | have a6 := in_u i147 | (have a6 := i147; unfold In at a6)))); have a7 := t_add e147 i116 (in_c 1 rfl) rfl; (first | have a8 := oa2 ((in_c 1 rfl)) i144 | ((first | have a8 := in_u ((in_c 1 rfl)) | (have a8 := (in_c 1 rfl); unfold In at a8)); (first | have a9 := in_u i144 | (have a9 := i144; unfold In at a9)))); omega)]; have h := g113_0; have h2 := c1m_up (w := sc113.1 83) (j := (y113_5).toNatClampNeg) (x := y21_3) (by rw [← e125]; exact c127.trans (by decide)) (by (first | have a0 := oa2 j113_4 i137 | ((first | have a0 := in_u j113_4 | (have a0 := j113_4; unfold In at a0)); (first | have a1 := in_u i137 | (have a1 := i137; unfold In at a1)))); have a2 := h2; unfold In at a2; (first | have a3 := oa4 j113_1 i116 j113_5 i147 | ((first | have a3 := in_u j113_1 | (have a3 := j113_1; unfold In at a3)); (first | have a4 := in_u i116 | (have a4 := i116; unfold In at a4)); (first | have a5 := in_u j113_5 | (have a5 := j113_5; unfold In at a5)); (first | have a6 := in_u i147 | (have a6 := i147; unfold In at a6)))); have a7 := t_add e147 i116 (in_c 1 rfl) rfl; (first | have a8 := oa2 ((in_c 1 rfl)) i144 | ((first | have a8 := in_u ((in_c 1 rfl)) | (have a8 := (in_c 1 rfl); unfold In at a8)); (first | have a9 := in_u i144 | (have a9 := i144; unfold In at a9)))); omega) (n := 32) (show (y113_5).toNatClampNeg < 32 from (by show (y113_5).toInt.toNat < 32; (first | have a0 := oa2 j113_4 i137 | ((first | have a0 := in_u j113_4 | (have a0 := j113_4; unfold In at a0)); (first | have a1 := in_u i137 | (have a1 := i137; unfold In at a1)))); have a2 := h2; unfold In at a2; (first | have a3 := oa4 j113_1 i116 j113_5 i147 | ((first | have a3 := in_u j113_1 | (have a3 := j113_1; unfold In at a3)); (first | have a4 := in_u i116 | (have a4 := i116; unfold In at a4)); (first | have a5 := in_u j113_5 | (have a5 := j113_5; unfold In at a5)); (first | have a6 := in_u i147 | (have a6 := i147; unfold In at a6)))); have a7 := t_add e147 i116 (in_c 1 rfl) rfl; (first | have a8 := oa2 ((in_c 1 rfl)) i144 | ((first | have a8 := in_u ((in_c 1 rfl)) | (have a8 := (in_c 1 rfl); unfold In at a8)); (first | have a9 := in_u i144 | (have a9 := i144; unfold In at a9)))); (first | exact zt_l (by decide) (by omega) | omega))); split at h <;> omega
              have n113a : ∀ v : Nat, v < 32 → ((sI sc113 83 y113_5.toNatClampNeg y21_3).1 83 v).toInt ≤ (y21_3).toInt := by intro v hv; rw [sI_q]; unfold upd; by_cases hq : v = (y113_5).toNatClampNeg; (rw [if_pos hq]; exact Int.le_refl _); (rw [if_neg hq]; exact g113_1 v hv)
              have n113b : (z147).toInt = 0 → ((sI sc113 83 y113_5.toNatClampNeg y21_3).1 83 (z144).toNatClampNeg).toInt = -1 := by intro h; exfalso; (first | have a0 := oa7 j113_4 i137 h2 j113_1 i116 j113_5 i147 | ((first | have a0 := in_u j113_4 | (have a0 := j113_4; unfold In at a0)); (first | have a1 := in_u i137 | (have a1 := i137; unfold In at a1)); (first | have a2 := in_u h2 | (have a2 := h2; unfold In at a2)); (first | have a3 := in_u j113_1 | (have a3 := j113_1; unfold In at a3)); (first | have a4 := in_u i116 | (have a4 := i116; unfold In at a4)); (first | have a5 := in_u j113_5 | (have a5 := j113_5; unfold In at a5)); (first | have a6 := in_u i147 | (have a6 := i147; unfold In at a6)))); have a7 := t_add e147 i116 (in_c 1 rfl) rfl; (first | have a8 := oa2 ((in_c 1 rfl)) i144 | ((first | have a8 := in_u ((in_c 1 rfl)) | (have a8 := (in_c 1 rfl); unfold In at a8)); (first | have a9 := in_u i144 | (have a9 := i144; unfold In at a9)))); omega
              exact gg_w (by first | exact Nat.le_add_right _ _ | exact gw2 | exact gw3 | exact gwe rfl | exact gwf rfl | exact gwg rfl | exact gwh rfl | omega) (gg_f (gf_cons rfl (gf_cons rfl (gf_cons rfl (gf_cons rfl (gf_cons rfl (gf_cons rfl (gf_cons rfl gf_nil))))))) (ih113 (sI sc113 83 y113_5.toNatClampNeg y21_3) z144 z147 hI137 (fr_sI rfl hFc113) (in_w 1 32 j113_1 rfl) (in_w 0 31 j113_4 rfl) (in_w 0 31 i144 rfl) (in_w 0 32 i147 rfl) n113 n113a n113b (m_up mm113 (t_add e147 i116 (in_c 1 rfl) rfl) (in_w 1 1 (in_c 1 rfl) rfl))))
      have ct34 : ∀ (k34 : Nat) (sc34 : GS) (y34_5 : Int32) (y34_6 : Int32), Inv sc34 → Fr fm_183_76 s sc34 → (In x1 1 32) → (In y21_4 0 31) → (In y34_5 0 31) → (In y34_6 0 33) → ((y21_3).toInt + (c1m (sc34.1 83) 32 : Int) ≤ 32) → (∀ v : Nat, v < 32 → (sc34.1 83 v).toInt < (y21_3).toInt) → 33 - (y34_6).toInt < (k34 : Int) → GG Z (d - 1) 183 post (gx xp) (1 + k21 * 64802 + 29702 + k34 * 900) 34 (fun j => xlook j [(0, .ref (A 76)), (1, .int x1), (2, .int x2), (3, .int y21_3), (4, .int y21_4), (5, .int y34_5), (6, .int y34_6)]) [] (WW Z A sc34 ++ ex) 0 0 := by
        intro k34
        induction k34 with
        | zero => intro sc34 y34_5 y34_6 hIc34 hFc34 j34_1 j34_4 j34_5 j34_6 g34_0 g34_1 mm34; exact m_no mm34 j34_6 rfl
        | succ k34 ih34 =>
          intro sc34 y34_5 y34_6 hIc34 hFc34 j34_1 j34_4 j34_5 j34_6 g34_0 g34_1 mm34
          refine gg_w (M := 1 + k21 * 64802 + 29702 + k34 * 900 + 900) gws ?_
          refine g_iload 36 (gd rfl) rfl rfl ?_
          refine g_iload_n 37 (gd rfl) rfl rfl ?_
          refine g_cmp_gt 40 81 (gd rfl) rfl rfl (fun c37 => ?_) (fun c37 => ?_)
          · skip
            have i37 := r_lt2 2 33 c37 j34_1 j34_6 rfl
            refine g_iload 83 (gd rfl) rfl rfl ?_
            refine g_iload_n 84 (gd rfl) rfl rfl ?_
            refine g_cmp_eq 87 156 (gd rfl) rfl rfl (fun c84 => ?_) (fun c84 => ?_)
            · skip
              refine g_iinc 159 (gd rfl) rfl rfl (Nat.le_of_ble_eq_true rfl) (fun z156 e156 => ?_)
              have i156 := in_add 1 32 e156 j34_4 (in_c 1 rfl) rfl rfl
              refine g_goto 21 (gd rfl) rfl ?_
              have n21 : (y21_3).toInt + (c1m (sc34.1 83) 32 : Int) ≤ 32 := by exact g34_0
              have n21a : ∀ v : Nat, v < 32 → (sc34.1 83 v).toInt < (y21_3).toInt := by exact g34_1
              exact gg_w (by first | exact Nat.le_add_right _ _ | exact gw2 | exact gw3 | exact gwe rfl | exact gwf rfl | exact gwg rfl | exact gwh rfl | omega) (gg_f (gf_cons rfl (gf_cons rfl (gf_cons rfl (gf_cons rfl (gf_cons rfl gf_nil))))) (ih21 sc34 y21_3 z156 hIc34 hFc34 (in_w 0 32 j21_3 rfl) (in_w 0 32 i156 rfl) n21 n21a (m_up mm21 (t_add e156 j34_4 (in_c 1 rfl) rfl) (in_w 1 1 (in_c 1 rfl) rfl))))
            · skip
              refine g_aload_n 88 (gd rfl) rfl rfl ?_
              refine g_getA (q2 := 82) 91 (gd rfl) rfl rfl rfl rfl ?_
              refine g_iload 93 (gd rfl) rfl rfl ?_
              refine g_iaload 94 (gd rfl) rfl (n := 32) rfl (in_ix j34_5 rfl) (fun z93 e93 => ?_)
              refine g_iload 96 (gd rfl) rfl rfl ?_
              refine g_cmp_ne 99 156 (gd rfl) rfl rfl (fun c96 => ?_) (fun c96 => ?_)
              · skip
                refine g_iinc 159 (gd rfl) rfl rfl (Nat.le_of_ble_eq_true rfl) (fun z156 e156 => ?_)
                have i156 := in_add 1 32 e156 j34_4 (in_c 1 rfl) rfl rfl
                refine g_goto 21 (gd rfl) rfl ?_
                have n21 : (y21_3).toInt + (c1m (sc34.1 83) 32 : Int) ≤ 32 := by exact g34_0
                have n21a : ∀ v : Nat, v < 32 → (sc34.1 83 v).toInt < (y21_3).toInt := by exact g34_1
                exact gg_w (by first | exact Nat.le_add_right _ _ | exact gw2 | exact gw3 | exact gwe rfl | exact gwf rfl | exact gwg rfl | exact gwh rfl | omega) (gg_f (gf_cons rfl (gf_cons rfl (gf_cons rfl (gf_cons rfl (gf_cons rfl gf_nil))))) (ih21 sc34 y21_3 z156 hIc34 hFc34 (in_w 0 32 j21_3 rfl) (in_w 0 32 i156 rfl) n21 n21a (m_up mm21 (t_add e156 j34_4 (in_c 1 rfl) rfl) (in_w 1 1 (in_c 1 rfl) rfl))))
              · skip
                have i96 := r_eq1 0 31 c96 (i_rng z93) j34_4 rfl
                refine g_aload_n 100 (gd rfl) rfl rfl ?_
                refine g_getA (q2 := 83) 103 (gd rfl) rfl rfl rfl rfl ?_
                refine g_iload 105 (gd rfl) rfl rfl ?_
                refine g_iaload 106 (gd rfl) rfl (n := 32) rfl (in_ix j34_5 rfl) (fun z105 e105 => ?_)
                have i105 := inv_I hIc34 (n := 32) (t := 0) (-1) 31 rfl (in_ix j34_5 rfl) rfl e105
                refine g_iconst (-1) 107 (gd rfl) rfl rfl ?_
                refine g_cmp_ne 110 156 (gd rfl) rfl rfl (fun c107 => ?_) (fun c107 => ?_)
                · skip
                  have i107 := r_ne1 0 31 c107 i105 (in_c (-1) rfl) rfl
                  refine g_iinc 159 (gd rfl) rfl rfl (Nat.le_of_ble_eq_true rfl) (fun z156 e156 => ?_)
                  have i156 := in_add 1 32 e156 j34_4 (in_c 1 rfl) rfl rfl
                  refine g_goto 21 (gd rfl) rfl ?_
                  have n21 : (y21_3).toInt + (c1m (sc34.1 83) 32 : Int) ≤ 32 := by exact g34_0
                  have n21a : ∀ v : Nat, v < 32 → (sc34.1 83 v).toInt < (y21_3).toInt := by exact g34_1
                  exact gg_w (by first | exact Nat.le_add_right _ _ | exact gw2 | exact gw3 | exact gwe rfl | exact gwf rfl | exact gwg rfl | exact gwh rfl | omega) (gg_f (gf_cons rfl (gf_cons rfl (gf_cons rfl (gf_cons rfl (gf_cons rfl gf_nil))))) (ih21 sc34 y21_3 z156 hIc34 hFc34 (in_w 0 32 j21_3 rfl) (in_w 0 32 i156 rfl) n21 n21a (m_up mm21 (t_add e156 j34_4 (in_c 1 rfl) rfl) (in_w 1 1 (in_c 1 rfl) rfl))))
                · skip
                  have i107 := r_eq1 (-1) (-1) c107 i105 (in_c (-1) rfl) rfl
                  refine g_iconst 0 111 (gd rfl) rfl rfl ?_
                  refine g_istore 113 (gd rfl) rfl (Nat.le_of_ble_eq_true rfl) ?_
                  have n113 : (y21_3).toInt + (c1m (sc34.1 83) 32 : Int) + (if ((Int32.ofInt 0)).toInt = 0 then 0 else 1) ≤ 32 := by rw [if_pos (show (Int32.ofInt 0).toInt = 0 from (by decide))]; have h := g34_0; omega
                  have n113a : ∀ v : Nat, v < 32 → (sc34.1 83 v).toInt ≤ (y21_3).toInt := by intro v hv; exact Int.le_of_lt (g34_1 v hv)
                  have n113b : ((Int32.ofInt 0)).toInt = 0 → (sc34.1 83 (y34_5).toNatClampNeg).toInt = -1 := by intro _; rw [← e105]; exact c107.trans (by decide)
                  exact gg_w (by first | exact Nat.le_add_right _ _ | exact gw2 | exact gw3 | exact gwe rfl | exact gwf rfl | exact gwg rfl | exact gwh rfl | omega) (gg_f (gf_cons rfl (gf_cons rfl (gf_cons rfl (gf_cons rfl (gf_cons rfl (gf_cons rfl (gf_cons rfl gf_nil))))))) (ct113 33 sc34 y34_5 (Int32.ofInt 0) hIc34 hFc34 (in_w 1 32 j34_1 rfl) (in_w 0 31 j34_4 rfl) (in_w 0 31 j34_5 rfl) (in_w 0 32 (in_c 0 rfl) rfl) n113 n113a n113b (m_in 33 (in_w 0 32 (in_c 0 rfl) rfl) rfl)))
          · skip
            have i37 := r_le1 0 32 c37 j34_6 j34_1 rfl
            refine g_iload 42 (gd rfl) rfl rfl ?_
            refine g_iload_n 43 (gd rfl) rfl rfl ?_
            refine g_cmp_eq 46 81 (gd rfl) rfl rfl (fun c43 => ?_) (fun c43 => ?_)
            · skip
              refine g_iload 83 (gd rfl) rfl rfl ?_
              refine g_iload_n 84 (gd rfl) rfl rfl ?_
              refine g_cmp_eq 87 156 (gd rfl) rfl rfl (fun c84 => ?_) (fun c84 => ?_)
              · skip
                refine g_iinc 159 (gd rfl) rfl rfl (Nat.le_of_ble_eq_true rfl) (fun z156 e156 => ?_)
                have i156 := in_add 1 32 e156 j34_4 (in_c 1 rfl) rfl rfl
                refine g_goto 21 (gd rfl) rfl ?_
                have n21 : (y21_3).toInt + (c1m (sc34.1 83) 32 : Int) ≤ 32 := by exact g34_0
                have n21a : ∀ v : Nat, v < 32 → (sc34.1 83 v).toInt < (y21_3).toInt := by exact g34_1
                exact gg_w (by first | exact Nat.le_add_right _ _ | exact gw2 | exact gw3 | exact gwe rfl | exact gwf rfl | exact gwg rfl | exact gwh rfl | omega) (gg_f (gf_cons rfl (gf_cons rfl (gf_cons rfl (gf_cons rfl (gf_cons rfl gf_nil))))) (ih21 sc34 y21_3 z156 hIc34 hFc34 (in_w 0 32 j21_3 rfl) (in_w 0 32 i156 rfl) n21 n21a (m_up mm21 (t_add e156 j34_4 (in_c 1 rfl) rfl) (in_w 1 1 (in_c 1 rfl) rfl))))
              · skip
                refine g_aload_n 88 (gd rfl) rfl rfl ?_
                refine g_getA (q2 := 82) 91 (gd rfl) rfl rfl rfl rfl ?_
                refine g_iload 93 (gd rfl) rfl rfl ?_
                refine g_iaload 94 (gd rfl) rfl (n := 32) rfl (in_ix j34_5 rfl) (fun z93 e93 => ?_)
                refine g_iload 96 (gd rfl) rfl rfl ?_
                refine g_cmp_ne 99 156 (gd rfl) rfl rfl (fun c96 => ?_) (fun c96 => ?_)
                · skip
                  refine g_iinc 159 (gd rfl) rfl rfl (Nat.le_of_ble_eq_true rfl) (fun z156 e156 => ?_)
                  have i156 := in_add 1 32 e156 j34_4 (in_c 1 rfl) rfl rfl
                  refine g_goto 21 (gd rfl) rfl ?_
                  have n21 : (y21_3).toInt + (c1m (sc34.1 83) 32 : Int) ≤ 32 := by exact g34_0
                  have n21a : ∀ v : Nat, v < 32 → (sc34.1 83 v).toInt < (y21_3).toInt := by exact g34_1
                  exact gg_w (by first | exact Nat.le_add_right _ _ | exact gw2 | exact gw3 | exact gwe rfl | exact gwf rfl | exact gwg rfl | exact gwh rfl | omega) (gg_f (gf_cons rfl (gf_cons rfl (gf_cons rfl (gf_cons rfl (gf_cons rfl gf_nil))))) (ih21 sc34 y21_3 z156 hIc34 hFc34 (in_w 0 32 j21_3 rfl) (in_w 0 32 i156 rfl) n21 n21a (m_up mm21 (t_add e156 j34_4 (in_c 1 rfl) rfl) (in_w 1 1 (in_c 1 rfl) rfl))))
                · skip
                  have i96 := r_eq1 0 31 c96 (i_rng z93) j34_4 rfl
                  refine g_aload_n 100 (gd rfl) rfl rfl ?_
                  refine g_getA (q2 := 83) 103 (gd rfl) rfl rfl rfl rfl ?_
                  refine g_iload 105 (gd rfl) rfl rfl ?_
                  refine g_iaload 106 (gd rfl) rfl (n := 32) rfl (in_ix j34_5 rfl) (fun z105 e105 => ?_)
                  have i105 := inv_I hIc34 (n := 32) (t := 0) (-1) 31 rfl (in_ix j34_5 rfl) rfl e105
                  refine g_iconst (-1) 107 (gd rfl) rfl rfl ?_
                  refine g_cmp_ne 110 156 (gd rfl) rfl rfl (fun c107 => ?_) (fun c107 => ?_)
                  · skip
                    have i107 := r_ne1 0 31 c107 i105 (in_c (-1) rfl) rfl
                    refine g_iinc 159 (gd rfl) rfl rfl (Nat.le_of_ble_eq_true rfl) (fun z156 e156 => ?_)
                    have i156 := in_add 1 32 e156 j34_4 (in_c 1 rfl) rfl rfl
                    refine g_goto 21 (gd rfl) rfl ?_
                    have n21 : (y21_3).toInt + (c1m (sc34.1 83) 32 : Int) ≤ 32 := by exact g34_0
                    have n21a : ∀ v : Nat, v < 32 → (sc34.1 83 v).toInt < (y21_3).toInt := by exact g34_1
                    exact gg_w (by first | exact Nat.le_add_right _ _ | exact gw2 | exact gw3 | exact gwe rfl | exact gwf rfl | exact gwg rfl | exact gwh rfl | omega) (gg_f (gf_cons rfl (gf_cons rfl (gf_cons rfl (gf_cons rfl (gf_cons rfl gf_nil))))) (ih21 sc34 y21_3 z156 hIc34 hFc34 (in_w 0 32 j21_3 rfl) (in_w 0 32 i156 rfl) n21 n21a (m_up mm21 (t_add e156 j34_4 (in_c 1 rfl) rfl) (in_w 1 1 (in_c 1 rfl) rfl))))
                  · skip
                    have i107 := r_eq1 (-1) (-1) c107 i105 (in_c (-1) rfl) rfl
                    refine g_iconst 0 111 (gd rfl) rfl rfl ?_
                    refine g_istore 113 (gd rfl) rfl (Nat.le_of_ble_eq_true rfl) ?_
                    have n113 : (y21_3).toInt + (c1m (sc34.1 83) 32 : Int) + (if ((Int32.ofInt 0)).toInt = 0 then 0 else 1) ≤ 32 := by rw [if_pos (show (Int32.ofInt 0).toInt = 0 from (by decide))]; have h := g34_0; omega
                    have n113a : ∀ v : Nat, v < 32 → (sc34.1 83 v).toInt ≤ (y21_3).toInt := by intro v hv; exact Int.le_of_lt (g34_1 v hv)
                    have n113b : ((Int32.ofInt 0)).toInt = 0 → (sc34.1 83 (y34_5).toNatClampNeg).toInt = -1 := by intro _; rw [← e105]; exact c107.trans (by decide)
                    exact gg_w (by first | exact Nat.le_add_right _ _ | exact gw2 | exact gw3 | exact gwe rfl | exact gwf rfl | exact gwg rfl | exact gwh rfl | omega) (gg_f (gf_cons rfl (gf_cons rfl (gf_cons rfl (gf_cons rfl (gf_cons rfl (gf_cons rfl (gf_cons rfl gf_nil))))))) (ct113 33 sc34 y34_5 (Int32.ofInt 0) hIc34 hFc34 (in_w 1 32 j34_1 rfl) (in_w 0 31 j34_4 rfl) (in_w 0 31 j34_5 rfl) (in_w 0 32 (in_c 0 rfl) rfl) n113 n113a n113b (m_in 33 (in_w 0 32 (in_c 0 rfl) rfl) rfl)))
            · skip
              refine g_aload_n 47 (gd rfl) rfl rfl ?_
              refine g_getA (q2 := 82) 50 (gd rfl) rfl rfl rfl rfl ?_
              refine g_iload 52 (gd rfl) rfl rfl ?_
              refine g_iaload 53 (gd rfl) rfl (n := 32) rfl (in_ix j34_5 rfl) (fun z52 e52 => ?_)
              refine g_iconst (-1) 54 (gd rfl) rfl rfl ?_
              refine g_cmp_ne 57 81 (gd rfl) rfl rfl (fun c54 => ?_) (fun c54 => ?_)
              · skip
                refine g_iload 83 (gd rfl) rfl rfl ?_
                refine g_iload_n 84 (gd rfl) rfl rfl ?_
                refine g_cmp_eq 87 156 (gd rfl) rfl rfl (fun c84 => ?_) (fun c84 => ?_)
                · skip
                  refine g_iinc 159 (gd rfl) rfl rfl (Nat.le_of_ble_eq_true rfl) (fun z156 e156 => ?_)
                  have i156 := in_add 1 32 e156 j34_4 (in_c 1 rfl) rfl rfl
                  refine g_goto 21 (gd rfl) rfl ?_
                  have n21 : (y21_3).toInt + (c1m (sc34.1 83) 32 : Int) ≤ 32 := by exact g34_0
                  have n21a : ∀ v : Nat, v < 32 → (sc34.1 83 v).toInt < (y21_3).toInt := by exact g34_1
                  exact gg_w (by first | exact Nat.le_add_right _ _ | exact gw2 | exact gw3 | exact gwe rfl | exact gwf rfl | exact gwg rfl | exact gwh rfl | omega) (gg_f (gf_cons rfl (gf_cons rfl (gf_cons rfl (gf_cons rfl (gf_cons rfl gf_nil))))) (ih21 sc34 y21_3 z156 hIc34 hFc34 (in_w 0 32 j21_3 rfl) (in_w 0 32 i156 rfl) n21 n21a (m_up mm21 (t_add e156 j34_4 (in_c 1 rfl) rfl) (in_w 1 1 (in_c 1 rfl) rfl))))
                · skip
                  refine g_aload_n 88 (gd rfl) rfl rfl ?_
                  refine g_getA (q2 := 82) 91 (gd rfl) rfl rfl rfl rfl ?_
                  refine g_iload 93 (gd rfl) rfl rfl ?_
                  refine g_iaload 94 (gd rfl) rfl (n := 32) rfl (in_ix j34_5 rfl) (fun z93 e93 => ?_)
                  have q93 : z52 = z93 := (e52).trans e93.symm
                  subst q93
                  refine g_iload 96 (gd rfl) rfl rfl ?_
                  refine g_cmp_ne 99 156 (gd rfl) rfl rfl (fun c96 => ?_) (fun c96 => ?_)
                  · skip
                    refine g_iinc 159 (gd rfl) rfl rfl (Nat.le_of_ble_eq_true rfl) (fun z156 e156 => ?_)
                    have i156 := in_add 1 32 e156 j34_4 (in_c 1 rfl) rfl rfl
                    refine g_goto 21 (gd rfl) rfl ?_
                    have n21 : (y21_3).toInt + (c1m (sc34.1 83) 32 : Int) ≤ 32 := by exact g34_0
                    have n21a : ∀ v : Nat, v < 32 → (sc34.1 83 v).toInt < (y21_3).toInt := by exact g34_1
                    exact gg_w (by first | exact Nat.le_add_right _ _ | exact gw2 | exact gw3 | exact gwe rfl | exact gwf rfl | exact gwg rfl | exact gwh rfl | omega) (gg_f (gf_cons rfl (gf_cons rfl (gf_cons rfl (gf_cons rfl (gf_cons rfl gf_nil))))) (ih21 sc34 y21_3 z156 hIc34 hFc34 (in_w 0 32 j21_3 rfl) (in_w 0 32 i156 rfl) n21 n21a (m_up mm21 (t_add e156 j34_4 (in_c 1 rfl) rfl) (in_w 1 1 (in_c 1 rfl) rfl))))
                  · skip
                    have i96 := r_eq1 0 31 c96 (i_rng z52) j34_4 rfl
                    refine g_aload_n 100 (gd rfl) rfl rfl ?_
                    refine g_getA (q2 := 83) 103 (gd rfl) rfl rfl rfl rfl ?_
                    refine g_iload 105 (gd rfl) rfl rfl ?_
                    refine g_iaload 106 (gd rfl) rfl (n := 32) rfl (in_ix j34_5 rfl) (fun z105 e105 => ?_)
                    have i105 := inv_I hIc34 (n := 32) (t := 0) (-1) 31 rfl (in_ix j34_5 rfl) rfl e105
                    refine g_iconst (-1) 107 (gd rfl) rfl rfl ?_
                    refine g_cmp_ne 110 156 (gd rfl) rfl rfl (fun c107 => ?_) (fun c107 => ?_)
                    · skip
                      have i107 := r_ne1 0 31 c107 i105 (in_c (-1) rfl) rfl
                      refine g_iinc 159 (gd rfl) rfl rfl (Nat.le_of_ble_eq_true rfl) (fun z156 e156 => ?_)
                      have i156 := in_add 1 32 e156 j34_4 (in_c 1 rfl) rfl rfl
                      refine g_goto 21 (gd rfl) rfl ?_
                      have n21 : (y21_3).toInt + (c1m (sc34.1 83) 32 : Int) ≤ 32 := by exact g34_0
                      have n21a : ∀ v : Nat, v < 32 → (sc34.1 83 v).toInt < (y21_3).toInt := by exact g34_1
                      exact gg_w (by first | exact Nat.le_add_right _ _ | exact gw2 | exact gw3 | exact gwe rfl | exact gwf rfl | exact gwg rfl | exact gwh rfl | omega) (gg_f (gf_cons rfl (gf_cons rfl (gf_cons rfl (gf_cons rfl (gf_cons rfl gf_nil))))) (ih21 sc34 y21_3 z156 hIc34 hFc34 (in_w 0 32 j21_3 rfl) (in_w 0 32 i156 rfl) n21 n21a (m_up mm21 (t_add e156 j34_4 (in_c 1 rfl) rfl) (in_w 1 1 (in_c 1 rfl) rfl))))
                    · skip
                      have i107 := r_eq1 (-1) (-1) c107 i105 (in_c (-1) rfl) rfl
                      refine g_iconst 0 111 (gd rfl) rfl rfl ?_
                      refine g_istore 113 (gd rfl) rfl (Nat.le_of_ble_eq_true rfl) ?_
                      have n113 : (y21_3).toInt + (c1m (sc34.1 83) 32 : Int) + (if ((Int32.ofInt 0)).toInt = 0 then 0 else 1) ≤ 32 := by rw [if_pos (show (Int32.ofInt 0).toInt = 0 from (by decide))]; have h := g34_0; omega
                      have n113a : ∀ v : Nat, v < 32 → (sc34.1 83 v).toInt ≤ (y21_3).toInt := by intro v hv; exact Int.le_of_lt (g34_1 v hv)
                      have n113b : ((Int32.ofInt 0)).toInt = 0 → (sc34.1 83 (y34_5).toNatClampNeg).toInt = -1 := by intro _; rw [← e105]; exact c107.trans (by decide)
                      exact gg_w (by first | exact Nat.le_add_right _ _ | exact gw2 | exact gw3 | exact gwe rfl | exact gwf rfl | exact gwg rfl | exact gwh rfl | omega) (gg_f (gf_cons rfl (gf_cons rfl (gf_cons rfl (gf_cons rfl (gf_cons rfl (gf_cons rfl (gf_cons rfl gf_nil))))))) (ct113 33 sc34 y34_5 (Int32.ofInt 0) hIc34 hFc34 (in_w 1 32 j34_1 rfl) (in_w 0 31 j34_4 rfl) (in_w 0 31 j34_5 rfl) (in_w 0 32 (in_c 0 rfl) rfl) n113 n113a n113b (m_in 33 (in_w 0 32 (in_c 0 rfl) rfl) rfl)))
              · skip
                have i54 := r_eq1 (-1) (-1) c54 (i_rng z52) (in_c (-1) rfl) rfl
                refine g_aload_n 58 (gd rfl) rfl rfl ?_
                refine g_getA (q2 := 82) 61 (gd rfl) rfl rfl rfl rfl ?_
                refine g_iload 63 (gd rfl) rfl rfl ?_
                refine g_iload 65 (gd rfl) rfl rfl ?_
                refine g_iastore 66 (gd rfl) rfl (n := 32) rfl (in_ix j34_5 rfl) ?_
                have hI65 := inv_sI (q := 82) (j := y34_5.toNatClampNeg) hIc34 rfl (in_w (-2147483648) 2147483647 j34_4 rfl)
                refine g_aload_n 67 (gd rfl) rfl rfl ?_
                refine g_getA (q2 := 81) 70 (gd rfl) rfl rfl rfl rfl ?_
                refine g_iload 72 (gd rfl) rfl rfl ?_
                refine g_iaload 73 (gd rfl) rfl (n := 32) rfl (in_ix j34_5 rfl) (fun z72 e72 => ?_)
                have i72 := inv_I hI65 (n := 32) (t := 0) 0 31 rfl (in_ix j34_5 rfl) rfl e72
                refine g_istore 75 (gd rfl) rfl (Nat.le_of_ble_eq_true rfl) ?_
                refine g_iinc 78 (gd rfl) rfl rfl (Nat.le_of_ble_eq_true rfl) (fun z75 e75 => ?_)
                have i75 := in_add 1 33 e75 i37 (in_c 1 rfl) rfl rfl
                refine g_goto 34 (gd rfl) rfl ?_
                have n34 : (y21_3).toInt + (c1m ((sI sc34 82 y34_5.toNatClampNeg y21_4).1 83) 32 : Int) ≤ 32 := by rw [sI_r rfl]; exact g34_0
                have n34a : ∀ v : Nat, v < 32 → ((sI sc34 82 y34_5.toNatClampNeg y21_4).1 83 v).toInt < (y21_3).toInt := by rw [sI_r rfl]; exact g34_1
                exact gg_w (by first | exact Nat.le_add_right _ _ | exact gw2 | exact gw3 | exact gwe rfl | exact gwf rfl | exact gwg rfl | exact gwh rfl | omega) (gg_f (gf_cons rfl (gf_cons rfl (gf_cons rfl (gf_cons rfl (gf_cons rfl (gf_cons rfl (gf_cons rfl gf_nil))))))) (ih34 (sI sc34 82 y34_5.toNatClampNeg y21_4) z72 z75 hI65 (fr_sI rfl hFc34) (in_w 1 32 j34_1 rfl) (in_w 0 31 j34_4 rfl) (in_w 0 31 i72 rfl) (in_w 0 33 i75 rfl) n34 n34a (m_up mm34 (t_add e75 i37 (in_c 1 rfl) rfl) (in_w 1 1 (in_c 1 rfl) rfl))))
      refine g_iload 23 (gd rfl) rfl rfl ?_
      refine g_iload_n 24 (gd rfl) rfl rfl ?_
      refine g_cmp_ge 27 162 (gd rfl) rfl rfl (fun c24 => ?_) (fun c24 => ?_)
      · skip
        refine g_iload_n 163 (gd rfl) rfl rfl ?_
        have n163 : (y21_3).toInt + (c1m (sc21.1 83) 32 : Int) ≤ 32 := by exact g21_0
        have n163a : ∀ v : Nat, v < 32 → (sc21.1 83 v).toInt < (y21_3).toInt := by exact g21_1
        exact g_ireturn (gd rfl) rfl rfl (hP _ _ ⟨sc21, hIc21, hFc21, y21_3, rfl, rfl, in_w 0 32 j21_3 rfl, n163, n163a⟩)
      · skip
        have i24 := r_lt1 0 31 c24 j21_4 h1 rfl
        have i24a := r_lt2 1 32 c24 j21_4 h1 rfl
        refine g_iload 29 (gd rfl) rfl rfl ?_
        refine g_istore 31 (gd rfl) rfl (Nat.le_of_ble_eq_true rfl) ?_
        refine g_iconst 0 32 (gd rfl) rfl rfl ?_
        refine g_istore 34 (gd rfl) rfl (Nat.le_of_ble_eq_true rfl) ?_
        have n34 : (y21_3).toInt + (c1m (sc21.1 83) 32 : Int) ≤ 32 := by exact g21_0
        have n34a : ∀ v : Nat, v < 32 → (sc21.1 83 v).toInt < (y21_3).toInt := by exact g21_1
        exact gg_w (by first | exact Nat.le_add_right _ _ | exact gw2 | exact gw3 | exact gwe rfl | exact gwf rfl | exact gwg rfl | exact gwh rfl | omega) (gg_f (gf_cons rfl (gf_cons rfl (gf_cons rfl (gf_cons rfl (gf_cons rfl (gf_cons rfl (gf_cons rfl gf_nil))))))) (ct34 34 sc21 y21_4 (Int32.ofInt 0) hIc21 hFc21 (in_w 1 32 i24a rfl) (in_w 0 31 i24 rfl) (in_w 0 31 i24 rfl) (in_w 0 33 (in_c 0 rfl) rfl) n34 n34a (m_in 34 (in_w 0 33 (in_c 0 rfl) rfl) rfl)))
  refine g_enter2 (k := 183) (N := 2139367) (by first | exact dq1 hd rfl | exact dq0 hd rfl | exact dq2 hd rfl | exact dq3 hd rfl | omega) rfl (Nat.le_of_ble_eq_true rfl) ?_
  refine g_iconst 0 1 (gd rfl) rfl rfl ?_
  refine g_istore_n 2 (gd rfl) rfl (Nat.le_of_ble_eq_true rfl) ?_
  refine g_aload_n 3 (gd rfl) rfl rfl ?_
  refine g_getA (q2 := 83) 6 (gd rfl) rfl rfl rfl rfl ?_
  refine g_iconst (-1) 7 (gd rfl) rfl rfl ?_
  refine g_calls (As := [.ref (A 83), .int (Int32.ofInt (-1))]) (r := []) 10 (gd rfl) rfl rfl rfl rfl rfl (Nat.le_of_ble_eq_true rfl) (Nat.zero_le _) (Nat.zero_le _) (k_fillI 83 (by first | exact dq1 hd rfl | exact dq0 hd rfl | exact dq2 hd rfl | exact dq3 hd rfl | omega) hI (in_c (-1) rfl) (n := 32) rfl rfl rfl rfl) (fun v u h => ?_)
  obtain ⟨s7, hI7, hF7, rfl, rfl, fl7⟩ := h
  show GG _ _ _ _ _ _ _ _ [] _ _ _
  refine g_aload_n 11 (gd rfl) rfl rfl ?_
  refine g_getA (q2 := 82) 14 (gd rfl) rfl rfl rfl rfl ?_
  refine g_iconst (-1) 15 (gd rfl) rfl rfl ?_
  refine g_calls (As := [.ref (A 82), .int (Int32.ofInt (-1))]) (r := []) 18 (gd rfl) rfl rfl rfl rfl rfl (Nat.le_of_ble_eq_true rfl) (Nat.zero_le _) (Nat.zero_le _) (k_fillI 82 (by first | exact dq1 hd rfl | exact dq0 hd rfl | exact dq2 hd rfl | exact dq3 hd rfl | omega) hI7 (in_c (-1) rfl) (n := 32) rfl rfl rfl rfl) (fun v u h => ?_)
  obtain ⟨s15, hI15, hF15, rfl, rfl, fl15⟩ := h
  show GG _ _ _ _ _ _ _ _ [] _ _ _
  refine g_iconst 0 19 (gd rfl) rfl rfl ?_
  refine g_istore 21 (gd rfl) rfl (Nat.le_of_ble_eq_true rfl) ?_
  have n21 : ((Int32.ofInt 0)).toInt + (c1m (s15.1 83) 32 : Int) ≤ 32 := by have hq := c1m_le (w := s15.1 83) 32; have c0 : (Int32.ofInt 0).toInt = 0 := (by decide); omega
  have n21a : ∀ v : Nat, v < 32 → (s15.1 83 v).toInt < ((Int32.ofInt 0)).toInt := by intro v hv; rw [hF15.1 83 rfl, fl7 v hv]; decide
  exact gg_w (by first | exact Nat.le_of_ble_eq_true rfl | omega) (gg_f (gf_cons rfl (gf_cons rfl (gf_cons rfl (gf_cons rfl (gf_cons rfl gf_nil))))) (ct21 33 s15 (Int32.ofInt 0) (Int32.ofInt 0) hI15 (fr_tr rfl (fr_tr rfl fr_rf hF7) hF15) (in_w 0 32 (in_c 0 rfl) rfl) (in_w 0 32 (in_c 0 rfl) rfl) n21 n21a (m_in 33 (in_w 0 32 (in_c 0 rfl) rfl) rfl)))

def fm_184_76 : FM := ([83], [], [], [])
/-- GraphHouse$Trees.nameOthers -/
theorem k_184_76 {Z : AmZ} {A : Nat → Nat} {s : GS} {ex : va_W} {d : Nat} {X : AmX} {x1 : Int32} {x2 : Int32} (hd : 1 ≤ d) (hI : Inv s) (h1 : In x1 0 32) (h2 : In x2 0 32) (q_0 : (x2).toInt + (c1m (s.1 83) 32 : Int) ≤ 32) (q_1 : ∀ v : Nat, v < 32 → (s.1 83 v).toInt < (x2).toInt) : GC Z d 184 [.ref (A 76), .int x1, .int x2] (WW Z A s ++ ex) 0 0 (fun v u => ∃ t : GS, Inv t ∧ Fr fm_184_76 s t ∧ ∃ z : Int32, v = some (.int z) ∧ u = WW Z A t ++ ex ∧ In z 0 32 ∧ (RN t (x1).toInt (z).toInt)) X := by
  intro post xp hP hX
  have ct5 : ∀ (k5 : Nat) (sc5 : GS) (y5_3 : Int32) (y5_4 : Int32), Inv sc5 → Fr fm_184_76 s sc5 → (In y5_3 0 32) → (In y5_4 0 32) → ((y5_3).toInt + (c1m (sc5.1 83) 32 : Int) ≤ 32) → (∀ v : Nat, v < 32 → (sc5.1 83 v).toInt < (y5_3).toInt) → (∀ i : Nat, (i : Int) < (y5_4).toInt → 0 ≤ (sc5.1 83 i).toInt) → 32 - (y5_4).toInt < (k5 : Int) → GG Z (d - 1) 184 post (gx xp) (1 + k5 * 900) 5 (fun j => xlook j [(0, .ref (A 76)), (1, .int x1), (2, .int x2), (3, .int y5_3), (4, .int y5_4)]) [] (WW Z A sc5 ++ ex) 0 0 := by
    intro k5
    induction k5 with
    | zero => intro sc5 y5_3 y5_4 hIc5 hFc5 j5_3 j5_4 g5_0 g5_1 g5_2 mm5; exact m_no mm5 j5_4 rfl
    | succ k5 ih5 =>
      intro sc5 y5_3 y5_4 hIc5 hFc5 j5_3 j5_4 g5_0 g5_1 g5_2 mm5
      refine gg_w (M := 1 + k5 * 900 + 900) gws ?_
      refine g_iload 7 (gd rfl) rfl rfl ?_
      refine g_iload_n 8 (gd rfl) rfl rfl ?_
      refine g_cmp_ge 11 39 (gd rfl) rfl rfl (fun c8 => ?_) (fun c8 => ?_)
      · skip
        refine g_iload_n 40 (gd rfl) rfl rfl ?_
        have n40 : RN sc5 (x1).toInt (y5_3).toInt := by exact fun v hv => ⟨g5_1 v hv, fun h => g5_2 v (by (first | have a0 := oa4 h2 h1 j5_4 j5_3 | ((first | have a0 := in_u h2 | (have a0 := h2; unfold In at a0)); (first | have a1 := in_u h1 | (have a1 := h1; unfold In at a1)); (first | have a2 := in_u j5_4 | (have a2 := j5_4; unfold In at a2)); (first | have a3 := in_u j5_3 | (have a3 := j5_3; unfold In at a3)))); omega)⟩
        exact g_ireturn (gd rfl) rfl rfl (hP _ _ ⟨sc5, hIc5, hFc5, y5_3, rfl, rfl, in_w 0 32 j5_3 rfl, n40⟩)
      · skip
        have i8 := r_lt1 0 31 c8 j5_4 h1 rfl
        have i8a := r_lt2 1 32 c8 j5_4 h1 rfl
        refine g_aload_n 12 (gd rfl) rfl rfl ?_
        refine g_getA (q2 := 83) 15 (gd rfl) rfl rfl rfl rfl ?_
        refine g_iload 17 (gd rfl) rfl rfl ?_
        refine g_iaload 18 (gd rfl) rfl (n := 32) rfl (in_ix i8 rfl) (fun z17 e17 => ?_)
        have i17 := inv_I hIc5 (n := 32) (t := 0) (-1) 31 rfl (in_ix i8 rfl) rfl e17
        refine g_iconst (-1) 19 (gd rfl) rfl rfl ?_
        refine g_cmp_ne 22 33 (gd rfl) rfl rfl (fun c19 => ?_) (fun c19 => ?_)
        · skip
          have i19 := r_ne1 0 31 c19 i17 (in_c (-1) rfl) rfl
          refine g_iinc 36 (gd rfl) rfl rfl (Nat.le_of_ble_eq_true rfl) (fun z33 e33 => ?_)
          have i33 := in_add 1 32 e33 i8 (in_c 1 rfl) rfl rfl
          refine g_goto 5 (gd rfl) rfl ?_
          have n5 : (y5_3).toInt + (c1m (sc5.1 83) 32 : Int) ≤ 32 := by exact g5_0
          have n5a : ∀ v : Nat, v < 32 → (sc5.1 83 v).toInt < (y5_3).toInt := by exact g5_1
          have n5b : ∀ i : Nat, (i : Int) < (z33).toInt → 0 ≤ (sc5.1 83 i).toInt := by intro i hi; by_cases hq : i = (y5_4).toNatClampNeg; (rw [hq, ← e17]; have c0 : (Int32.ofInt (-1)).toInt = -1 := (by decide); have h7 := i17; unfold In at h7; (first | have a0 := oa5 h2 i8a i8 j5_3 i33 | ((first | have a0 := in_u h2 | (have a0 := h2; unfold In at a0)); (first | have a1 := in_u i8a | (have a1 := i8a; unfold In at a1)); (first | have a2 := in_u i8 | (have a2 := i8; unfold In at a2)); (first | have a3 := in_u j5_3 | (have a3 := j5_3; unfold In at a3)); (first | have a4 := in_u i33 | (have a4 := i33; unfold In at a4)))); have a5 := t_add e33 i8 (in_c 1 rfl) rfl; (first | have a6 := in_u ((in_c 1 rfl)) | (have a6 := (in_c 1 rfl); unfold In at a6)); omega); (exact g5_2 i (by have e9 : (y5_4).toNatClampNeg = (y5_4).toInt.toNat := rfl; (first | have a0 := oa5 h2 i8a i8 j5_3 i33 | ((first | have a0 := in_u h2 | (have a0 := h2; unfold In at a0)); (first | have a1 := in_u i8a | (have a1 := i8a; unfold In at a1)); (first | have a2 := in_u i8 | (have a2 := i8; unfold In at a2)); (first | have a3 := in_u j5_3 | (have a3 := j5_3; unfold In at a3)); (first | have a4 := in_u i33 | (have a4 := i33; unfold In at a4)))); have a5 := t_add e33 i8 (in_c 1 rfl) rfl; (first | have a6 := in_u ((in_c 1 rfl)) | (have a6 := (in_c 1 rfl); unfold In at a6)); omega))
          exact gg_w (by first | exact Nat.le_add_right _ _ | exact gw2 | exact gw3 | exact gwe rfl | exact gwf rfl | exact gwg rfl | exact gwh rfl | omega) (gg_f (gf_cons rfl (gf_cons rfl (gf_cons rfl (gf_cons rfl (gf_cons rfl gf_nil))))) (ih5 sc5 y5_3 z33 hIc5 hFc5 (in_w 0 32 j5_3 rfl) (in_w 0 32 i33 rfl) n5 n5a n5b (m_up mm5 (t_add e33 i8 (in_c 1 rfl) rfl) (in_w 1 1 (in_c 1 rfl) rfl))))
        · skip
          have i19 := r_eq1 (-1) (-1) c19 i17 (in_c (-1) rfl) rfl
          refine g_aload_n 23 (gd rfl) rfl rfl ?_
          refine g_getA (q2 := 83) 26 (gd rfl) rfl rfl rfl rfl ?_
          refine g_iload 28 (gd rfl) rfl rfl ?_
          refine g_iload_n 29 (gd rfl) rfl rfl ?_
          have i29 : In y5_3 0 31 := by have hq := c1m_pos (w := sc5.1 83) (n := 32) (by rw [← e17]; exact c19.trans (by decide)) (show (y5_4).toNatClampNeg < 32 from (by show (y5_4).toInt.toNat < 32; (first | have a0 := oa4 h2 i8a i8 j5_3 | ((first | have a0 := in_u h2 | (have a0 := h2; unfold In at a0)); (first | have a1 := in_u i8a | (have a1 := i8a; unfold In at a1)); (first | have a2 := in_u i8 | (have a2 := i8; unfold In at a2)); (first | have a3 := in_u j5_3 | (have a3 := j5_3; unfold In at a3)))); (first | exact zt_l (by decide) (by omega) | omega))); have h := g5_0; exact ⟨by (first | have a0 := oa4 h2 i8a i8 j5_3 | ((first | have a0 := in_u h2 | (have a0 := h2; unfold In at a0)); (first | have a1 := in_u i8a | (have a1 := i8a; unfold In at a1)); (first | have a2 := in_u i8 | (have a2 := i8; unfold In at a2)); (first | have a3 := in_u j5_3 | (have a3 := j5_3; unfold In at a3)))); omega, by (first | have a0 := oa4 h2 i8a i8 j5_3 | ((first | have a0 := in_u h2 | (have a0 := h2; unfold In at a0)); (first | have a1 := in_u i8a | (have a1 := i8a; unfold In at a1)); (first | have a2 := in_u i8 | (have a2 := i8; unfold In at a2)); (first | have a3 := in_u j5_3 | (have a3 := j5_3; unfold In at a3)))); omega⟩
          refine g_iastore 30 (gd rfl) rfl (n := 32) rfl (in_ix i8 rfl) ?_
          have hI29 := inv_sI (q := 83) (j := y5_4.toNatClampNeg) hIc5 rfl (in_w (-1) 31 i29 rfl)
          have hup := c1m_up (w := sc5.1 83) (j := (y5_4).toNatClampNeg) (x := y5_3) (by rw [← e17]; exact c19.trans (by decide)) (by (first | have a0 := oa4 h2 i8a i8 i29 | ((first | have a0 := in_u h2 | (have a0 := h2; unfold In at a0)); (first | have a1 := in_u i8a | (have a1 := i8a; unfold In at a1)); (first | have a2 := in_u i8 | (have a2 := i8; unfold In at a2)); (first | have a3 := in_u i29 | (have a3 := i29; unfold In at a3)))); omega) (n := 32) (show (y5_4).toNatClampNeg < 32 from (by show (y5_4).toInt.toNat < 32; (first | have a0 := oa4 h2 i8a i8 i29 | ((first | have a0 := in_u h2 | (have a0 := h2; unfold In at a0)); (first | have a1 := in_u i8a | (have a1 := i8a; unfold In at a1)); (first | have a2 := in_u i8 | (have a2 := i8; unfold In at a2)); (first | have a3 := in_u i29 | (have a3 := i29; unfold In at a3)))); (first | exact zt_l (by decide) (by omega) | omega)))
          refine g_iinc 33 (gd rfl) rfl rfl (Nat.le_of_ble_eq_true rfl) (fun z30 e30 => ?_)
          have i30 := in_add 1 32 e30 i29 (in_c 1 rfl) rfl rfl
          refine g_iinc 36 (gd rfl) rfl rfl (Nat.le_of_ble_eq_true rfl) (fun z33 e33 => ?_)
          have i33 := in_add 1 32 e33 i8 (in_c 1 rfl) rfl rfl
          refine g_goto 5 (gd rfl) rfl ?_
          have n5 : (z30).toInt + (c1m ((sI sc5 83 y5_4.toNatClampNeg y5_3).1 83) 32 : Int) ≤ 32 := by rw [sI_q]; (first | have a0 := oa5 h2 i8a i8 i29 i33 | ((first | have a0 := in_u h2 | (have a0 := h2; unfold In at a0)); (first | have a1 := in_u i8a | (have a1 := i8a; unfold In at a1)); (first | have a2 := in_u i8 | (have a2 := i8; unfold In at a2)); (first | have a3 := in_u i29 | (have a3 := i29; unfold In at a3)); (first | have a4 := in_u i33 | (have a4 := i33; unfold In at a4)))); have a5 := t_add e33 i8 (in_c 1 rfl) rfl; (first | have a6 := oa2 ((in_c 1 rfl)) i30 | ((first | have a6 := in_u ((in_c 1 rfl)) | (have a6 := (in_c 1 rfl); unfold In at a6)); (first | have a7 := in_u i30 | (have a7 := i30; unfold In at a7)))); have a8 := t_add e30 i29 (in_c 1 rfl) rfl; omega
          have n5a : ∀ v : Nat, v < 32 → ((sI sc5 83 y5_4.toNatClampNeg y5_3).1 83 v).toInt < (z30).toInt := by intro v hv; rw [sI_q]; unfold upd; by_cases hq : v = (y5_4).toNatClampNeg; (rw [if_pos hq]; (first | have a0 := oa5 h2 i8a i8 i29 i33 | ((first | have a0 := in_u h2 | (have a0 := h2; unfold In at a0)); (first | have a1 := in_u i8a | (have a1 := i8a; unfold In at a1)); (first | have a2 := in_u i8 | (have a2 := i8; unfold In at a2)); (first | have a3 := in_u i29 | (have a3 := i29; unfold In at a3)); (first | have a4 := in_u i33 | (have a4 := i33; unfold In at a4)))); have a5 := t_add e33 i8 (in_c 1 rfl) rfl; (first | have a6 := oa2 ((in_c 1 rfl)) i30 | ((first | have a6 := in_u ((in_c 1 rfl)) | (have a6 := (in_c 1 rfl); unfold In at a6)); (first | have a7 := in_u i30 | (have a7 := i30; unfold In at a7)))); have a8 := t_add e30 i29 (in_c 1 rfl) rfl; omega); (rw [if_neg hq]; have h := g5_1 v hv; (first | have a0 := oa5 h2 i8a i8 i29 i33 | ((first | have a0 := in_u h2 | (have a0 := h2; unfold In at a0)); (first | have a1 := in_u i8a | (have a1 := i8a; unfold In at a1)); (first | have a2 := in_u i8 | (have a2 := i8; unfold In at a2)); (first | have a3 := in_u i29 | (have a3 := i29; unfold In at a3)); (first | have a4 := in_u i33 | (have a4 := i33; unfold In at a4)))); have a5 := t_add e33 i8 (in_c 1 rfl) rfl; (first | have a6 := oa2 ((in_c 1 rfl)) i30 | ((first | have a6 := in_u ((in_c 1 rfl)) | (have a6 := (in_c 1 rfl); unfold In at a6)); (first | have a7 := in_u i30 | (have a7 := i30; unfold In at a7)))); have a8 := t_add e30 i29 (in_c 1 rfl) rfl; omega)
          have n5b : ∀ i : Nat, (i : Int) < (z33).toInt → 0 ≤ ((sI sc5 83 y5_4.toNatClampNeg y5_3).1 83 i).toInt := by intro i hi; rw [sI_q]; unfold upd; by_cases hq : i = (y5_4).toNatClampNeg; (rw [if_pos hq]; (first | have a0 := oa5 h2 i8a i8 i29 i33 | ((first | have a0 := in_u h2 | (have a0 := h2; unfold In at a0)); (first | have a1 := in_u i8a | (have a1 := i8a; unfold In at a1)); (first | have a2 := in_u i8 | (have a2 := i8; unfold In at a2)); (first | have a3 := in_u i29 | (have a3 := i29; unfold In at a3)); (first | have a4 := in_u i33 | (have a4 := i33; unfold In at a4)))); have a5 := t_add e33 i8 (in_c 1 rfl) rfl; (first | have a6 := oa2 ((in_c 1 rfl)) i30 | ((first | have a6 := in_u ((in_c 1 rfl)) | (have a6 := (in_c 1 rfl); unfold In at a6)); (first | have a7 := in_u i30 | (have a7 := i30; unfold In at a7)))); have a8 := t_add e30 i29 (in_c 1 rfl) rfl; omega); (rw [if_neg hq]; exact g5_2 i (by have e9 : (y5_4).toNatClampNeg = (y5_4).toInt.toNat := rfl; (first | have a0 := oa5 h2 i8a i8 i29 i33 | ((first | have a0 := in_u h2 | (have a0 := h2; unfold In at a0)); (first | have a1 := in_u i8a | (have a1 := i8a; unfold In at a1)); (first | have a2 := in_u i8 | (have a2 := i8; unfold In at a2)); (first | have a3 := in_u i29 | (have a3 := i29; unfold In at a3)); (first | have a4 := in_u i33 | (have a4 := i33; unfold In at a4)))); have a5 := t_add e33 i8 (in_c 1 rfl) rfl; (first | have a6 := oa2 ((in_c 1 rfl)) i30 | ((first | have a6 := in_u ((in_c 1 rfl)) | (have a6 := (in_c 1 rfl); unfold In at a6)); (first | have a7 := in_u i30 | (have a7 := i30; unfold In at a7)))); have a8 := t_add e30 i29 (in_c 1 rfl) rfl; omega))
          exact gg_w (by first | exact Nat.le_add_right _ _ | exact gw2 | exact gw3 | exact gwe rfl | exact gwf rfl | exact gwg rfl | exact gwh rfl | omega) (gg_f (gf_cons rfl (gf_cons rfl (gf_cons rfl (gf_cons rfl (gf_cons rfl gf_nil))))) (ih5 (sI sc5 83 y5_4.toNatClampNeg y5_3) z30 z33 hI29 (fr_sI rfl hFc5) (in_w 0 32 i30 rfl) (in_w 0 32 i33 rfl) n5 n5a n5b (m_up mm5 (t_add e33 i8 (in_c 1 rfl) rfl) (in_w 1 1 (in_c 1 rfl) rfl))))
  refine g_enter2 (k := 184) (N := 30601) (by first | exact dq1 hd rfl | exact dq0 hd rfl | exact dq2 hd rfl | exact dq3 hd rfl | omega) rfl (Nat.le_of_ble_eq_true rfl) ?_
  refine g_iload_n 1 (gd rfl) rfl rfl ?_
  refine g_istore_n 2 (gd rfl) rfl (Nat.le_of_ble_eq_true rfl) ?_
  refine g_iconst 0 3 (gd rfl) rfl rfl ?_
  refine g_istore 5 (gd rfl) rfl (Nat.le_of_ble_eq_true rfl) ?_
  have n5 : (x2).toInt + (c1m (s.1 83) 32 : Int) ≤ 32 := by exact q_0
  have n5a : ∀ v : Nat, v < 32 → (s.1 83 v).toInt < (x2).toInt := by exact q_1
  have n5b : ∀ i : Nat, (i : Int) < ((Int32.ofInt 0)).toInt → 0 ≤ (s.1 83 i).toInt := by intro i hi; exfalso; have c0 : (Int32.ofInt 0).toInt = 0 := (by decide); omega
  exact gg_w (by first | exact Nat.le_of_ble_eq_true rfl | omega) (gg_f (gf_cons rfl (gf_cons rfl (gf_cons rfl (gf_cons rfl (gf_cons rfl gf_nil))))) (ct5 33 s x2 (Int32.ofInt 0) hI fr_rf (in_w 0 32 h2 rfl) (in_w 0 32 (in_c 0 rfl) rfl) n5 n5a n5b (m_in 33 (in_w 0 32 (in_c 0 rfl) rfl) rfl)))

def fm_185_76 : FM := ([77, 78], [79], [], [])
/-- GraphHouse$Trees.shrinkRings -/
theorem k_185_76 {Z : AmZ} {A : Nat → Nat} {s : GS} {ex : va_W} {d : Nat} {X : AmX}  (hd : 1 ≤ d) (hI : Inv s) (q_0 : ∃ n m : Int, AE s n ∧ n ≤ 32 ∧ RN s n m) : GC Z d 185 [.ref (A 76)] (WW Z A s ++ ex) 0 0 (fun v u => ∃ t : GS, Inv t ∧ Fr fm_185_76 s t ∧ v = none ∧ u = WW Z A t ++ ex ∧ (∀ n m : Int, AE s n → n ≤ 32 → RN s n m → AE t m)) X := by
  intro post xp hP hX
  obtain ⟨u_76_0, e_76_0⟩ : ∃ w, w = s.2.2.1 76 0 := ⟨_, rfl⟩
  have ro_76_0 := inv_F hI 0 160 rfl e_76_0
  have ct2 : ∀ (k2 : Nat) (sc2 : GS) (y2_1 : Int32), Inv sc2 → Fr fm_185_76 s sc2 → (In y2_1 0 160) → (SHR s sc2 (y2_1).toInt.toNat) → 160 - (y2_1).toInt < (k2 : Int) → GG Z (d - 1) 185 post (gx xp) (1 + k2 * 900) 2 (fun j => xlook j [(0, .ref (A 76)), (1, .int y2_1)]) [] (WW Z A sc2 ++ ex) 0 0 := by
    intro k2
    induction k2 with
    | zero => intro sc2 y2_1 hIc2 hFc2 j2_1 g2_0 mm2; exact m_no mm2 j2_1 rfl
    | succ k2 ih2 =>
      intro sc2 y2_1 hIc2 hFc2 j2_1 g2_0 mm2
      refine gg_w (M := 1 + k2 * 900 + 900) gws ?_
      refine g_iload_n 3 (gd rfl) rfl rfl ?_
      refine g_aload_n 4 (gd rfl) rfl rfl ?_
      refine g_getI 7 (gd rfl) rfl rfl rfl (fun z4 e4 => ?_)
      have q4 : u_76_0 = z4 := (fr_F e_76_0 hFc2 rfl).trans e4.symm
      subst q4
      refine g_cmp_ge 10 74 (gd rfl) rfl rfl (fun c7 => ?_) (fun c7 => ?_)
      · skip
        have n74 : ∀ n m : Int, AE s n → n ≤ 32 → RN s n m → AE sc2 m := by have hFF : Fr fm_185_76 s sc2 := hFc2; exact fun n m ha hn hr => shr_ae g2_0 ha hn hr (by rw [← e_76_0]; (first | have a0 := oa2 ro_76_0 j2_1 | ((first | have a0 := in_u ro_76_0 | (have a0 := ro_76_0; unfold In at a0)); (first | have a1 := in_u j2_1 | (have a1 := j2_1; unfold In at a1)))); omega) (hFF.2.2.1 76 0 rfl)
        exact g_return (gd rfl) rfl (hP _ _ ⟨sc2, hIc2, hFc2, rfl, rfl, n74⟩)
      · skip
        have i7 := r_lt1 0 159 c7 j2_1 ro_76_0 rfl
        have i7a := r_lt2 1 160 c7 j2_1 ro_76_0 rfl
        refine g_aload_n 11 (gd rfl) rfl rfl ?_
        refine g_getA (q2 := 78) 14 (gd rfl) rfl rfl rfl rfl ?_
        refine g_iload_n 15 (gd rfl) rfl rfl ?_
        refine g_iaload 16 (gd rfl) rfl (n := 160) rfl (in_ix i7 rfl) (fun z15 e15 => ?_)
        have i15 := inv_I hIc2 (n := 160) (t := 0) 0 31 rfl (in_ix i7 rfl) rfl e15
        refine g_istore_n 17 (gd rfl) rfl (Nat.le_of_ble_eq_true rfl) ?_
        refine g_aload_n 18 (gd rfl) rfl rfl ?_
        refine g_getA (q2 := 77) 21 (gd rfl) rfl rfl rfl rfl ?_
        refine g_iload_n 22 (gd rfl) rfl rfl ?_
        refine g_iaload 23 (gd rfl) rfl (n := 160) rfl (in_ix i7 rfl) (fun z22 e22 => ?_)
        have i22 := inv_I hIc2 (n := 160) (t := 0) 0 31 rfl (in_ix i7 rfl) rfl e22
        refine g_istore_n 24 (gd rfl) rfl (Nat.le_of_ble_eq_true rfl) ?_
        obtain ⟨n9, m9, a9, b9, r9⟩ := q_0
        have hae := a9 (y2_1).toInt.toNat (by rw [← e_76_0]; (first | have a0 := in_u i7a | (have a0 := i7a; unfold In at a0)); (first | have a1 := in_u i7 | (have a1 := i7; unfold In at a1)); (first | have a2 := in_u i22 | (have a2 := i22; unfold In at a2)); (first | have a3 := in_u i15 | (have a3 := i15; unfold In at a3)); omega)
        have ht : z22 = s.1 77 (y2_1).toInt.toNat := (by rw [e22]; exact (g2_0.2 _ (Nat.le_refl _)).1)
        have hh : z15 = s.1 78 (y2_1).toInt.toNat := (by rw [e15]; exact (g2_0.2 _ (Nat.le_refl _)).2)
        rw [← ht, ← hh] at hae
        have rt := r9 (z22).toNatClampNeg (by show (z22).toInt.toNat < 32; omega)
        have rh := r9 (z15).toNatClampNeg (by show (z15).toInt.toNat < 32; omega)
        have kt : (((z22).toNatClampNeg : Nat) : Int) = (z22).toInt := (by show ((z22).toInt.toNat : Int) = _; omega)
        have kh : (((z15).toNatClampNeg : Nat) : Int) = (z15).toInt := (by show ((z15).toInt.toNat : Int) = _; omega)
        refine g_iload_n 25 (gd rfl) rfl rfl ?_
        refine g_iload_n 26 (gd rfl) rfl rfl ?_
        refine g_cmp_eq 29 44 (gd rfl) rfl rfl (fun c26 => ?_) (fun c26 => ?_)
        · skip
          refine g_aload_n 45 (gd rfl) rfl rfl ?_
          refine g_getA (q2 := 77) 48 (gd rfl) rfl rfl rfl rfl ?_
          refine g_iload_n 49 (gd rfl) rfl rfl ?_
          refine g_aload_n 50 (gd rfl) rfl rfl ?_
          refine g_getA (q2 := 83) 53 (gd rfl) rfl rfl rfl rfl ?_
          refine g_iload_n 54 (gd rfl) rfl rfl ?_
          refine g_iaload 55 (gd rfl) rfl (n := 32) rfl (in_ix i22 rfl) (fun z54 e54 => ?_)
          have i54 := inv_I hIc2 (n := 32) (t := 0) (-1) 31 rfl (in_ix i22 rfl) rfl e54
          have h54 : z54 = s.1 83 (z22).toNatClampNeg := (by rw [e54]; exact congrFun (hFc2.1 83 rfl) _)
          have i55 : In z54 0 31 := by have h9 := rt.2 (by omega); rw [← h54] at h9; exact ⟨h9, i54.2⟩
          refine g_iastore 56 (gd rfl) rfl (n := 160) rfl (in_ix i7 rfl) ?_
          have hI55 := inv_sI (q := 77) (j := y2_1.toNatClampNeg) hIc2 rfl (in_w 0 31 i55 rfl)
          refine g_aload_n 57 (gd rfl) rfl rfl ?_
          refine g_getA (q2 := 78) 60 (gd rfl) rfl rfl rfl rfl ?_
          refine g_iload_n 61 (gd rfl) rfl rfl ?_
          refine g_aload_n 62 (gd rfl) rfl rfl ?_
          refine g_getA (q2 := 83) 65 (gd rfl) rfl rfl rfl rfl ?_
          refine g_iload_n 66 (gd rfl) rfl rfl ?_
          refine g_iaload 67 (gd rfl) rfl (n := 32) rfl (in_ix i15 rfl) (fun z66 e66 => ?_)
          have i66 := inv_I hI55 (n := 32) (t := 0) (-1) 31 rfl (in_ix i15 rfl) rfl e66
          have h66 : z66 = s.1 83 (z15).toNatClampNeg := (by rw [e66, sI_r rfl]; exact congrFun (hFc2.1 83 rfl) _)
          have i67 : In z66 0 31 := by have h9 := rh.2 (by omega); rw [← h66] at h9; exact ⟨h9, i66.2⟩
          refine g_iastore 68 (gd rfl) rfl (n := 160) rfl (in_ix i7 rfl) ?_
          have hI67 := inv_sI (q := 78) (j := y2_1.toNatClampNeg) hI55 rfl (in_w 0 31 i67 rfl)
          refine g_iinc 71 (gd rfl) rfl rfl (Nat.le_of_ble_eq_true rfl) (fun z68 e68 => ?_)
          have i68 := in_add 1 160 e68 i7 (in_c 1 rfl) rfl rfl
          refine g_goto 2 (gd rfl) rfl ?_
          have n2 : SHR s (sI (sI sc2 77 y2_1.toNatClampNeg z54) 78 y2_1.toNatClampNeg z66) (z68).toInt.toNat := by rw [show (z68).toInt.toNat = (y2_1).toInt.toNat + 1 from (by (first | have a0 := oa5 i7a i7 i22 i15 i68 | ((first | have a0 := in_u i7a | (have a0 := i7a; unfold In at a0)); (first | have a1 := in_u i7 | (have a1 := i7; unfold In at a1)); (first | have a2 := in_u i22 | (have a2 := i22; unfold In at a2)); (first | have a3 := in_u i15 | (have a3 := i15; unfold In at a3)); (first | have a4 := in_u i68 | (have a4 := i68; unfold In at a4)))); have a5 := t_add e68 i7 (in_c 1 rfl) rfl; (first | have a6 := in_u ((in_c 1 rfl)) | (have a6 := (in_c 1 rfl); unfold In at a6)); omega)]; exact shr_s g2_0 (by rw [sI_r rfl, sI_q]; rfl) (by rw [sI_q, sI_r rfl]; rfl) (by rw [h54, ht]) (by rw [h66, hh])
          exact gg_w (by first | exact Nat.le_add_right _ _ | exact gw2 | exact gw3 | exact gwe rfl | exact gwf rfl | exact gwg rfl | exact gwh rfl | omega) (gg_f (gf_cons rfl (gf_cons rfl gf_nil)) (ih2 (sI (sI sc2 77 y2_1.toNatClampNeg z54) 78 y2_1.toNatClampNeg z66) z68 hI67 (fr_sI rfl (fr_sI rfl hFc2)) (in_w 0 160 i68 rfl) n2 (m_up mm2 (t_add e68 i7 (in_c 1 rfl) rfl) (in_w 1 1 (in_c 1 rfl) rfl))))
        · skip
          refine g_aload_n 30 (gd rfl) rfl rfl ?_
          refine g_getA (q2 := 79) 33 (gd rfl) rfl rfl rfl rfl ?_
          refine g_iload_n 34 (gd rfl) rfl rfl ?_
          refine g_dup2 35 (gd rfl) rfl rfl rfl ?_
          refine g_laload 36 (gd rfl) rfl (n := 160) rfl (in_ix i7 rfl) (fun z35 e35 => ?_)
          refine g_aload_n 37 (gd rfl) rfl rfl ?_
          refine g_getA (q2 := 80) 40 (gd rfl) rfl rfl rfl rfl ?_
          refine g_iload_n 41 (gd rfl) rfl rfl ?_
          refine g_laload 42 (gd rfl) rfl (n := 32) rfl (in_ix i15 rfl) (fun z41 e41 => ?_)
          refine g_lsub 43 (gd rfl) rfl (fun z42 e42 => ?_)
          refine g_lastore 44 (gd rfl) rfl (n := 160) rfl (in_ix i7 rfl) ?_
          have hI43 := inv_sL (q := 79) (j := y2_1.toNatClampNeg) (x := z42) hIc2 rfl (l_rng z42)
          refine g_aload_n 45 (gd rfl) rfl rfl ?_
          refine g_getA (q2 := 77) 48 (gd rfl) rfl rfl rfl rfl ?_
          refine g_iload_n 49 (gd rfl) rfl rfl ?_
          refine g_aload_n 50 (gd rfl) rfl rfl ?_
          refine g_getA (q2 := 83) 53 (gd rfl) rfl rfl rfl rfl ?_
          refine g_iload_n 54 (gd rfl) rfl rfl ?_
          refine g_iaload 55 (gd rfl) rfl (n := 32) rfl (in_ix i22 rfl) (fun z54 e54 => ?_)
          have i54 := inv_I hI43 (n := 32) (t := 0) (-1) 31 rfl (in_ix i22 rfl) rfl e54
          have h54 : z54 = s.1 83 (z22).toNatClampNeg := (by rw [e54]; exact congrFun (hFc2.1 83 rfl) _)
          have i55 : In z54 0 31 := by have h9 := rt.2 (by omega); rw [← h54] at h9; exact ⟨h9, i54.2⟩
          refine g_iastore 56 (gd rfl) rfl (n := 160) rfl (in_ix i7 rfl) ?_
          have hI55 := inv_sI (q := 77) (j := y2_1.toNatClampNeg) hI43 rfl (in_w 0 31 i55 rfl)
          refine g_aload_n 57 (gd rfl) rfl rfl ?_
          refine g_getA (q2 := 78) 60 (gd rfl) rfl rfl rfl rfl ?_
          refine g_iload_n 61 (gd rfl) rfl rfl ?_
          refine g_aload_n 62 (gd rfl) rfl rfl ?_
          refine g_getA (q2 := 83) 65 (gd rfl) rfl rfl rfl rfl ?_
          refine g_iload_n 66 (gd rfl) rfl rfl ?_
          refine g_iaload 67 (gd rfl) rfl (n := 32) rfl (in_ix i15 rfl) (fun z66 e66 => ?_)
          have i66 := inv_I hI55 (n := 32) (t := 0) (-1) 31 rfl (in_ix i15 rfl) rfl e66
          have h66 : z66 = s.1 83 (z15).toNatClampNeg := (by rw [e66, sI_r rfl]; exact congrFun (hFc2.1 83 rfl) _)
          have i67 : In z66 0 31 := by have h9 := rh.2 (by omega); rw [← h66] at h9; exact ⟨h9, i66.2⟩
          refine g_iastore 68 (gd rfl) rfl (n := 160) rfl (in_ix i7 rfl) ?_
          have hI67 := inv_sI (q := 78) (j := y2_1.toNatClampNeg) hI55 rfl (in_w 0 31 i67 rfl)
          refine g_iinc 71 (gd rfl) rfl rfl (Nat.le_of_ble_eq_true rfl) (fun z68 e68 => ?_)
          have i68 := in_add 1 160 e68 i7 (in_c 1 rfl) rfl rfl
          refine g_goto 2 (gd rfl) rfl ?_
          have n2 : SHR s (sI (sI (sL sc2 79 y2_1.toNatClampNeg z42) 77 y2_1.toNatClampNeg z54) 78 y2_1.toNatClampNeg z66) (z68).toInt.toNat := by rw [show (z68).toInt.toNat = (y2_1).toInt.toNat + 1 from (by (first | have a0 := oa5 i7a i7 i22 i15 i68 | ((first | have a0 := in_u i7a | (have a0 := i7a; unfold In at a0)); (first | have a1 := in_u i7 | (have a1 := i7; unfold In at a1)); (first | have a2 := in_u i22 | (have a2 := i22; unfold In at a2)); (first | have a3 := in_u i15 | (have a3 := i15; unfold In at a3)); (first | have a4 := in_u i68 | (have a4 := i68; unfold In at a4)))); have a5 := t_add e68 i7 (in_c 1 rfl) rfl; (first | have a6 := in_u ((in_c 1 rfl)) | (have a6 := (in_c 1 rfl); unfold In at a6)); omega)]; exact shr_s g2_0 (by rw [sI_r rfl, sI_q]; rfl) (by rw [sI_q, sI_r rfl]; rfl) (by rw [h54, ht]) (by rw [h66, hh])
          exact gg_w (by first | exact Nat.le_add_right _ _ | exact gw2 | exact gw3 | exact gwe rfl | exact gwf rfl | exact gwg rfl | exact gwh rfl | omega) (gg_f (gf_cons rfl (gf_cons rfl gf_nil)) (ih2 (sI (sI (sL sc2 79 y2_1.toNatClampNeg z42) 77 y2_1.toNatClampNeg z54) 78 y2_1.toNatClampNeg z66) z68 hI67 (fr_sI rfl (fr_sI rfl (fr_sL rfl hFc2))) (in_w 0 160 i68 rfl) n2 (m_up mm2 (t_add e68 i7 (in_c 1 rfl) rfl) (in_w 1 1 (in_c 1 rfl) rfl))))
  refine g_enter2 (k := 185) (N := 145801) (by first | exact dq1 hd rfl | exact dq0 hd rfl | exact dq2 hd rfl | exact dq3 hd rfl | omega) rfl (Nat.le_of_ble_eq_true rfl) ?_
  refine g_iconst 0 1 (gd rfl) rfl rfl ?_
  refine g_istore_n 2 (gd rfl) rfl (Nat.le_of_ble_eq_true rfl) ?_
  have n2 : SHR s s ((Int32.ofInt 0)).toInt.toNat := by exact shr_0
  exact gg_w (by first | exact Nat.le_of_ble_eq_true rfl | omega) (gg_f (gf_cons rfl (gf_cons rfl gf_nil)) (ct2 161 s (Int32.ofInt 0) hI fr_rf (in_w 0 160 (in_c 0 rfl) rfl) n2 (m_in 161 (in_w 0 160 (in_c 0 rfl) rfl) rfl)))

def fm_191_76 : FM := ([], [85], [], [])
/-- GraphHouse$Trees.swapRows -/
theorem k_191_76 {Z : AmZ} {A : Nat → Nat} {s : GS} {ex : va_W} {d : Nat} {X : AmX} {x1 : Int32} {x2 : Int32} (hd : 1 ≤ d) (hI : Inv s) (h1 : In x1 0 30) (h2 : In x2 0 30) : GC Z d 191 [.ref (A 76), .int x1, .int x2] (WW Z A s ++ ex) 0 0 (fun v u => ∃ t : GS, Inv t ∧ Fr fm_191_76 s t ∧ v = none ∧ u = WW Z A t ++ ex) X := by
  intro post xp hP hX
  have ct2 : ∀ (k2 : Nat) (sc2 : GS) (y2_3 : Int32), Inv sc2 → Fr fm_191_76 s sc2 → (In y2_3 0 32) → 32 - (y2_3).toInt < (k2 : Int) → GG Z (d - 1) 191 post (gx xp) (1 + k2 * 900) 2 (fun j => xlook j [(0, .ref (A 76)), (1, .int x1), (2, .int x2), (3, .int y2_3)]) [] (WW Z A sc2 ++ ex) 0 0 := by
    intro k2
    induction k2 with
    | zero => intro sc2 y2_3 hIc2 hFc2 j2_3 mm2; exact m_no mm2 j2_3 rfl
    | succ k2 ih2 =>
      intro sc2 y2_3 hIc2 hFc2 j2_3 mm2
      refine gg_w (M := 1 + k2 * 900 + 900) gws ?_
      refine g_iload_n 3 (gd rfl) rfl rfl ?_
      refine g_bipush 32 5 (gd rfl) rfl rfl ?_
      refine g_cmp_ge 8 62 (gd rfl) rfl rfl (fun c5 => ?_) (fun c5 => ?_)
      · skip
        have i5 := r_le2 32 32 c5 (in_c 32 rfl) j2_3 rfl
        exact g_return (gd rfl) rfl (hP _ _ ⟨sc2, hIc2, hFc2, rfl, rfl⟩)
      · skip
        have i5 := r_lt1 0 31 c5 j2_3 (in_c 32 rfl) rfl
        refine g_aload_n 9 (gd rfl) rfl rfl ?_
        refine g_getA (q2 := 85) 12 (gd rfl) rfl rfl rfl rfl ?_
        refine g_iload_n 13 (gd rfl) rfl rfl ?_
        refine g_bipush 32 15 (gd rfl) rfl rfl ?_
        refine g_imul 16 (gd rfl) rfl (fun z15 e15 => ?_)
        have i15 := in_mulc 32 0 960 (Or.inr e15) h1 rfl rfl
        refine g_iload_n 17 (gd rfl) rfl rfl ?_
        refine g_iadd 18 (gd rfl) rfl (fun z17 e17 => ?_)
        have i17 := in_add 0 991 e17 i15 i5 rfl rfl
        refine g_laload 19 (gd rfl) rfl (n := 1024) rfl (in_ix i17 rfl) (fun z18 e18 => ?_)
        refine g_lstore 21 (gd rfl) rfl (Nat.le_of_ble_eq_true rfl) ?_
        refine g_aload_n 22 (gd rfl) rfl rfl ?_
        refine g_getA (q2 := 85) 25 (gd rfl) rfl rfl rfl rfl ?_
        refine g_iload_n 26 (gd rfl) rfl rfl ?_
        refine g_bipush 32 28 (gd rfl) rfl rfl ?_
        refine g_imul 29 (gd rfl) rfl (fun z28 e28 => ?_)
        have i28 := in_mulc 32 0 960 (Or.inr e28) h1 rfl rfl
        refine g_iload_n 30 (gd rfl) rfl rfl ?_
        refine g_iadd 31 (gd rfl) rfl (fun z30 e30 => ?_)
        have i30 := in_add 0 991 e30 i28 i5 rfl rfl
        refine g_aload_n 32 (gd rfl) rfl rfl ?_
        refine g_getA (q2 := 85) 35 (gd rfl) rfl rfl rfl rfl ?_
        refine g_iload_n 36 (gd rfl) rfl rfl ?_
        refine g_bipush 32 38 (gd rfl) rfl rfl ?_
        refine g_imul 39 (gd rfl) rfl (fun z38 e38 => ?_)
        have i38 := in_mulc 32 0 960 (Or.inr e38) h2 rfl rfl
        refine g_iload_n 40 (gd rfl) rfl rfl ?_
        refine g_iadd 41 (gd rfl) rfl (fun z40 e40 => ?_)
        have i40 := in_add 0 991 e40 i38 i5 rfl rfl
        refine g_laload 42 (gd rfl) rfl (n := 1024) rfl (in_ix i40 rfl) (fun z41 e41 => ?_)
        refine g_lastore 43 (gd rfl) rfl (n := 1024) rfl (in_ix i30 rfl) ?_
        have hI42 := inv_sL (q := 85) (j := z30.toNatClampNeg) (x := z41) hIc2 rfl (l_rng z41)
        refine g_aload_n 44 (gd rfl) rfl rfl ?_
        refine g_getA (q2 := 85) 47 (gd rfl) rfl rfl rfl rfl ?_
        refine g_iload_n 48 (gd rfl) rfl rfl ?_
        refine g_bipush 32 50 (gd rfl) rfl rfl ?_
        refine g_imul 51 (gd rfl) rfl (fun z50 e50 => ?_)
        have i50 := in_mulc 32 0 960 (Or.inr e50) h2 rfl rfl
        refine g_iload_n 52 (gd rfl) rfl rfl ?_
        refine g_iadd 53 (gd rfl) rfl (fun z52 e52 => ?_)
        have i52 := in_add 0 991 e52 i50 i5 rfl rfl
        refine g_lload 55 (gd rfl) rfl rfl ?_
        refine g_lastore 56 (gd rfl) rfl (n := 1024) rfl (in_ix i52 rfl) ?_
        have hI55 := inv_sL (q := 85) (j := z52.toNatClampNeg) (x := z18) hI42 rfl (l_rng z18)
        refine g_iinc 59 (gd rfl) rfl rfl (Nat.le_of_ble_eq_true rfl) (fun z56 e56 => ?_)
        have i56 := in_add 1 32 e56 i5 (in_c 1 rfl) rfl rfl
        refine g_goto 2 (gd rfl) rfl ?_
        exact gg_w (by first | exact Nat.le_add_right _ _ | exact gw2 | exact gw3 | exact gwe rfl | exact gwf rfl | exact gwg rfl | exact gwh rfl | omega) (gg_f (gf_cons rfl (gf_cons rfl (gf_cons rfl (gf_cons rfl gf_nil)))) (ih2 (sL (sL sc2 85 z30.toNatClampNeg z41) 85 z52.toNatClampNeg z18) z56 hI55 (fr_sL rfl (fr_sL rfl hFc2)) (in_w 0 32 i56 rfl) (m_up mm2 (t_add e56 i5 (in_c 1 rfl) rfl) (in_w 1 1 (in_c 1 rfl) rfl))))
  refine g_enter2 (k := 191) (N := 30601) (by first | exact dq1 hd rfl | exact dq0 hd rfl | exact dq2 hd rfl | exact dq3 hd rfl | omega) rfl (Nat.le_of_ble_eq_true rfl) ?_
  refine g_iconst 0 1 (gd rfl) rfl rfl ?_
  refine g_istore_n 2 (gd rfl) rfl (Nat.le_of_ble_eq_true rfl) ?_
  exact gg_w (by first | exact Nat.le_of_ble_eq_true rfl | omega) (gg_f (gf_cons rfl (gf_cons rfl (gf_cons rfl (gf_cons rfl gf_nil)))) (ct2 33 s (Int32.ofInt 0) hI fr_rf (in_w 0 32 (in_c 0 rfl) rfl) (m_in 33 (in_w 0 32 (in_c 0 rfl) rfl) rfl)))

/-- GraphHouse$Trees.power -/
theorem k_192 {Z : AmZ} {A : Nat → Nat} {s : GS} {ex : va_W} {d : Nat} {X : AmX} {x0 : Int64} {x1 : Int64} (hd : 1 ≤ d) (hI : Inv s)  : GC Z d 192 [.long x0, .long x1] (WW Z A s ++ ex) 0 0 (fun v u => ∃ z : Int64, v = some (.long z) ∧ u = WW Z A s ++ ex) X := by
  intro post xp hP hX
  have ct9 : ∀ (k9 : Nat) (y9_4 : Int64) (y9_6 : Int64) (y9_8 : Int64), ((y9_8.toInt.toNat : Nat) : Int) < (k9 : Int) → GG Z (d - 1) 192 post (gx xp) (1 + k9 * 900) 9 (fun j => xlook j [(0, .long x0), (2, .long x1), (4, .long y9_4), (6, .long y9_6), (8, .long y9_8)]) [] (WW Z A s ++ ex) 0 0 := by
    intro k9
    induction k9 with
    | zero => intro y9_4 y9_6 y9_8  mm9; exact absurd mm9 (Int.not_lt.mpr (Int.natCast_nonneg _))
    | succ k9 ih9 =>
      intro y9_4 y9_6 y9_8  mm9
      refine gg_w (M := 1 + k9 * 900 + 900) gws ?_
      refine g_lload 11 (gd rfl) rfl rfl ?_
      refine g_lconst 0 12 (gd rfl) rfl rfl ?_
      refine g_lcmp 13 (gd rfl) rfl (fun z12 e12 => ?_)
      have i12 := lc_in e12
      refine g_if_le 16 56 (gd rfl) rfl rfl (fun c13 => ?_) (fun c13 => ?_)
      · skip
        have i13 := z_le (-1) 0 c13 i12 rfl
        have c13a := lc_le e12 c13
        have i13a := lr_le1 (-9223372036854775808) 0 c13a (l_rng y9_8) (l_c 0 rfl) rfl
        refine g_lload 58 (gd rfl) rfl rfl ?_
        exact g_lreturn (gd rfl) rfl (hP _ _ ⟨y9_4, rfl, rfl⟩)
      · skip
        have i13 := z_gt 1 1 c13 i12 rfl
        have c13a := lc_gt e12 c13
        have i13a := lr_lt2 1 9223372036854775807 c13a (l_c 0 rfl) (l_rng y9_8) rfl
        refine g_lload 18 (gd rfl) rfl rfl ?_
        refine g_lconst 1 19 (gd rfl) rfl rfl ?_
        refine g_land 20 (gd rfl) rfl (fun z19 e19 => ?_)
        have i19 := inl_and2 e19 (l_c 1 rfl) rfl
        refine g_lconst 0 21 (gd rfl) rfl rfl ?_
        refine g_lcmp 22 (gd rfl) rfl (fun z21 e21 => ?_)
        have i21 := lc_in e21
        refine g_if_eq 25 36 (gd rfl) rfl rfl (fun c22 => ?_) (fun c22 => ?_)
        · skip
          have i22 := z_eq 0 0 c22 i21 rfl
          have c22a := lc_eq e21 c22
          have i22a := lr_eq1 0 0 c22a i19 (l_c 0 rfl) rfl
          refine g_lload 38 (gd rfl) rfl rfl ?_
          refine g_lload 40 (gd rfl) rfl rfl ?_
          refine g_lmul 41 (gd rfl) rfl (fun z40 e40 => ?_)
          refine g_ldc2_w 1000000007 44 (gd rfl) rfl rfl ?_
          refine g_lrem 45 (gd rfl) rfl (by decide) (fun z44 e44 => ?_)
          have i44 := l_rem (-1000000006) 1000000006 e44 rfl
          refine g_lstore 47 (gd rfl) rfl (Nat.le_of_ble_eq_true rfl) ?_
          refine g_lload 49 (gd rfl) rfl rfl ?_
          refine g_iconst 1 50 (gd rfl) rfl rfl ?_
          refine g_lshr 51 (gd rfl) rfl (fun z50 e50 => ?_)
          refine g_lstore 53 (gd rfl) rfl (Nat.le_of_ble_eq_true rfl) ?_
          refine g_goto 9 (gd rfl) rfl ?_
          exact gg_w (by first | exact Nat.le_add_right _ _ | exact gw2 | exact gw3 | exact gwe rfl | exact gwf rfl | exact gwg rfl | exact gwh rfl | omega) (gg_f (gf_cons rfl (gf_cons rfl (gf_cons rfl (gf_cons rfl (gf_cons rfl gf_nil))))) (ih9  y9_4 z44 z50   (mh2 e50 i13a rfl mm9)))
        · skip
          have c22a := lc_ne e21 c22
          have i22 := lr_ne1 1 1 c22a i19 (l_c 0 rfl) rfl
          refine g_lload 27 (gd rfl) rfl rfl ?_
          refine g_lload 29 (gd rfl) rfl rfl ?_
          refine g_lmul 30 (gd rfl) rfl (fun z29 e29 => ?_)
          refine g_ldc2_w 1000000007 33 (gd rfl) rfl rfl ?_
          refine g_lrem 34 (gd rfl) rfl (by decide) (fun z33 e33 => ?_)
          have i33 := l_rem (-1000000006) 1000000006 e33 rfl
          refine g_lstore 36 (gd rfl) rfl (Nat.le_of_ble_eq_true rfl) ?_
          refine g_lload 38 (gd rfl) rfl rfl ?_
          refine g_lload 40 (gd rfl) rfl rfl ?_
          refine g_lmul 41 (gd rfl) rfl (fun z40 e40 => ?_)
          refine g_ldc2_w 1000000007 44 (gd rfl) rfl rfl ?_
          refine g_lrem 45 (gd rfl) rfl (by decide) (fun z44 e44 => ?_)
          have i44 := l_rem (-1000000006) 1000000006 e44 rfl
          refine g_lstore 47 (gd rfl) rfl (Nat.le_of_ble_eq_true rfl) ?_
          refine g_lload 49 (gd rfl) rfl rfl ?_
          refine g_iconst 1 50 (gd rfl) rfl rfl ?_
          refine g_lshr 51 (gd rfl) rfl (fun z50 e50 => ?_)
          refine g_lstore 53 (gd rfl) rfl (Nat.le_of_ble_eq_true rfl) ?_
          refine g_goto 9 (gd rfl) rfl ?_
          exact gg_w (by first | exact Nat.le_add_right _ _ | exact gw2 | exact gw3 | exact gwe rfl | exact gwf rfl | exact gwg rfl | exact gwh rfl | omega) (gg_f (gf_cons rfl (gf_cons rfl (gf_cons rfl (gf_cons rfl (gf_cons rfl gf_nil))))) (ih9  z33 z44 z50   (mh2 e50 i13a rfl mm9)))
  refine g_enter2 (k := 192) (N := 16602069666338596455301) (by first | exact dq1 hd rfl | exact dq0 hd rfl | exact dq2 hd rfl | exact dq3 hd rfl | omega) rfl (Nat.le_of_ble_eq_true rfl) ?_
  refine g_lconst 1 1 (gd rfl) rfl rfl ?_
  refine g_lstore 3 (gd rfl) rfl (Nat.le_of_ble_eq_true rfl) ?_
  refine g_lload_n 4 (gd rfl) rfl rfl ?_
  refine g_lstore 6 (gd rfl) rfl (Nat.le_of_ble_eq_true rfl) ?_
  refine g_lload_n 7 (gd rfl) rfl rfl ?_
  refine g_lstore 9 (gd rfl) rfl (Nat.le_of_ble_eq_true rfl) ?_
  exact gg_w (by first | exact Nat.le_of_ble_eq_true rfl | omega) (gg_f (gf_cons rfl (gf_cons rfl (gf_cons rfl (gf_cons rfl (gf_cons rfl gf_nil))))) (ct9 18446744073709551616  (Int64.ofInt 1) x0 x1   (mh_in _)))

/-- GraphHouse$Ways.stepFrom -/
theorem k_196_49_2 {Z : AmZ} {A : Nat → Nat} {s : GS} {ex : va_W} {d : Nat} {X : AmX} {x2 : Int32} (hd : 3 ≤ d) (hI : Inv s) (h2 : In x2 0 31) : GC Z d 196 [.ref (A 49), .ref (A 2), .int x2] (WW Z A s ++ ex) 0 0 (fun v u => ∃ z : Int32, v = some (.int z) ∧ u = WW Z A s ++ ex ∧ In z (-1) 159) X := by
  intro post xp hP hX
  have ct7 : ∀ (k7 : Nat) (y7_3 : Int32), (In y7_3 0 160) → 160 - (y7_3).toInt < (k7 : Int) → GG Z (d - 1) 196 post (gx xp) (1 + k7 * 900) 7 (fun j => xlook j [(0, .ref (A 49)), (1, .ref (A 2)), (2, .int x2), (3, .int y7_3)]) [] (WW Z A s ++ ex) 0 0 := by
    intro k7
    induction k7 with
    | zero => intro y7_3 j7_3 mm7; exact m_no mm7 j7_3 rfl
    | succ k7 ih7 =>
      intro y7_3 j7_3 mm7
      refine gg_w (M := 1 + k7 * 900 + 900) gws ?_
      refine g_iload_n 8 (gd rfl) rfl rfl ?_
      refine g_aload_n 9 (gd rfl) rfl rfl ?_
      refine g_getA (q2 := 12) 12 (gd rfl) rfl rfl rfl rfl ?_
      refine g_iload_n 13 (gd rfl) rfl rfl ?_
      refine g_iconst 1 14 (gd rfl) rfl rfl ?_
      refine g_iadd 15 (gd rfl) rfl (fun z14 e14 => ?_)
      have i14 := in_add 1 32 e14 h2 (in_c 1 rfl) rfl rfl
      refine g_iaload 16 (gd rfl) rfl (n := 33) rfl (in_ix i14 rfl) (fun z15 e15 => ?_)
      have i15 := inv_I hI (n := 33) (t := 0) 0 160 rfl (in_ix i14 rfl) rfl e15
      refine g_cmp_ge 19 84 (gd rfl) rfl rfl (fun c16 => ?_) (fun c16 => ?_)
      · skip
        refine g_iconst (-1) 85 (gd rfl) rfl rfl ?_
        exact g_ireturn (gd rfl) rfl rfl (hP _ _ ⟨(Int32.ofInt (-1)), rfl, rfl, in_w (-1) 159 (in_c (-1) rfl) rfl⟩)
      · skip
        have i16 := r_lt1 0 159 c16 j7_3 i15 rfl
        have i16a := r_lt2 1 160 c16 j7_3 i15 rfl
        refine g_aload_n 20 (gd rfl) rfl rfl ?_
        refine g_getA (q2 := 13) 23 (gd rfl) rfl rfl rfl rfl ?_
        refine g_iload_n 24 (gd rfl) rfl rfl ?_
        refine g_iaload 25 (gd rfl) rfl (n := 160) rfl (in_ix i16 rfl) (fun z24 e24 => ?_)
        have i24 := inv_I hI (n := 160) (t := 0) 0 159 rfl (in_ix i16 rfl) rfl e24
        refine g_istore 27 (gd rfl) rfl (Nat.le_of_ble_eq_true rfl) ?_
        refine g_aload_n 28 (gd rfl) rfl rfl ?_
        refine g_getA (q2 := 50) 31 (gd rfl) rfl rfl rfl rfl ?_
        refine g_aload_n 32 (gd rfl) rfl rfl ?_
        refine g_getA (q2 := 5) 35 (gd rfl) rfl rfl rfl rfl ?_
        refine g_iload 37 (gd rfl) rfl rfl ?_
        refine g_iaload 38 (gd rfl) rfl (n := 160) rfl (in_ix i24 rfl) (fun z37 e37 => ?_)
        have i37 := inv_I hI (n := 160) (t := 0) 0 31 rfl (in_ix i24 rfl) rfl e37
        refine g_laload 39 (gd rfl) rfl (n := 32) rfl (in_ix i37 rfl) (fun z38 e38 => ?_)
        refine g_ldc2_w 9223372036854775807 42 (gd rfl) rfl rfl ?_
        refine g_lcmp 43 (gd rfl) rfl (fun z42 e42 => ?_)
        have i42 := lc_in e42
        refine g_if_eq 46 78 (gd rfl) rfl rfl (fun c43 => ?_) (fun c43 => ?_)
        · skip
          have i43 := z_eq 0 0 c43 i42 rfl
          have c43a := lc_eq e42 c43
          have i43a := lr_eq1 9223372036854775807 9223372036854775807 c43a (l_rng z38) (l_c 9223372036854775807 rfl) rfl
          refine g_iinc 81 (gd rfl) rfl rfl (Nat.le_of_ble_eq_true rfl) (fun z78 e78 => ?_)
          have i78 := in_add 1 160 e78 i16 (in_c 1 rfl) rfl rfl
          refine g_goto 7 (gd rfl) rfl ?_
          exact gg_w (by first | exact Nat.le_add_right _ _ | exact gw2 | exact gw3 | exact gwe rfl | exact gwf rfl | exact gwg rfl | exact gwh rfl | omega) (gg_f (gf_cons rfl (gf_cons rfl (gf_cons rfl (gf_cons rfl gf_nil)))) (ih7  z78  (in_w 0 160 i78 rfl) (m_up mm7 (t_add e78 i16 (in_c 1 rfl) rfl) (in_w 1 1 (in_c 1 rfl) rfl))))
        · skip
          have c43a := lc_ne e42 c43
          have i43 := lr_ne1 (-9223372036854775808) 9223372036854775806 c43a (l_rng z38) (l_c 9223372036854775807 rfl) rfl
          refine g_aload_n 47 (gd rfl) rfl rfl ?_
          refine g_iload 49 (gd rfl) rfl rfl ?_
          refine g_calls (As := [.ref (A 2), .int z24]) (r := []) 52 (gd rfl) rfl rfl rfl rfl rfl (Nat.le_of_ble_eq_true rfl) (mc := 0) (ms := 0) (Nat.zero_le _) (Nat.zero_le _) (P := fun v u => _) ?_ (fun v u h => h)
          intro po49 xx49 hp49 hx49
          refine g_enter2 (k := 197) (N := 300) (by first | exact dq1 hd rfl | exact dq0 hd rfl | exact dq2 hd rfl | exact dq3 hd rfl | omega) rfl (Nat.le_of_ble_eq_true rfl) ?_
          refine g_aload_n 1 (gd rfl) rfl rfl ?_
          refine g_getA (q2 := 6) 4 (gd rfl) rfl rfl rfl rfl ?_
          refine g_iload_n 5 (gd rfl) rfl rfl ?_
          refine g_iaload 6 (gd rfl) rfl (n := 160) rfl (in_ix i24 rfl) (fun z49x5 e49x5 => ?_)
          have i49x5 := inv_I hI (n := 160) (t := 0) (-1000000) 1000000 rfl (in_ix i24 rfl) rfl e49x5
          refine g_i2l 7 (gd rfl) rfl (fun z49x6 e49x6 => ?_)
          have i49x6 := l_i e49x6 i49x5
          refine g_ldc2_w 1024 10 (gd rfl) rfl rfl ?_
          refine g_lmul 11 (gd rfl) rfl (fun z49x10 e49x10 => ?_)
          have i49x10 := l_mulc 1024 (-1024000000) 1024000000 (Or.inr e49x10) i49x6 rfl
          refine g_lconst 1 12 (gd rfl) rfl rfl ?_
          refine g_ladd 13 (gd rfl) rfl (fun z49x12 e49x12 => ?_)
          have i49x12 := l_add (-1023999999) 1024000001 e49x12 i49x10 (l_c 1 rfl) rfl
          refine g_lreturn (gd rfl) rfl (hp49 _ _ ?_)
          show GG _ _ _ _ _ _ _ _ [.long z49x12] _ _ _
          refine g_aload_n 53 (gd rfl) rfl rfl ?_
          refine g_getA (q2 := 50) 56 (gd rfl) rfl rfl rfl rfl ?_
          refine g_aload_n 57 (gd rfl) rfl rfl ?_
          refine g_getA (q2 := 5) 60 (gd rfl) rfl rfl rfl rfl ?_
          refine g_iload 62 (gd rfl) rfl rfl ?_
          refine g_iaload 63 (gd rfl) rfl (n := 160) rfl (in_ix i24 rfl) (fun z62 e62 => ?_)
          have q62 : z37 = z62 := (e37).trans e62.symm
          subst q62
          refine g_laload 64 (gd rfl) rfl (n := 32) rfl (in_ix i37 rfl) (fun z63 e63 => ?_)
          refine g_ladd 65 (gd rfl) rfl (fun z64 e64 => ?_)
          refine g_aload_n 66 (gd rfl) rfl rfl ?_
          refine g_getA (q2 := 50) 69 (gd rfl) rfl rfl rfl rfl ?_
          refine g_iload_n 70 (gd rfl) rfl rfl ?_
          refine g_laload 71 (gd rfl) rfl (n := 32) rfl (in_ix h2 rfl) (fun z70 e70 => ?_)
          refine g_lcmp 72 (gd rfl) rfl (fun z71 e71 => ?_)
          have i71 := lc_in e71
          refine g_if_ne 75 78 (gd rfl) rfl rfl (fun c72 => ?_) (fun c72 => ?_)
          · skip
            have c72a := lc_ne e71 c72
            refine g_iinc 81 (gd rfl) rfl rfl (Nat.le_of_ble_eq_true rfl) (fun z78 e78 => ?_)
            have i78 := in_add 1 160 e78 i16 (in_c 1 rfl) rfl rfl
            refine g_goto 7 (gd rfl) rfl ?_
            exact gg_w (by first | exact Nat.le_add_right _ _ | exact gw2 | exact gw3 | exact gwe rfl | exact gwf rfl | exact gwg rfl | exact gwh rfl | omega) (gg_f (gf_cons rfl (gf_cons rfl (gf_cons rfl (gf_cons rfl gf_nil)))) (ih7  z78  (in_w 0 160 i78 rfl) (m_up mm7 (t_add e78 i16 (in_c 1 rfl) rfl) (in_w 1 1 (in_c 1 rfl) rfl))))
          · skip
            have i72 := z_eq 0 0 c72 i71 rfl
            have c72a := lc_eq e71 c72
            refine g_iload 77 (gd rfl) rfl rfl ?_
            exact g_ireturn (gd rfl) rfl rfl (hP _ _ ⟨z24, rfl, rfl, in_w (-1) 159 i24 rfl⟩)
  refine g_enter2 (k := 196) (N := 145801) (by first | exact dq1 hd rfl | exact dq0 hd rfl | exact dq2 hd rfl | exact dq3 hd rfl | omega) rfl (Nat.le_of_ble_eq_true rfl) ?_
  refine g_aload_n 1 (gd rfl) rfl rfl ?_
  refine g_getA (q2 := 12) 4 (gd rfl) rfl rfl rfl rfl ?_
  refine g_iload_n 5 (gd rfl) rfl rfl ?_
  refine g_iaload 6 (gd rfl) rfl (n := 33) rfl (in_ix h2 rfl) (fun z5 e5 => ?_)
  have i5 := inv_I hI (n := 33) (t := 0) 0 160 rfl (in_ix h2 rfl) rfl e5
  refine g_istore_n 7 (gd rfl) rfl (Nat.le_of_ble_eq_true rfl) ?_
  exact gg_w (by first | exact Nat.le_of_ble_eq_true rfl | omega) (gg_f (gf_cons rfl (gf_cons rfl (gf_cons rfl (gf_cons rfl gf_nil)))) (ct7 161  z5  (in_w 0 160 i5 rfl) (m_in 161 (in_w 0 160 i5 rfl) rfl)))

/-- GraphHouse$Ways.stepFrom -/
theorem k_196_49_32 {Z : AmZ} {A : Nat → Nat} {s : GS} {ex : va_W} {d : Nat} {X : AmX} {x2 : Int32} (hd : 3 ≤ d) (hI : Inv s) (h2 : In x2 0 31) : GC Z d 196 [.ref (A 49), .ref (A 32), .int x2] (WW Z A s ++ ex) 0 0 (fun v u => ∃ z : Int32, v = some (.int z) ∧ u = WW Z A s ++ ex ∧ In z (-1) 159) X := by
  intro post xp hP hX
  have ct7 : ∀ (k7 : Nat) (y7_3 : Int32), (In y7_3 0 160) → 160 - (y7_3).toInt < (k7 : Int) → GG Z (d - 1) 196 post (gx xp) (1 + k7 * 900) 7 (fun j => xlook j [(0, .ref (A 49)), (1, .ref (A 32)), (2, .int x2), (3, .int y7_3)]) [] (WW Z A s ++ ex) 0 0 := by
    intro k7
    induction k7 with
    | zero => intro y7_3 j7_3 mm7; exact m_no mm7 j7_3 rfl
    | succ k7 ih7 =>
      intro y7_3 j7_3 mm7
      refine gg_w (M := 1 + k7 * 900 + 900) gws ?_
      refine g_iload_n 8 (gd rfl) rfl rfl ?_
      refine g_aload_n 9 (gd rfl) rfl rfl ?_
      refine g_getA (q2 := 42) 12 (gd rfl) rfl rfl rfl rfl ?_
      refine g_iload_n 13 (gd rfl) rfl rfl ?_
      refine g_iconst 1 14 (gd rfl) rfl rfl ?_
      refine g_iadd 15 (gd rfl) rfl (fun z14 e14 => ?_)
      have i14 := in_add 1 32 e14 h2 (in_c 1 rfl) rfl rfl
      refine g_iaload 16 (gd rfl) rfl (n := 33) rfl (in_ix i14 rfl) (fun z15 e15 => ?_)
      have i15 := inv_I hI (n := 33) (t := 0) 0 160 rfl (in_ix i14 rfl) rfl e15
      refine g_cmp_ge 19 84 (gd rfl) rfl rfl (fun c16 => ?_) (fun c16 => ?_)
      · skip
        refine g_iconst (-1) 85 (gd rfl) rfl rfl ?_
        exact g_ireturn (gd rfl) rfl rfl (hP _ _ ⟨(Int32.ofInt (-1)), rfl, rfl, in_w (-1) 159 (in_c (-1) rfl) rfl⟩)
      · skip
        have i16 := r_lt1 0 159 c16 j7_3 i15 rfl
        have i16a := r_lt2 1 160 c16 j7_3 i15 rfl
        refine g_aload_n 20 (gd rfl) rfl rfl ?_
        refine g_getA (q2 := 43) 23 (gd rfl) rfl rfl rfl rfl ?_
        refine g_iload_n 24 (gd rfl) rfl rfl ?_
        refine g_iaload 25 (gd rfl) rfl (n := 160) rfl (in_ix i16 rfl) (fun z24 e24 => ?_)
        have i24 := inv_I hI (n := 160) (t := 0) 0 159 rfl (in_ix i16 rfl) rfl e24
        refine g_istore 27 (gd rfl) rfl (Nat.le_of_ble_eq_true rfl) ?_
        refine g_aload_n 28 (gd rfl) rfl rfl ?_
        refine g_getA (q2 := 50) 31 (gd rfl) rfl rfl rfl rfl ?_
        refine g_aload_n 32 (gd rfl) rfl rfl ?_
        refine g_getA (q2 := 35) 35 (gd rfl) rfl rfl rfl rfl ?_
        refine g_iload 37 (gd rfl) rfl rfl ?_
        refine g_iaload 38 (gd rfl) rfl (n := 160) rfl (in_ix i24 rfl) (fun z37 e37 => ?_)
        have i37 := inv_I hI (n := 160) (t := 0) 0 31 rfl (in_ix i24 rfl) rfl e37
        refine g_laload 39 (gd rfl) rfl (n := 32) rfl (in_ix i37 rfl) (fun z38 e38 => ?_)
        refine g_ldc2_w 9223372036854775807 42 (gd rfl) rfl rfl ?_
        refine g_lcmp 43 (gd rfl) rfl (fun z42 e42 => ?_)
        have i42 := lc_in e42
        refine g_if_eq 46 78 (gd rfl) rfl rfl (fun c43 => ?_) (fun c43 => ?_)
        · skip
          have i43 := z_eq 0 0 c43 i42 rfl
          have c43a := lc_eq e42 c43
          have i43a := lr_eq1 9223372036854775807 9223372036854775807 c43a (l_rng z38) (l_c 9223372036854775807 rfl) rfl
          refine g_iinc 81 (gd rfl) rfl rfl (Nat.le_of_ble_eq_true rfl) (fun z78 e78 => ?_)
          have i78 := in_add 1 160 e78 i16 (in_c 1 rfl) rfl rfl
          refine g_goto 7 (gd rfl) rfl ?_
          exact gg_w (by first | exact Nat.le_add_right _ _ | exact gw2 | exact gw3 | exact gwe rfl | exact gwf rfl | exact gwg rfl | exact gwh rfl | omega) (gg_f (gf_cons rfl (gf_cons rfl (gf_cons rfl (gf_cons rfl gf_nil)))) (ih7  z78  (in_w 0 160 i78 rfl) (m_up mm7 (t_add e78 i16 (in_c 1 rfl) rfl) (in_w 1 1 (in_c 1 rfl) rfl))))
        · skip
          have c43a := lc_ne e42 c43
          have i43 := lr_ne1 (-9223372036854775808) 9223372036854775806 c43a (l_rng z38) (l_c 9223372036854775807 rfl) rfl
          refine g_aload_n 47 (gd rfl) rfl rfl ?_
          refine g_iload 49 (gd rfl) rfl rfl ?_
          refine g_calls (As := [.ref (A 32), .int z24]) (r := []) 52 (gd rfl) rfl rfl rfl rfl rfl (Nat.le_of_ble_eq_true rfl) (mc := 0) (ms := 0) (Nat.zero_le _) (Nat.zero_le _) (P := fun v u => _) ?_ (fun v u h => h)
          intro po49 xx49 hp49 hx49
          refine g_enter2 (k := 197) (N := 300) (by first | exact dq1 hd rfl | exact dq0 hd rfl | exact dq2 hd rfl | exact dq3 hd rfl | omega) rfl (Nat.le_of_ble_eq_true rfl) ?_
          refine g_aload_n 1 (gd rfl) rfl rfl ?_
          refine g_getA (q2 := 36) 4 (gd rfl) rfl rfl rfl rfl ?_
          refine g_iload_n 5 (gd rfl) rfl rfl ?_
          refine g_iaload 6 (gd rfl) rfl (n := 160) rfl (in_ix i24 rfl) (fun z49x5 e49x5 => ?_)
          have i49x5 := inv_I hI (n := 160) (t := 0) (-1000000) 1000000 rfl (in_ix i24 rfl) rfl e49x5
          refine g_i2l 7 (gd rfl) rfl (fun z49x6 e49x6 => ?_)
          have i49x6 := l_i e49x6 i49x5
          refine g_ldc2_w 1024 10 (gd rfl) rfl rfl ?_
          refine g_lmul 11 (gd rfl) rfl (fun z49x10 e49x10 => ?_)
          have i49x10 := l_mulc 1024 (-1024000000) 1024000000 (Or.inr e49x10) i49x6 rfl
          refine g_lconst 1 12 (gd rfl) rfl rfl ?_
          refine g_ladd 13 (gd rfl) rfl (fun z49x12 e49x12 => ?_)
          have i49x12 := l_add (-1023999999) 1024000001 e49x12 i49x10 (l_c 1 rfl) rfl
          refine g_lreturn (gd rfl) rfl (hp49 _ _ ?_)
          show GG _ _ _ _ _ _ _ _ [.long z49x12] _ _ _
          refine g_aload_n 53 (gd rfl) rfl rfl ?_
          refine g_getA (q2 := 50) 56 (gd rfl) rfl rfl rfl rfl ?_
          refine g_aload_n 57 (gd rfl) rfl rfl ?_
          refine g_getA (q2 := 35) 60 (gd rfl) rfl rfl rfl rfl ?_
          refine g_iload 62 (gd rfl) rfl rfl ?_
          refine g_iaload 63 (gd rfl) rfl (n := 160) rfl (in_ix i24 rfl) (fun z62 e62 => ?_)
          have q62 : z37 = z62 := (e37).trans e62.symm
          subst q62
          refine g_laload 64 (gd rfl) rfl (n := 32) rfl (in_ix i37 rfl) (fun z63 e63 => ?_)
          refine g_ladd 65 (gd rfl) rfl (fun z64 e64 => ?_)
          refine g_aload_n 66 (gd rfl) rfl rfl ?_
          refine g_getA (q2 := 50) 69 (gd rfl) rfl rfl rfl rfl ?_
          refine g_iload_n 70 (gd rfl) rfl rfl ?_
          refine g_laload 71 (gd rfl) rfl (n := 32) rfl (in_ix h2 rfl) (fun z70 e70 => ?_)
          refine g_lcmp 72 (gd rfl) rfl (fun z71 e71 => ?_)
          have i71 := lc_in e71
          refine g_if_ne 75 78 (gd rfl) rfl rfl (fun c72 => ?_) (fun c72 => ?_)
          · skip
            have c72a := lc_ne e71 c72
            refine g_iinc 81 (gd rfl) rfl rfl (Nat.le_of_ble_eq_true rfl) (fun z78 e78 => ?_)
            have i78 := in_add 1 160 e78 i16 (in_c 1 rfl) rfl rfl
            refine g_goto 7 (gd rfl) rfl ?_
            exact gg_w (by first | exact Nat.le_add_right _ _ | exact gw2 | exact gw3 | exact gwe rfl | exact gwf rfl | exact gwg rfl | exact gwh rfl | omega) (gg_f (gf_cons rfl (gf_cons rfl (gf_cons rfl (gf_cons rfl gf_nil)))) (ih7  z78  (in_w 0 160 i78 rfl) (m_up mm7 (t_add e78 i16 (in_c 1 rfl) rfl) (in_w 1 1 (in_c 1 rfl) rfl))))
          · skip
            have i72 := z_eq 0 0 c72 i71 rfl
            have c72a := lc_eq e71 c72
            refine g_iload 77 (gd rfl) rfl rfl ?_
            exact g_ireturn (gd rfl) rfl rfl (hP _ _ ⟨z24, rfl, rfl, in_w (-1) 159 i24 rfl⟩)
  refine g_enter2 (k := 196) (N := 145801) (by first | exact dq1 hd rfl | exact dq0 hd rfl | exact dq2 hd rfl | exact dq3 hd rfl | omega) rfl (Nat.le_of_ble_eq_true rfl) ?_
  refine g_aload_n 1 (gd rfl) rfl rfl ?_
  refine g_getA (q2 := 42) 4 (gd rfl) rfl rfl rfl rfl ?_
  refine g_iload_n 5 (gd rfl) rfl rfl ?_
  refine g_iaload 6 (gd rfl) rfl (n := 33) rfl (in_ix h2 rfl) (fun z5 e5 => ?_)
  have i5 := inv_I hI (n := 33) (t := 0) 0 160 rfl (in_ix h2 rfl) rfl e5
  refine g_istore_n 7 (gd rfl) rfl (Nat.le_of_ble_eq_true rfl) ?_
  exact gg_w (by first | exact Nat.le_of_ble_eq_true rfl | omega) (gg_f (gf_cons rfl (gf_cons rfl (gf_cons rfl (gf_cons rfl gf_nil)))) (ct7 161  z5  (in_w 0 160 i5 rfl) (m_in 161 (in_w 0 160 i5 rfl) rfl)))

def fm_199_49_2 : FM := ([], [50], [], [])
/-- GraphHouse$Ways.relax -/
theorem k_199_49_2 {Z : AmZ} {A : Nat → Nat} {s : GS} {ex : va_W} {d : Nat} {X : AmX} {x2 : Int32} {u_2_4 : Int32} {u_2_0 : Int32} (hd : 4 ≤ d) (hI : Inv s) (e_2_4 : u_2_4 = s.2.2.1 2 4) (e_2_0 : u_2_0 = s.2.2.1 2 0) (p_0 : (u_2_4).toInt = (u_2_0).toInt) : GC Z d 199 [.ref (A 49), .ref (A 2), .int x2] (WW Z A s ++ ex) 0 0 (fun v u => ∃ t : GS, Inv t ∧ Fr fm_199_49_2 s t ∧ ∃ z : Int32, v = some (.int z) ∧ u = WW Z A t ++ ex ∧ In z (-2147483648) 2147483647) X := by
  intro post xp hP hX
  have ro_2_4 := inv_F hI (-1) 4000 rfl e_2_4
  have ro_2_0 := inv_F hI 0 4000 rfl e_2_0
  have ct5 : ∀ (k5 : Nat) (sc5 : GS) (y5_3 : Int32) (y5_4 : Int32), Inv sc5 → Fr fm_199_49_2 s sc5 → ((y5_4.toBitVec.toNat : Nat) : Int) < (k5 : Int) → GG Z (d - 1) 199 post (gx xp) (1 + k5 * 147601) 5 (fun j => xlook j [(0, .ref (A 49)), (1, .ref (A 2)), (2, .int x2), (3, .int y5_3), (4, .int y5_4)]) [] (WW Z A sc5 ++ ex) 0 0 := by
    intro k5
    induction k5 with
    | zero => intro sc5 y5_3 y5_4 hIc5 hFc5  mm5; exact absurd mm5 (Int.not_lt.mpr (Int.natCast_nonneg _))
    | succ k5 ih5 =>
      intro sc5 y5_3 y5_4 hIc5 hFc5  mm5
      refine gg_w (M := 1 + k5 * 147601 + 147601) gws ?_
      have ct26 : ∀ (k26 : Nat) (sc26 : GS) (y26_3 : Int32) (y26_5 : Int32) (y26_6 : Int32), Inv sc26 → Fr fm_199_49_2 s sc26 → (In y26_5 0 31) → (In y26_6 0 160) → ((y5_4).toInt ≠ 0) → 160 - (y26_6).toInt < (k26 : Int) → GG Z (d - 1) 199 post (gx xp) (1 + k5 * 147601 + 1 + k26 * 900) 26 (fun j => xlook j [(0, .ref (A 49)), (1, .ref (A 2)), (2, .int x2), (3, .int y26_3), (4, .int y5_4), (5, .int y26_5), (6, .int y26_6)]) [] (WW Z A sc26 ++ ex) 0 0 := by
        intro k26
        induction k26 with
        | zero => intro sc26 y26_3 y26_5 y26_6 hIc26 hFc26 j26_5 j26_6 nz26_4 mm26; exact m_no mm26 j26_6 rfl
        | succ k26 ih26 =>
          intro sc26 y26_3 y26_5 y26_6 hIc26 hFc26 j26_5 j26_6 nz26_4 mm26
          refine gg_w (M := 1 + k5 * 147601 + 1 + k26 * 900 + 900) gws ?_
          refine g_iload 28 (gd rfl) rfl rfl ?_
          refine g_aload_n 29 (gd rfl) rfl rfl ?_
          refine g_getA (q2 := 14) 32 (gd rfl) rfl rfl rfl rfl ?_
          refine g_iload 34 (gd rfl) rfl rfl ?_
          refine g_iconst 1 35 (gd rfl) rfl rfl ?_
          refine g_iadd 36 (gd rfl) rfl (fun z35 e35 => ?_)
          have i35 := in_add 1 32 e35 j26_5 (in_c 1 rfl) rfl rfl
          refine g_iaload 37 (gd rfl) rfl (n := 33) rfl (in_ix i35 rfl) (fun z36 e36 => ?_)
          have i36 := inv_I hIc26 (n := 33) (t := 0) 0 160 rfl (in_ix i35 rfl) rfl e36
          refine g_cmp_ge 40 117 (gd rfl) rfl rfl (fun c37 => ?_) (fun c37 => ?_)
          · skip
            refine g_iload 119 (gd rfl) rfl rfl ?_
            refine g_iload 121 (gd rfl) rfl rfl ?_
            refine g_iconst 1 122 (gd rfl) rfl rfl ?_
            refine g_isub 123 (gd rfl) rfl (fun z122 e122 => ?_)
            refine g_iand 124 (gd rfl) rfl (fun z123 e123 => ?_)
            refine g_istore 126 (gd rfl) rfl (Nat.le_of_ble_eq_true rfl) ?_
            refine g_goto 5 (gd rfl) rfl ?_
            exact gg_w (by first | exact Nat.le_add_right _ _ | exact gw2 | exact gw3 | exact gwe rfl | exact gwf rfl | exact gwg rfl | exact gwh rfl | omega) (gg_f (gf_cons rfl (gf_cons rfl (gf_cons rfl (gf_cons rfl (gf_cons rfl gf_nil))))) (ih5 sc26 y26_3 z123 hIc26 hFc26  (mb e123 e122 nz26_4 mm5)))
          · skip
            have i37 := r_lt1 0 159 c37 j26_6 i36 rfl
            have i37a := r_lt2 1 160 c37 j26_6 i36 rfl
            refine g_aload_n 41 (gd rfl) rfl rfl ?_
            refine g_getA (q2 := 15) 44 (gd rfl) rfl rfl rfl rfl ?_
            refine g_iload 46 (gd rfl) rfl rfl ?_
            refine g_iaload 47 (gd rfl) rfl (n := 160) rfl (in_ix i37 rfl) (fun z46 e46 => ?_)
            have i46 := inv_I hIc26 (n := 160) (t := 0) 0 159 rfl (in_ix i37 rfl) rfl e46
            refine g_istore 49 (gd rfl) rfl (Nat.le_of_ble_eq_true rfl) ?_
            refine g_aload_n 50 (gd rfl) rfl rfl ?_
            refine g_getA (q2 := 4) 53 (gd rfl) rfl rfl rfl rfl ?_
            refine g_iload 55 (gd rfl) rfl rfl ?_
            refine g_iaload 56 (gd rfl) rfl (n := 160) rfl (in_ix i46 rfl) (fun z55 e55 => ?_)
            have i55 := inv_I hIc26 (n := 160) (t := 0) (-1) 31 rfl (in_ix i46 rfl) rfl e55
            have i56 : In z55 0 31 := by exact tg_b (b := 2) hIc26.2.1 rfl rfl rfl rfl rfl (by rw [← (show u_2_4 = sc26.2.2.1 2 4 from fr_F e_2_4 hFc26 rfl), ← (show u_2_0 = sc26.2.2.1 2 0 from fr_F e_2_0 hFc26 rfl)]; exact p_0) e36 i35 i37 c37 e46 e55 i55
            refine g_istore 58 (gd rfl) rfl (Nat.le_of_ble_eq_true rfl) ?_
            refine g_aload_n 59 (gd rfl) rfl rfl ?_
            refine g_iload 61 (gd rfl) rfl rfl ?_
            refine g_calls (As := [.ref (A 2), .int z46]) (r := []) 64 (gd rfl) rfl rfl rfl rfl rfl (Nat.le_of_ble_eq_true rfl) (mc := 0) (ms := 0) (Nat.zero_le _) (Nat.zero_le _) (P := fun v u => _) ?_ (fun v u h => h)
            intro po61 xx61 hp61 hx61
            refine g_enter2 (k := 197) (N := 300) (by first | exact dq1 hd rfl | exact dq0 hd rfl | exact dq2 hd rfl | exact dq3 hd rfl | omega) rfl (Nat.le_of_ble_eq_true rfl) ?_
            refine g_aload_n 1 (gd rfl) rfl rfl ?_
            refine g_getA (q2 := 6) 4 (gd rfl) rfl rfl rfl rfl ?_
            refine g_iload_n 5 (gd rfl) rfl rfl ?_
            refine g_iaload 6 (gd rfl) rfl (n := 160) rfl (in_ix i46 rfl) (fun z61x5 e61x5 => ?_)
            have i61x5 := inv_I hIc26 (n := 160) (t := 0) (-1000000) 1000000 rfl (in_ix i46 rfl) rfl e61x5
            refine g_i2l 7 (gd rfl) rfl (fun z61x6 e61x6 => ?_)
            have i61x6 := l_i e61x6 i61x5
            refine g_ldc2_w 1024 10 (gd rfl) rfl rfl ?_
            refine g_lmul 11 (gd rfl) rfl (fun z61x10 e61x10 => ?_)
            have i61x10 := l_mulc 1024 (-1024000000) 1024000000 (Or.inr e61x10) i61x6 rfl
            refine g_lconst 1 12 (gd rfl) rfl rfl ?_
            refine g_ladd 13 (gd rfl) rfl (fun z61x12 e61x12 => ?_)
            have i61x12 := l_add (-1023999999) 1024000001 e61x12 i61x10 (l_c 1 rfl) rfl
            refine g_lreturn (gd rfl) rfl (hp61 _ _ ?_)
            show GG _ _ _ _ _ _ _ _ [.long z61x12] _ _ _
            refine g_aload_n 65 (gd rfl) rfl rfl ?_
            refine g_getA (q2 := 50) 68 (gd rfl) rfl rfl rfl rfl ?_
            refine g_iload 70 (gd rfl) rfl rfl ?_
            refine g_laload 71 (gd rfl) rfl (n := 32) rfl (in_ix j26_5 rfl) (fun z70 e70 => ?_)
            refine g_ladd 72 (gd rfl) rfl (fun z71 e71 => ?_)
            refine g_aload_n 73 (gd rfl) rfl rfl ?_
            refine g_getA (q2 := 50) 76 (gd rfl) rfl rfl rfl rfl ?_
            refine g_iload 78 (gd rfl) rfl rfl ?_
            refine g_laload 79 (gd rfl) rfl (n := 32) rfl (in_ix i56 rfl) (fun z78 e78 => ?_)
            refine g_lcmp 80 (gd rfl) rfl (fun z79 e79 => ?_)
            have i79 := lc_in e79
            refine g_if_ge 83 111 (gd rfl) rfl rfl (fun c80 => ?_) (fun c80 => ?_)
            · skip
              have i80 := z_ge 0 1 c80 i79 rfl
              have c80a := lc_ge e79 c80
              refine g_iinc 114 (gd rfl) rfl rfl (Nat.le_of_ble_eq_true rfl) (fun z111 e111 => ?_)
              have i111 := in_add 1 160 e111 i37 (in_c 1 rfl) rfl rfl
              refine g_goto 26 (gd rfl) rfl ?_
              exact gg_w (by first | exact Nat.le_add_right _ _ | exact gw2 | exact gw3 | exact gwe rfl | exact gwf rfl | exact gwg rfl | exact gwh rfl | omega) (gg_f (gf_cons rfl (gf_cons rfl (gf_cons rfl (gf_cons rfl (gf_cons rfl (gf_cons rfl (gf_cons rfl gf_nil))))))) (ih26 sc26 y26_3 y26_5 z111 hIc26 hFc26 (in_w 0 31 j26_5 rfl) (in_w 0 160 i111 rfl) nz26_4 (m_up mm26 (t_add e111 i37 (in_c 1 rfl) rfl) (in_w 1 1 (in_c 1 rfl) rfl))))
            · skip
              have i80 := z_lt (-1) (-1) c80 i79 rfl
              have c80a := lc_lt e79 c80
              have i80a := lr_lt1 (-9223372036854775808) 9223372036854775806 c80a (l_rng z71) (l_rng z78) rfl
              have i80b := lr_lt2 (-9223372036854775807) 9223372036854775807 c80a (l_rng z71) (l_rng z78) rfl
              refine g_aload_n 84 (gd rfl) rfl rfl ?_
              refine g_getA (q2 := 50) 87 (gd rfl) rfl rfl rfl rfl ?_
              refine g_iload 89 (gd rfl) rfl rfl ?_
              refine g_aload_n 90 (gd rfl) rfl rfl ?_
              refine g_iload 92 (gd rfl) rfl rfl ?_
              refine g_calls (As := [.ref (A 2), .int z46]) (r := [.int z55, .ref (A 50)]) 95 (gd rfl) rfl rfl rfl rfl rfl (Nat.le_of_ble_eq_true rfl) (mc := 0) (ms := 0) (Nat.zero_le _) (Nat.zero_le _) (P := fun v u => _) ?_ (fun v u h => h)
              intro po92 xx92 hp92 hx92
              refine g_enter2 (k := 197) (N := 300) (by first | exact dq1 hd rfl | exact dq0 hd rfl | exact dq2 hd rfl | exact dq3 hd rfl | omega) rfl (Nat.le_of_ble_eq_true rfl) ?_
              refine g_aload_n 1 (gd rfl) rfl rfl ?_
              refine g_getA (q2 := 6) 4 (gd rfl) rfl rfl rfl rfl ?_
              refine g_iload_n 5 (gd rfl) rfl rfl ?_
              refine g_iaload 6 (gd rfl) rfl (n := 160) rfl (in_ix i46 rfl) (fun z92x5 e92x5 => ?_)
              have q92x5 : z61x5 = z92x5 := (e61x5).trans e92x5.symm
              subst q92x5
              refine g_i2l 7 (gd rfl) rfl (fun z92x6 e92x6 => ?_)
              have i92x6 := l_i e92x6 i61x5
              refine g_ldc2_w 1024 10 (gd rfl) rfl rfl ?_
              refine g_lmul 11 (gd rfl) rfl (fun z92x10 e92x10 => ?_)
              have i92x10 := l_mulc 1024 (-1024000000) 1024000000 (Or.inr e92x10) i92x6 rfl
              refine g_lconst 1 12 (gd rfl) rfl rfl ?_
              refine g_ladd 13 (gd rfl) rfl (fun z92x12 e92x12 => ?_)
              have i92x12 := l_add (-1023999999) 1024000001 e92x12 i92x10 (l_c 1 rfl) rfl
              refine g_lreturn (gd rfl) rfl (hp92 _ _ ?_)
              show GG _ _ _ _ _ _ _ _ [.long z92x12, .int z55, .ref (A 50)] _ _ _
              refine g_aload_n 96 (gd rfl) rfl rfl ?_
              refine g_getA (q2 := 50) 99 (gd rfl) rfl rfl rfl rfl ?_
              refine g_iload 101 (gd rfl) rfl rfl ?_
              refine g_laload 102 (gd rfl) rfl (n := 32) rfl (in_ix j26_5 rfl) (fun z101 e101 => ?_)
              refine g_ladd 103 (gd rfl) rfl (fun z102 e102 => ?_)
              refine g_lastore 104 (gd rfl) rfl (n := 32) rfl (in_ix i56 rfl) ?_
              have hI103 := inv_sL (q := 50) (j := z55.toNatClampNeg) (x := z102) hIc26 rfl (l_rng z102)
              refine g_iload_n 105 (gd rfl) rfl rfl ?_
              refine g_iconst 1 106 (gd rfl) rfl rfl ?_
              refine g_iload 108 (gd rfl) rfl rfl ?_
              refine g_ishl 109 (gd rfl) rfl (fun z108 e108 => ?_)
              refine g_ior 110 (gd rfl) rfl (fun z109 e109 => ?_)
              refine g_istore_n 111 (gd rfl) rfl (Nat.le_of_ble_eq_true rfl) ?_
              refine g_iinc 114 (gd rfl) rfl rfl (Nat.le_of_ble_eq_true rfl) (fun z111 e111 => ?_)
              have i111 := in_add 1 160 e111 i37 (in_c 1 rfl) rfl rfl
              refine g_goto 26 (gd rfl) rfl ?_
              exact gg_w (by first | exact Nat.le_add_right _ _ | exact gw2 | exact gw3 | exact gwe rfl | exact gwf rfl | exact gwg rfl | exact gwh rfl | omega) (gg_f (gf_cons rfl (gf_cons rfl (gf_cons rfl (gf_cons rfl (gf_cons rfl (gf_cons rfl (gf_cons rfl gf_nil))))))) (ih26 (sL sc26 50 z55.toNatClampNeg z102) z109 y26_5 z111 hI103 (fr_sL rfl hFc26) (in_w 0 31 j26_5 rfl) (in_w 0 160 i111 rfl) nz26_4 (m_up mm26 (t_add e111 i37 (in_c 1 rfl) rfl) (in_w 1 1 (in_c 1 rfl) rfl))))
      refine g_iload 7 (gd rfl) rfl rfl ?_
      refine g_if_eq 10 129 (gd rfl) rfl rfl (fun c7 => ?_) (fun c7 => ?_)
      · skip
        have i7 := z_eq 0 0 c7 (i_rng y5_4) rfl
        refine g_iload_n 130 (gd rfl) rfl rfl ?_
        exact g_ireturn (gd rfl) rfl rfl (hP _ _ ⟨sc5, hIc5, hFc5, y5_3, rfl, rfl, in_w (-2147483648) 2147483647 (i_rng y5_3) rfl⟩)
      · skip
        refine g_iload 12 (gd rfl) rfl rfl ?_
        refine g_calls (As := [.int y5_4]) (r := []) 15 (gd rfl) rfl rfl rfl rfl rfl (Nat.le_of_ble_eq_true rfl) (Nat.zero_le _) (Nat.zero_le _) (k_264n (by first | exact dq1 hd rfl | exact dq0 hd rfl | exact dq2 hd rfl | exact dq3 hd rfl | omega) c7) (fun v u h => ?_)
        obtain ⟨z12, rfl, rfl, i12, hb12, hl12⟩ := h
        show GG _ _ _ _ _ _ _ _ [.int z12] _ _ _
        refine g_istore 17 (gd rfl) rfl (Nat.le_of_ble_eq_true rfl) ?_
        refine g_aload_n 18 (gd rfl) rfl rfl ?_
        refine g_getA (q2 := 14) 21 (gd rfl) rfl rfl rfl rfl ?_
        refine g_iload 23 (gd rfl) rfl rfl ?_
        refine g_iaload 24 (gd rfl) rfl (n := 33) rfl (in_ix i12 rfl) (fun z23 e23 => ?_)
        have i23 := inv_I hIc5 (n := 33) (t := 0) 0 160 rfl (in_ix i12 rfl) rfl e23
        refine g_istore 26 (gd rfl) rfl (Nat.le_of_ble_eq_true rfl) ?_
        exact gg_w (by first | exact Nat.le_add_right _ _ | exact gw2 | exact gw3 | exact gwe rfl | exact gwf rfl | exact gwg rfl | exact gwh rfl | omega) (gg_f (gf_cons rfl (gf_cons rfl (gf_cons rfl (gf_cons rfl (gf_cons rfl (gf_cons rfl (gf_cons rfl gf_nil))))))) (ct26 161 sc5 y5_3 z12 z23 hIc5 hFc5 (in_w 0 31 i12 rfl) (in_w 0 160 i23 rfl) c7 (m_in 161 (in_w 0 160 i23 rfl) rfl)))
  refine g_enter2 (k := 199) (N := 633941467857797) (by first | exact dq1 hd rfl | exact dq0 hd rfl | exact dq2 hd rfl | exact dq3 hd rfl | omega) rfl (Nat.le_of_ble_eq_true rfl) ?_
  refine g_iconst 0 1 (gd rfl) rfl rfl ?_
  refine g_istore_n 2 (gd rfl) rfl (Nat.le_of_ble_eq_true rfl) ?_
  refine g_iload_n 3 (gd rfl) rfl rfl ?_
  refine g_istore 5 (gd rfl) rfl (Nat.le_of_ble_eq_true rfl) ?_
  exact gg_w (by first | exact Nat.le_of_ble_eq_true rfl | omega) (gg_f (gf_cons rfl (gf_cons rfl (gf_cons rfl (gf_cons rfl (gf_cons rfl gf_nil))))) (ct5 4294967296 s (Int32.ofInt 0) x2 hI fr_rf  (mb_in _)))

def fm_199_49_32 : FM := ([], [50], [], [])
/-- GraphHouse$Ways.relax -/
theorem k_199_49_32 {Z : AmZ} {A : Nat → Nat} {s : GS} {ex : va_W} {d : Nat} {X : AmX} {x2 : Int32} {u_32_4 : Int32} {u_32_0 : Int32} (hd : 4 ≤ d) (hI : Inv s) (e_32_4 : u_32_4 = s.2.2.1 32 4) (e_32_0 : u_32_0 = s.2.2.1 32 0) (p_0 : (u_32_4).toInt = (u_32_0).toInt) : GC Z d 199 [.ref (A 49), .ref (A 32), .int x2] (WW Z A s ++ ex) 0 0 (fun v u => ∃ t : GS, Inv t ∧ Fr fm_199_49_32 s t ∧ ∃ z : Int32, v = some (.int z) ∧ u = WW Z A t ++ ex ∧ In z (-2147483648) 2147483647) X := by
  intro post xp hP hX
  have ro_32_4 := inv_F hI (-1) 4000 rfl e_32_4
  have ro_32_0 := inv_F hI 0 4000 rfl e_32_0
  have ct5 : ∀ (k5 : Nat) (sc5 : GS) (y5_3 : Int32) (y5_4 : Int32), Inv sc5 → Fr fm_199_49_32 s sc5 → ((y5_4.toBitVec.toNat : Nat) : Int) < (k5 : Int) → GG Z (d - 1) 199 post (gx xp) (1 + k5 * 147601) 5 (fun j => xlook j [(0, .ref (A 49)), (1, .ref (A 32)), (2, .int x2), (3, .int y5_3), (4, .int y5_4)]) [] (WW Z A sc5 ++ ex) 0 0 := by
    intro k5
    induction k5 with
    | zero => intro sc5 y5_3 y5_4 hIc5 hFc5  mm5; exact absurd mm5 (Int.not_lt.mpr (Int.natCast_nonneg _))
    | succ k5 ih5 =>
      intro sc5 y5_3 y5_4 hIc5 hFc5  mm5
      refine gg_w (M := 1 + k5 * 147601 + 147601) gws ?_
      have ct26 : ∀ (k26 : Nat) (sc26 : GS) (y26_3 : Int32) (y26_5 : Int32) (y26_6 : Int32), Inv sc26 → Fr fm_199_49_32 s sc26 → (In y26_5 0 31) → (In y26_6 0 160) → ((y5_4).toInt ≠ 0) → 160 - (y26_6).toInt < (k26 : Int) → GG Z (d - 1) 199 post (gx xp) (1 + k5 * 147601 + 1 + k26 * 900) 26 (fun j => xlook j [(0, .ref (A 49)), (1, .ref (A 32)), (2, .int x2), (3, .int y26_3), (4, .int y5_4), (5, .int y26_5), (6, .int y26_6)]) [] (WW Z A sc26 ++ ex) 0 0 := by
        intro k26
        induction k26 with
        | zero => intro sc26 y26_3 y26_5 y26_6 hIc26 hFc26 j26_5 j26_6 nz26_4 mm26; exact m_no mm26 j26_6 rfl
        | succ k26 ih26 =>
          intro sc26 y26_3 y26_5 y26_6 hIc26 hFc26 j26_5 j26_6 nz26_4 mm26
          refine gg_w (M := 1 + k5 * 147601 + 1 + k26 * 900 + 900) gws ?_
          refine g_iload 28 (gd rfl) rfl rfl ?_
          refine g_aload_n 29 (gd rfl) rfl rfl ?_
          refine g_getA (q2 := 44) 32 (gd rfl) rfl rfl rfl rfl ?_
          refine g_iload 34 (gd rfl) rfl rfl ?_
          refine g_iconst 1 35 (gd rfl) rfl rfl ?_
          refine g_iadd 36 (gd rfl) rfl (fun z35 e35 => ?_)
          have i35 := in_add 1 32 e35 j26_5 (in_c 1 rfl) rfl rfl
          refine g_iaload 37 (gd rfl) rfl (n := 33) rfl (in_ix i35 rfl) (fun z36 e36 => ?_)
          have i36 := inv_I hIc26 (n := 33) (t := 0) 0 160 rfl (in_ix i35 rfl) rfl e36
          refine g_cmp_ge 40 117 (gd rfl) rfl rfl (fun c37 => ?_) (fun c37 => ?_)
          · skip
            refine g_iload 119 (gd rfl) rfl rfl ?_
            refine g_iload 121 (gd rfl) rfl rfl ?_
            refine g_iconst 1 122 (gd rfl) rfl rfl ?_
            refine g_isub 123 (gd rfl) rfl (fun z122 e122 => ?_)
            refine g_iand 124 (gd rfl) rfl (fun z123 e123 => ?_)
            refine g_istore 126 (gd rfl) rfl (Nat.le_of_ble_eq_true rfl) ?_
            refine g_goto 5 (gd rfl) rfl ?_
            exact gg_w (by first | exact Nat.le_add_right _ _ | exact gw2 | exact gw3 | exact gwe rfl | exact gwf rfl | exact gwg rfl | exact gwh rfl | omega) (gg_f (gf_cons rfl (gf_cons rfl (gf_cons rfl (gf_cons rfl (gf_cons rfl gf_nil))))) (ih5 sc26 y26_3 z123 hIc26 hFc26  (mb e123 e122 nz26_4 mm5)))
          · skip
            have i37 := r_lt1 0 159 c37 j26_6 i36 rfl
            have i37a := r_lt2 1 160 c37 j26_6 i36 rfl
            refine g_aload_n 41 (gd rfl) rfl rfl ?_
            refine g_getA (q2 := 45) 44 (gd rfl) rfl rfl rfl rfl ?_
            refine g_iload 46 (gd rfl) rfl rfl ?_
            refine g_iaload 47 (gd rfl) rfl (n := 160) rfl (in_ix i37 rfl) (fun z46 e46 => ?_)
            have i46 := inv_I hIc26 (n := 160) (t := 0) 0 159 rfl (in_ix i37 rfl) rfl e46
            refine g_istore 49 (gd rfl) rfl (Nat.le_of_ble_eq_true rfl) ?_
            refine g_aload_n 50 (gd rfl) rfl rfl ?_
            refine g_getA (q2 := 34) 53 (gd rfl) rfl rfl rfl rfl ?_
            refine g_iload 55 (gd rfl) rfl rfl ?_
            refine g_iaload 56 (gd rfl) rfl (n := 160) rfl (in_ix i46 rfl) (fun z55 e55 => ?_)
            have i55 := inv_I hIc26 (n := 160) (t := 0) (-1) 31 rfl (in_ix i46 rfl) rfl e55
            have i56 : In z55 0 31 := by exact tg_b (b := 32) hIc26.2.2.1 rfl rfl rfl rfl rfl (by rw [← (show u_32_4 = sc26.2.2.1 32 4 from fr_F e_32_4 hFc26 rfl), ← (show u_32_0 = sc26.2.2.1 32 0 from fr_F e_32_0 hFc26 rfl)]; exact p_0) e36 i35 i37 c37 e46 e55 i55
            refine g_istore 58 (gd rfl) rfl (Nat.le_of_ble_eq_true rfl) ?_
            refine g_aload_n 59 (gd rfl) rfl rfl ?_
            refine g_iload 61 (gd rfl) rfl rfl ?_
            refine g_calls (As := [.ref (A 32), .int z46]) (r := []) 64 (gd rfl) rfl rfl rfl rfl rfl (Nat.le_of_ble_eq_true rfl) (mc := 0) (ms := 0) (Nat.zero_le _) (Nat.zero_le _) (P := fun v u => _) ?_ (fun v u h => h)
            intro po61 xx61 hp61 hx61
            refine g_enter2 (k := 197) (N := 300) (by first | exact dq1 hd rfl | exact dq0 hd rfl | exact dq2 hd rfl | exact dq3 hd rfl | omega) rfl (Nat.le_of_ble_eq_true rfl) ?_
            refine g_aload_n 1 (gd rfl) rfl rfl ?_
            refine g_getA (q2 := 36) 4 (gd rfl) rfl rfl rfl rfl ?_
            refine g_iload_n 5 (gd rfl) rfl rfl ?_
            refine g_iaload 6 (gd rfl) rfl (n := 160) rfl (in_ix i46 rfl) (fun z61x5 e61x5 => ?_)
            have i61x5 := inv_I hIc26 (n := 160) (t := 0) (-1000000) 1000000 rfl (in_ix i46 rfl) rfl e61x5
            refine g_i2l 7 (gd rfl) rfl (fun z61x6 e61x6 => ?_)
            have i61x6 := l_i e61x6 i61x5
            refine g_ldc2_w 1024 10 (gd rfl) rfl rfl ?_
            refine g_lmul 11 (gd rfl) rfl (fun z61x10 e61x10 => ?_)
            have i61x10 := l_mulc 1024 (-1024000000) 1024000000 (Or.inr e61x10) i61x6 rfl
            refine g_lconst 1 12 (gd rfl) rfl rfl ?_
            refine g_ladd 13 (gd rfl) rfl (fun z61x12 e61x12 => ?_)
            have i61x12 := l_add (-1023999999) 1024000001 e61x12 i61x10 (l_c 1 rfl) rfl
            refine g_lreturn (gd rfl) rfl (hp61 _ _ ?_)
            show GG _ _ _ _ _ _ _ _ [.long z61x12] _ _ _
            refine g_aload_n 65 (gd rfl) rfl rfl ?_
            refine g_getA (q2 := 50) 68 (gd rfl) rfl rfl rfl rfl ?_
            refine g_iload 70 (gd rfl) rfl rfl ?_
            refine g_laload 71 (gd rfl) rfl (n := 32) rfl (in_ix j26_5 rfl) (fun z70 e70 => ?_)
            refine g_ladd 72 (gd rfl) rfl (fun z71 e71 => ?_)
            refine g_aload_n 73 (gd rfl) rfl rfl ?_
            refine g_getA (q2 := 50) 76 (gd rfl) rfl rfl rfl rfl ?_
            refine g_iload 78 (gd rfl) rfl rfl ?_
            refine g_laload 79 (gd rfl) rfl (n := 32) rfl (in_ix i56 rfl) (fun z78 e78 => ?_)
            refine g_lcmp 80 (gd rfl) rfl (fun z79 e79 => ?_)
            have i79 := lc_in e79
            refine g_if_ge 83 111 (gd rfl) rfl rfl (fun c80 => ?_) (fun c80 => ?_)
            · skip
              have i80 := z_ge 0 1 c80 i79 rfl
              have c80a := lc_ge e79 c80
              refine g_iinc 114 (gd rfl) rfl rfl (Nat.le_of_ble_eq_true rfl) (fun z111 e111 => ?_)
              have i111 := in_add 1 160 e111 i37 (in_c 1 rfl) rfl rfl
              refine g_goto 26 (gd rfl) rfl ?_
              exact gg_w (by first | exact Nat.le_add_right _ _ | exact gw2 | exact gw3 | exact gwe rfl | exact gwf rfl | exact gwg rfl | exact gwh rfl | omega) (gg_f (gf_cons rfl (gf_cons rfl (gf_cons rfl (gf_cons rfl (gf_cons rfl (gf_cons rfl (gf_cons rfl gf_nil))))))) (ih26 sc26 y26_3 y26_5 z111 hIc26 hFc26 (in_w 0 31 j26_5 rfl) (in_w 0 160 i111 rfl) nz26_4 (m_up mm26 (t_add e111 i37 (in_c 1 rfl) rfl) (in_w 1 1 (in_c 1 rfl) rfl))))
            · skip
              have i80 := z_lt (-1) (-1) c80 i79 rfl
              have c80a := lc_lt e79 c80
              have i80a := lr_lt1 (-9223372036854775808) 9223372036854775806 c80a (l_rng z71) (l_rng z78) rfl
              have i80b := lr_lt2 (-9223372036854775807) 9223372036854775807 c80a (l_rng z71) (l_rng z78) rfl
              refine g_aload_n 84 (gd rfl) rfl rfl ?_
              refine g_getA (q2 := 50) 87 (gd rfl) rfl rfl rfl rfl ?_
              refine g_iload 89 (gd rfl) rfl rfl ?_
              refine g_aload_n 90 (gd rfl) rfl rfl ?_
              refine g_iload 92 (gd rfl) rfl rfl ?_
              refine g_calls (As := [.ref (A 32), .int z46]) (r := [.int z55, .ref (A 50)]) 95 (gd rfl) rfl rfl rfl rfl rfl (Nat.le_of_ble_eq_true rfl) (mc := 0) (ms := 0) (Nat.zero_le _) (Nat.zero_le _) (P := fun v u => _) ?_ (fun v u h => h)
              intro po92 xx92 hp92 hx92
              refine g_enter2 (k := 197) (N := 300) (by first | exact dq1 hd rfl | exact dq0 hd rfl | exact dq2 hd rfl | exact dq3 hd rfl | omega) rfl (Nat.le_of_ble_eq_true rfl) ?_
              refine g_aload_n 1 (gd rfl) rfl rfl ?_
              refine g_getA (q2 := 36) 4 (gd rfl) rfl rfl rfl rfl ?_
              refine g_iload_n 5 (gd rfl) rfl rfl ?_
              refine g_iaload 6 (gd rfl) rfl (n := 160) rfl (in_ix i46 rfl) (fun z92x5 e92x5 => ?_)
              have q92x5 : z61x5 = z92x5 := (e61x5).trans e92x5.symm
              subst q92x5
              refine g_i2l 7 (gd rfl) rfl (fun z92x6 e92x6 => ?_)
              have i92x6 := l_i e92x6 i61x5
              refine g_ldc2_w 1024 10 (gd rfl) rfl rfl ?_
              refine g_lmul 11 (gd rfl) rfl (fun z92x10 e92x10 => ?_)
              have i92x10 := l_mulc 1024 (-1024000000) 1024000000 (Or.inr e92x10) i92x6 rfl
              refine g_lconst 1 12 (gd rfl) rfl rfl ?_
              refine g_ladd 13 (gd rfl) rfl (fun z92x12 e92x12 => ?_)
              have i92x12 := l_add (-1023999999) 1024000001 e92x12 i92x10 (l_c 1 rfl) rfl
              refine g_lreturn (gd rfl) rfl (hp92 _ _ ?_)
              show GG _ _ _ _ _ _ _ _ [.long z92x12, .int z55, .ref (A 50)] _ _ _
              refine g_aload_n 96 (gd rfl) rfl rfl ?_
              refine g_getA (q2 := 50) 99 (gd rfl) rfl rfl rfl rfl ?_
              refine g_iload 101 (gd rfl) rfl rfl ?_
              refine g_laload 102 (gd rfl) rfl (n := 32) rfl (in_ix j26_5 rfl) (fun z101 e101 => ?_)
              refine g_ladd 103 (gd rfl) rfl (fun z102 e102 => ?_)
              refine g_lastore 104 (gd rfl) rfl (n := 32) rfl (in_ix i56 rfl) ?_
              have hI103 := inv_sL (q := 50) (j := z55.toNatClampNeg) (x := z102) hIc26 rfl (l_rng z102)
              refine g_iload_n 105 (gd rfl) rfl rfl ?_
              refine g_iconst 1 106 (gd rfl) rfl rfl ?_
              refine g_iload 108 (gd rfl) rfl rfl ?_
              refine g_ishl 109 (gd rfl) rfl (fun z108 e108 => ?_)
              refine g_ior 110 (gd rfl) rfl (fun z109 e109 => ?_)
              refine g_istore_n 111 (gd rfl) rfl (Nat.le_of_ble_eq_true rfl) ?_
              refine g_iinc 114 (gd rfl) rfl rfl (Nat.le_of_ble_eq_true rfl) (fun z111 e111 => ?_)
              have i111 := in_add 1 160 e111 i37 (in_c 1 rfl) rfl rfl
              refine g_goto 26 (gd rfl) rfl ?_
              exact gg_w (by first | exact Nat.le_add_right _ _ | exact gw2 | exact gw3 | exact gwe rfl | exact gwf rfl | exact gwg rfl | exact gwh rfl | omega) (gg_f (gf_cons rfl (gf_cons rfl (gf_cons rfl (gf_cons rfl (gf_cons rfl (gf_cons rfl (gf_cons rfl gf_nil))))))) (ih26 (sL sc26 50 z55.toNatClampNeg z102) z109 y26_5 z111 hI103 (fr_sL rfl hFc26) (in_w 0 31 j26_5 rfl) (in_w 0 160 i111 rfl) nz26_4 (m_up mm26 (t_add e111 i37 (in_c 1 rfl) rfl) (in_w 1 1 (in_c 1 rfl) rfl))))
      refine g_iload 7 (gd rfl) rfl rfl ?_
      refine g_if_eq 10 129 (gd rfl) rfl rfl (fun c7 => ?_) (fun c7 => ?_)
      · skip
        have i7 := z_eq 0 0 c7 (i_rng y5_4) rfl
        refine g_iload_n 130 (gd rfl) rfl rfl ?_
        exact g_ireturn (gd rfl) rfl rfl (hP _ _ ⟨sc5, hIc5, hFc5, y5_3, rfl, rfl, in_w (-2147483648) 2147483647 (i_rng y5_3) rfl⟩)
      · skip
        refine g_iload 12 (gd rfl) rfl rfl ?_
        refine g_calls (As := [.int y5_4]) (r := []) 15 (gd rfl) rfl rfl rfl rfl rfl (Nat.le_of_ble_eq_true rfl) (Nat.zero_le _) (Nat.zero_le _) (k_264n (by first | exact dq1 hd rfl | exact dq0 hd rfl | exact dq2 hd rfl | exact dq3 hd rfl | omega) c7) (fun v u h => ?_)
        obtain ⟨z12, rfl, rfl, i12, hb12, hl12⟩ := h
        show GG _ _ _ _ _ _ _ _ [.int z12] _ _ _
        refine g_istore 17 (gd rfl) rfl (Nat.le_of_ble_eq_true rfl) ?_
        refine g_aload_n 18 (gd rfl) rfl rfl ?_
        refine g_getA (q2 := 44) 21 (gd rfl) rfl rfl rfl rfl ?_
        refine g_iload 23 (gd rfl) rfl rfl ?_
        refine g_iaload 24 (gd rfl) rfl (n := 33) rfl (in_ix i12 rfl) (fun z23 e23 => ?_)
        have i23 := inv_I hIc5 (n := 33) (t := 0) 0 160 rfl (in_ix i12 rfl) rfl e23
        refine g_istore 26 (gd rfl) rfl (Nat.le_of_ble_eq_true rfl) ?_
        exact gg_w (by first | exact Nat.le_add_right _ _ | exact gw2 | exact gw3 | exact gwe rfl | exact gwf rfl | exact gwg rfl | exact gwh rfl | omega) (gg_f (gf_cons rfl (gf_cons rfl (gf_cons rfl (gf_cons rfl (gf_cons rfl (gf_cons rfl (gf_cons rfl gf_nil))))))) (ct26 161 sc5 y5_3 z12 z23 hIc5 hFc5 (in_w 0 31 i12 rfl) (in_w 0 160 i23 rfl) c7 (m_in 161 (in_w 0 160 i23 rfl) rfl)))
  refine g_enter2 (k := 199) (N := 633941467857797) (by first | exact dq1 hd rfl | exact dq0 hd rfl | exact dq2 hd rfl | exact dq3 hd rfl | omega) rfl (Nat.le_of_ble_eq_true rfl) ?_
  refine g_iconst 0 1 (gd rfl) rfl rfl ?_
  refine g_istore_n 2 (gd rfl) rfl (Nat.le_of_ble_eq_true rfl) ?_
  refine g_iload_n 3 (gd rfl) rfl rfl ?_
  refine g_istore 5 (gd rfl) rfl (Nat.le_of_ble_eq_true rfl) ?_
  exact gg_w (by first | exact Nat.le_of_ble_eq_true rfl | omega) (gg_f (gf_cons rfl (gf_cons rfl (gf_cons rfl (gf_cons rfl (gf_cons rfl gf_nil))))) (ct5 4294967296 s (Int32.ofInt 0) x2 hI fr_rf  (mb_in _)))

/-- GraphHouse$Ways.widestOf -/
theorem k_201_49 {Z : AmZ} {A : Nat → Nat} {s : GS} {ex : va_W} {d : Nat} {X : AmX} {x1 : Int32} (hd : 4 ≤ d) (hI : Inv s) (nza_1 : x1.toInt ≠ 0) : GC Z d 201 [.ref (A 49), .int x1] (WW Z A s ++ ex) 0 0 (fun v u => ∃ z : Int32, v = some (.int z) ∧ u = WW Z A s ++ ex ∧ In z 0 31 ∧ (bt x1 (z).toNatClampNeg = true)) X := by
  intro post xp hP hX
  have ct7 : ∀ (k7 : Nat) (y7_2 : Int32) (y7_3 : Int32), (In y7_2 0 31) → (bt x1 (y7_2).toNatClampNeg = true) → (∀ k, bt y7_3 k = true → bt x1 k = true) → ((y7_3.toBitVec.toNat : Nat) : Int) < (k7 : Int) → GG Z (d - 1) 201 post (gx xp) (1 + k7 * 900) 7 (fun j => xlook j [(0, .ref (A 49)), (1, .int x1), (2, .int y7_2), (3, .int y7_3)]) [] (WW Z A s ++ ex) 0 0 := by
    intro k7
    induction k7 with
    | zero => intro y7_2 y7_3 j7_2 g7_0 g7_1 mm7; exact absurd mm7 (Int.not_lt.mpr (Int.natCast_nonneg _))
    | succ k7 ih7 =>
      intro y7_2 y7_3 j7_2 g7_0 g7_1 mm7
      refine gg_w (M := 1 + k7 * 900 + 900) gws ?_
      refine g_iload_n 8 (gd rfl) rfl rfl ?_
      refine g_if_eq 11 43 (gd rfl) rfl rfl (fun c8 => ?_) (fun c8 => ?_)
      · skip
        have i8 := z_eq 0 0 c8 (i_rng y7_3) rfl
        refine g_iload_n 44 (gd rfl) rfl rfl ?_
        have n44 : bt x1 (y7_2).toNatClampNeg = true := by exact g7_0
        exact g_ireturn (gd rfl) rfl rfl (hP _ _ ⟨y7_2, rfl, rfl, in_w 0 31 j7_2 rfl, n44⟩)
      · skip
        refine g_aload_n 12 (gd rfl) rfl rfl ?_
        refine g_getA (q2 := 51) 15 (gd rfl) rfl rfl rfl rfl ?_
        refine g_iload_n 16 (gd rfl) rfl rfl ?_
        refine g_calls (As := [.int y7_3]) (r := [.ref (A 51)]) 19 (gd rfl) rfl rfl rfl rfl rfl (Nat.le_of_ble_eq_true rfl) (Nat.zero_le _) (Nat.zero_le _) (k_264n (by first | exact dq1 hd rfl | exact dq0 hd rfl | exact dq2 hd rfl | exact dq3 hd rfl | omega) c8) (fun v u h => ?_)
        obtain ⟨z16, rfl, rfl, i16, hb16, hl16⟩ := h
        show GG _ _ _ _ _ _ _ _ [.int z16, .ref (A 51)] _ _ _
        refine g_iaload 20 (gd rfl) rfl (n := 32) rfl (in_ix i16 rfl) (fun z19 e19 => ?_)
        have i19 := inv_I hI (n := 32) (t := 0) (-1) 1000001 rfl (in_ix i16 rfl) rfl e19
        refine g_aload_n 21 (gd rfl) rfl rfl ?_
        refine g_getA (q2 := 51) 24 (gd rfl) rfl rfl rfl rfl ?_
        refine g_iload_n 25 (gd rfl) rfl rfl ?_
        refine g_iaload 26 (gd rfl) rfl (n := 32) rfl (in_ix j7_2 rfl) (fun z25 e25 => ?_)
        have i25 := inv_I hI (n := 32) (t := 0) (-1) 1000001 rfl (in_ix j7_2 rfl) rfl e25
        refine g_cmp_le 29 34 (gd rfl) rfl rfl (fun c26 => ?_) (fun c26 => ?_)
        · skip
          refine g_iload_n 35 (gd rfl) rfl rfl ?_
          refine g_iload_n 36 (gd rfl) rfl rfl ?_
          refine g_iconst 1 37 (gd rfl) rfl rfl ?_
          refine g_isub 38 (gd rfl) rfl (fun z37 e37 => ?_)
          refine g_iand 39 (gd rfl) rfl (fun z38 e38 => ?_)
          refine g_istore_n 40 (gd rfl) rfl (Nat.le_of_ble_eq_true rfl) ?_
          refine g_goto 7 (gd rfl) rfl ?_
          have n7 : bt x1 (y7_2).toNatClampNeg = true := by first | exact hb1 | exact g7_0 | exact g7_1 _ hb30
          have n7a : ∀ k, bt z38 k = true → bt x1 k = true := by first | exact fun k h => h | exact fun k h => g7_1 k (bt_and1 e38 h)
          exact gg_w (by first | exact Nat.le_add_right _ _ | exact gw2 | exact gw3 | exact gwe rfl | exact gwf rfl | exact gwg rfl | exact gwh rfl | omega) (gg_f (gf_cons rfl (gf_cons rfl (gf_cons rfl (gf_cons rfl gf_nil)))) (ih7  y7_2 z38  (in_w 0 31 j7_2 rfl) n7 n7a (mb e38 e37 c8 mm7)))
        · skip
          have i26 := r_lt1 (-1) 1000000 c26 i25 i19 rfl
          have i26a := r_lt2 0 1000001 c26 i25 i19 rfl
          refine g_iload_n 30 (gd rfl) rfl rfl ?_
          refine g_calls (As := [.int y7_3]) (r := []) 33 (gd rfl) rfl rfl rfl rfl rfl (Nat.le_of_ble_eq_true rfl) (Nat.zero_le _) (Nat.zero_le _) (k_264n (by first | exact dq1 hd rfl | exact dq0 hd rfl | exact dq2 hd rfl | exact dq3 hd rfl | omega) c8) (fun v u h => ?_)
          obtain ⟨z30, rfl, rfl, i30, hb30, hl30⟩ := h
          show GG _ _ _ _ _ _ _ _ [.int z30] _ _ _
          refine g_istore_n 34 (gd rfl) rfl (Nat.le_of_ble_eq_true rfl) ?_
          refine g_iload_n 35 (gd rfl) rfl rfl ?_
          refine g_iload_n 36 (gd rfl) rfl rfl ?_
          refine g_iconst 1 37 (gd rfl) rfl rfl ?_
          refine g_isub 38 (gd rfl) rfl (fun z37 e37 => ?_)
          refine g_iand 39 (gd rfl) rfl (fun z38 e38 => ?_)
          refine g_istore_n 40 (gd rfl) rfl (Nat.le_of_ble_eq_true rfl) ?_
          refine g_goto 7 (gd rfl) rfl ?_
          have n7 : bt x1 (z30).toNatClampNeg = true := by first | exact hb1 | exact g7_0 | exact g7_1 _ hb30
          have n7a : ∀ k, bt z38 k = true → bt x1 k = true := by first | exact fun k h => h | exact fun k h => g7_1 k (bt_and1 e38 h)
          exact gg_w (by first | exact Nat.le_add_right _ _ | exact gw2 | exact gw3 | exact gwe rfl | exact gwf rfl | exact gwg rfl | exact gwh rfl | omega) (gg_f (gf_cons rfl (gf_cons rfl (gf_cons rfl (gf_cons rfl gf_nil)))) (ih7  z30 z38  (in_w 0 31 i30 rfl) n7 n7a (mb e38 e37 c8 mm7)))
  refine g_enter2 (k := 201) (N := 3865470567301) (by first | exact dq1 hd rfl | exact dq0 hd rfl | exact dq2 hd rfl | exact dq3 hd rfl | omega) rfl (Nat.le_of_ble_eq_true rfl) ?_
  refine g_iload_n 1 (gd rfl) rfl rfl ?_
  refine g_calls (As := [.int x1]) (r := []) 4 (gd rfl) rfl rfl rfl rfl rfl (Nat.le_of_ble_eq_true rfl) (Nat.zero_le _) (Nat.zero_le _) (k_264n (by first | exact dq1 hd rfl | exact dq0 hd rfl | exact dq2 hd rfl | exact dq3 hd rfl | omega) nza_1) (fun v u h => ?_)
  obtain ⟨z1, rfl, rfl, i1, hb1, hl1⟩ := h
  show GG _ _ _ _ _ _ _ _ [.int z1] _ _ _
  refine g_istore_n 5 (gd rfl) rfl (Nat.le_of_ble_eq_true rfl) ?_
  refine g_iload_n 6 (gd rfl) rfl rfl ?_
  refine g_istore_n 7 (gd rfl) rfl (Nat.le_of_ble_eq_true rfl) ?_
  have n7 : bt x1 (z1).toNatClampNeg = true := by first | exact hb1 | exact g7_0 | exact g7_1 _ hb30
  have n7a : ∀ k, bt x1 k = true → bt x1 k = true := by first | exact fun k h => h | exact fun k h => g7_1 k (bt_and1 e38 h)
  exact gg_w (by first | exact Nat.le_of_ble_eq_true rfl | omega) (gg_f (gf_cons rfl (gf_cons rfl (gf_cons rfl (gf_cons rfl gf_nil)))) (ct7 4294967296  z1 x1  (in_w 0 31 i1 rfl) n7 n7a (mb_in _)))
end
section
/-! methods, by vc.py -/
def fm_204_49_2 : FM := ([9, 10, 11, 12, 13, 14, 15, 52, 54], [53], [(2, 4)], [])
/-- GraphHouse$Ways.spread -/
theorem k_204_49_2 {Z : AmZ} {A : Nat → Nat} {s : GS} {ex : va_W} {d : Nat} {X : AmX} {x2 : Int32} (hd : 4 ≤ d) (hI : Inv s) (h2 : In x2 0 31) : GC Z d 204 [.ref (A 49), .ref (A 2), .int x2] (WW Z A s ++ ex) 0 0 (fun v u => ∃ t : GS, Inv t ∧ Fr fm_204_49_2 s t ∧ v = none ∧ u = WW Z A t ++ ex) X := by
  intro post xp hP hX
  have ct46 : ∀ (k46 : Nat) (sc46 : GS) (y46_3 : Int32) (y46_4 : Int32), Inv sc46 → Fr fm_204_49_2 s sc46 → (In y46_3 1 32) → (In y46_4 0 32) → 32 - (y46_4).toInt < (k46 : Int) → GG Z (d - 1) 204 post (gx xp) (1 + k46 * 147601) 46 (fun j => xlook j [(0, .ref (A 49)), (1, .ref (A 2)), (2, .int x2), (3, .int y46_3), (4, .int y46_4)]) [] (WW Z A sc46 ++ ex) 0 0 := by
    intro k46
    induction k46 with
    | zero => intro sc46 y46_3 y46_4 hIc46 hFc46 j46_3 j46_4 mm46; exact m_no mm46 j46_4 rfl
    | succ k46 ih46 =>
      intro sc46 y46_3 y46_4 hIc46 hFc46 j46_3 j46_4 mm46
      refine gg_w (M := 1 + k46 * 147601 + 147601) gws ?_
      have ct70 : ∀ (k70 : Nat) (sc70 : GS) (y70_3 : Int32) (y70_5 : Int32) (y70_6 : Int32), Inv sc70 → Fr fm_204_49_2 s sc70 → (In y70_3 1 32) → (In y46_4 0 31) → (In y70_5 0 31) → (In y70_6 0 160) → 160 - (y70_6).toInt < (k70 : Int) → GG Z (d - 1) 204 post (gx xp) (1 + k46 * 147601 + 1 + k70 * 900) 70 (fun j => xlook j [(0, .ref (A 49)), (1, .ref (A 2)), (2, .int x2), (3, .int y70_3), (4, .int y46_4), (5, .int y70_5), (6, .int y70_6)]) [] (WW Z A sc70 ++ ex) 0 0 := by
        intro k70
        induction k70 with
        | zero => intro sc70 y70_3 y70_5 y70_6 hIc70 hFc70 j70_3 j70_4 j70_5 j70_6 mm70; exact m_no mm70 j70_6 rfl
        | succ k70 ih70 =>
          intro sc70 y70_3 y70_5 y70_6 hIc70 hFc70 j70_3 j70_4 j70_5 j70_6 mm70
          refine gg_w (M := 1 + k46 * 147601 + 1 + k70 * 900 + 900) gws ?_
          refine g_iload 72 (gd rfl) rfl rfl ?_
          refine g_aload_n 73 (gd rfl) rfl rfl ?_
          refine g_getA (q2 := 12) 76 (gd rfl) rfl rfl rfl rfl ?_
          refine g_iload 78 (gd rfl) rfl rfl ?_
          refine g_iconst 1 79 (gd rfl) rfl rfl ?_
          refine g_iadd 80 (gd rfl) rfl (fun z79 e79 => ?_)
          have i79 := in_add 1 32 e79 j70_5 (in_c 1 rfl) rfl rfl
          refine g_iaload 81 (gd rfl) rfl (n := 33) rfl (in_ix i79 rfl) (fun z80 e80 => ?_)
          have i80 := inv_I hIc70 (n := 33) (t := 0) 0 160 rfl (in_ix i79 rfl) rfl e80
          refine g_cmp_ge 84 193 (gd rfl) rfl rfl (fun c81 => ?_) (fun c81 => ?_)
          · skip
            refine g_iinc 196 (gd rfl) rfl rfl (Nat.le_of_ble_eq_true rfl) (fun z193 e193 => ?_)
            have i193 := in_add 1 32 e193 j70_4 (in_c 1 rfl) rfl rfl
            refine g_goto 46 (gd rfl) rfl ?_
            exact gg_w (by first | exact Nat.le_add_right _ _ | exact gw2 | exact gw3 | exact gwe rfl | exact gwf rfl | exact gwg rfl | exact gwh rfl | omega) (gg_f (gf_cons rfl (gf_cons rfl (gf_cons rfl (gf_cons rfl (gf_cons rfl gf_nil))))) (ih46 sc70 y70_3 z193 hIc70 hFc70 (in_w 1 32 j70_3 rfl) (in_w 0 32 i193 rfl) (m_up mm46 (t_add e193 j70_4 (in_c 1 rfl) rfl) (in_w 1 1 (in_c 1 rfl) rfl))))
          · skip
            have i81 := r_lt1 0 159 c81 j70_6 i80 rfl
            have i81a := r_lt2 1 160 c81 j70_6 i80 rfl
            refine g_aload_n 85 (gd rfl) rfl rfl ?_
            refine g_getA (q2 := 5) 88 (gd rfl) rfl rfl rfl rfl ?_
            refine g_aload_n 89 (gd rfl) rfl rfl ?_
            refine g_getA (q2 := 13) 92 (gd rfl) rfl rfl rfl rfl ?_
            refine g_iload 94 (gd rfl) rfl rfl ?_
            refine g_iaload 95 (gd rfl) rfl (n := 160) rfl (in_ix i81 rfl) (fun z94 e94 => ?_)
            have i94 := inv_I hIc70 (n := 160) (t := 0) 0 159 rfl (in_ix i81 rfl) rfl e94
            refine g_iaload 96 (gd rfl) rfl (n := 160) rfl (in_ix i94 rfl) (fun z95 e95 => ?_)
            have i95 := inv_I hIc70 (n := 160) (t := 0) 0 31 rfl (in_ix i94 rfl) rfl e95
            refine g_istore 98 (gd rfl) rfl (Nat.le_of_ble_eq_true rfl) ?_
            refine g_aload_n 99 (gd rfl) rfl rfl ?_
            refine g_getA (q2 := 52) 102 (gd rfl) rfl rfl rfl rfl ?_
            refine g_iload 104 (gd rfl) rfl rfl ?_
            refine g_iaload 105 (gd rfl) rfl (n := 32) rfl (in_ix i95 rfl) (fun z104 e104 => ?_)
            refine g_iconst (-1) 106 (gd rfl) rfl rfl ?_
            refine g_cmp_ne 109 142 (gd rfl) rfl rfl (fun c106 => ?_) (fun c106 => ?_)
            · skip
              refine g_aload_n 143 (gd rfl) rfl rfl ?_
              refine g_getA (q2 := 52) 146 (gd rfl) rfl rfl rfl rfl ?_
              refine g_iload 148 (gd rfl) rfl rfl ?_
              refine g_iaload 149 (gd rfl) rfl (n := 32) rfl (in_ix i95 rfl) (fun z148 e148 => ?_)
              have q148 : z104 = z148 := (e104).trans e148.symm
              subst q148
              refine g_aload_n 150 (gd rfl) rfl rfl ?_
              refine g_getA (q2 := 52) 153 (gd rfl) rfl rfl rfl rfl ?_
              refine g_iload 155 (gd rfl) rfl rfl ?_
              refine g_iaload 156 (gd rfl) rfl (n := 32) rfl (in_ix j70_5 rfl) (fun z155 e155 => ?_)
              refine g_iconst 1 157 (gd rfl) rfl rfl ?_
              refine g_iadd 158 (gd rfl) rfl (fun z157 e157 => ?_)
              refine g_cmp_ne 161 187 (gd rfl) rfl rfl (fun c158 => ?_) (fun c158 => ?_)
              · skip
                refine g_iinc 190 (gd rfl) rfl rfl (Nat.le_of_ble_eq_true rfl) (fun z187 e187 => ?_)
                have i187 := in_add 1 160 e187 i81 (in_c 1 rfl) rfl rfl
                refine g_goto 70 (gd rfl) rfl ?_
                exact gg_w (by first | exact Nat.le_add_right _ _ | exact gw2 | exact gw3 | exact gwe rfl | exact gwf rfl | exact gwg rfl | exact gwh rfl | omega) (gg_f (gf_cons rfl (gf_cons rfl (gf_cons rfl (gf_cons rfl (gf_cons rfl (gf_cons rfl (gf_cons rfl gf_nil))))))) (ih70 sc70 y70_3 y70_5 z187 hIc70 hFc70 (in_w 1 32 j70_3 rfl) (in_w 0 31 j70_4 rfl) (in_w 0 31 j70_5 rfl) (in_w 0 160 i187 rfl) (m_up mm70 (t_add e187 i81 (in_c 1 rfl) rfl) (in_w 1 1 (in_c 1 rfl) rfl))))
              · skip
                refine g_aload_n 162 (gd rfl) rfl rfl ?_
                refine g_getA (q2 := 53) 165 (gd rfl) rfl rfl rfl rfl ?_
                refine g_iload 167 (gd rfl) rfl rfl ?_
                refine g_aload_n 168 (gd rfl) rfl rfl ?_
                refine g_getA (q2 := 53) 171 (gd rfl) rfl rfl rfl rfl ?_
                refine g_iload 173 (gd rfl) rfl rfl ?_
                refine g_laload 174 (gd rfl) rfl (n := 32) rfl (in_ix i95 rfl) (fun z173 e173 => ?_)
                refine g_aload_n 175 (gd rfl) rfl rfl ?_
                refine g_getA (q2 := 53) 178 (gd rfl) rfl rfl rfl rfl ?_
                refine g_iload 180 (gd rfl) rfl rfl ?_
                refine g_laload 181 (gd rfl) rfl (n := 32) rfl (in_ix j70_5 rfl) (fun z180 e180 => ?_)
                refine g_ladd 182 (gd rfl) rfl (fun z181 e181 => ?_)
                refine g_ldc2_w 1000000007 185 (gd rfl) rfl rfl ?_
                refine g_lrem 186 (gd rfl) rfl (by decide) (fun z185 e185 => ?_)
                have i185 := l_rem (-1000000006) 1000000006 e185 rfl
                refine g_lastore 187 (gd rfl) rfl (n := 32) rfl (in_ix i95 rfl) ?_
                have hI186 := inv_sL (q := 53) (j := z95.toNatClampNeg) (x := z185) hIc70 rfl (l_rng z185)
                refine g_iinc 190 (gd rfl) rfl rfl (Nat.le_of_ble_eq_true rfl) (fun z187 e187 => ?_)
                have i187 := in_add 1 160 e187 i81 (in_c 1 rfl) rfl rfl
                refine g_goto 70 (gd rfl) rfl ?_
                exact gg_w (by first | exact Nat.le_add_right _ _ | exact gw2 | exact gw3 | exact gwe rfl | exact gwf rfl | exact gwg rfl | exact gwh rfl | omega) (gg_f (gf_cons rfl (gf_cons rfl (gf_cons rfl (gf_cons rfl (gf_cons rfl (gf_cons rfl (gf_cons rfl gf_nil))))))) (ih70 (sL sc70 53 z95.toNatClampNeg z185) y70_3 y70_5 z187 hI186 (fr_sL rfl hFc70) (in_w 1 32 j70_3 rfl) (in_w 0 31 j70_4 rfl) (in_w 0 31 j70_5 rfl) (in_w 0 160 i187 rfl) (m_up mm70 (t_add e187 i81 (in_c 1 rfl) rfl) (in_w 1 1 (in_c 1 rfl) rfl))))
            · skip
              have i106 := r_eq1 (-1) (-1) c106 (i_rng z104) (in_c (-1) rfl) rfl
              refine g_iload_n 110 (gd rfl) rfl rfl ?_
              refine g_bipush 32 112 (gd rfl) rfl rfl ?_
              refine g_cmp_ge 115 142 (gd rfl) rfl rfl (fun c112 => ?_) (fun c112 => ?_)
              · skip
                have i112 := r_le2 32 32 c112 (in_c 32 rfl) j70_3 rfl
                refine g_aload_n 143 (gd rfl) rfl rfl ?_
                refine g_getA (q2 := 52) 146 (gd rfl) rfl rfl rfl rfl ?_
                refine g_iload 148 (gd rfl) rfl rfl ?_
                refine g_iaload 149 (gd rfl) rfl (n := 32) rfl (in_ix i95 rfl) (fun z148 e148 => ?_)
                have q148 : z104 = z148 := (e104).trans e148.symm
                subst q148
                refine g_aload_n 150 (gd rfl) rfl rfl ?_
                refine g_getA (q2 := 52) 153 (gd rfl) rfl rfl rfl rfl ?_
                refine g_iload 155 (gd rfl) rfl rfl ?_
                refine g_iaload 156 (gd rfl) rfl (n := 32) rfl (in_ix j70_5 rfl) (fun z155 e155 => ?_)
                refine g_iconst 1 157 (gd rfl) rfl rfl ?_
                refine g_iadd 158 (gd rfl) rfl (fun z157 e157 => ?_)
                refine g_cmp_ne 161 187 (gd rfl) rfl rfl (fun c158 => ?_) (fun c158 => ?_)
                · skip
                  refine g_iinc 190 (gd rfl) rfl rfl (Nat.le_of_ble_eq_true rfl) (fun z187 e187 => ?_)
                  have i187 := in_add 1 160 e187 i81 (in_c 1 rfl) rfl rfl
                  refine g_goto 70 (gd rfl) rfl ?_
                  exact gg_w (by first | exact Nat.le_add_right _ _ | exact gw2 | exact gw3 | exact gwe rfl | exact gwf rfl | exact gwg rfl | exact gwh rfl | omega) (gg_f (gf_cons rfl (gf_cons rfl (gf_cons rfl (gf_cons rfl (gf_cons rfl (gf_cons rfl (gf_cons rfl gf_nil))))))) (ih70 sc70 y70_3 y70_5 z187 hIc70 hFc70 (in_w 1 32 i112 rfl) (in_w 0 31 j70_4 rfl) (in_w 0 31 j70_5 rfl) (in_w 0 160 i187 rfl) (m_up mm70 (t_add e187 i81 (in_c 1 rfl) rfl) (in_w 1 1 (in_c 1 rfl) rfl))))
                · skip
                  have i158 := r_eq2 (-1) (-1) c158 i106 (i_rng z157) rfl
                  refine g_aload_n 162 (gd rfl) rfl rfl ?_
                  refine g_getA (q2 := 53) 165 (gd rfl) rfl rfl rfl rfl ?_
                  refine g_iload 167 (gd rfl) rfl rfl ?_
                  refine g_aload_n 168 (gd rfl) rfl rfl ?_
                  refine g_getA (q2 := 53) 171 (gd rfl) rfl rfl rfl rfl ?_
                  refine g_iload 173 (gd rfl) rfl rfl ?_
                  refine g_laload 174 (gd rfl) rfl (n := 32) rfl (in_ix i95 rfl) (fun z173 e173 => ?_)
                  refine g_aload_n 175 (gd rfl) rfl rfl ?_
                  refine g_getA (q2 := 53) 178 (gd rfl) rfl rfl rfl rfl ?_
                  refine g_iload 180 (gd rfl) rfl rfl ?_
                  refine g_laload 181 (gd rfl) rfl (n := 32) rfl (in_ix j70_5 rfl) (fun z180 e180 => ?_)
                  refine g_ladd 182 (gd rfl) rfl (fun z181 e181 => ?_)
                  refine g_ldc2_w 1000000007 185 (gd rfl) rfl rfl ?_
                  refine g_lrem 186 (gd rfl) rfl (by decide) (fun z185 e185 => ?_)
                  have i185 := l_rem (-1000000006) 1000000006 e185 rfl
                  refine g_lastore 187 (gd rfl) rfl (n := 32) rfl (in_ix i95 rfl) ?_
                  have hI186 := inv_sL (q := 53) (j := z95.toNatClampNeg) (x := z185) hIc70 rfl (l_rng z185)
                  refine g_iinc 190 (gd rfl) rfl rfl (Nat.le_of_ble_eq_true rfl) (fun z187 e187 => ?_)
                  have i187 := in_add 1 160 e187 i81 (in_c 1 rfl) rfl rfl
                  refine g_goto 70 (gd rfl) rfl ?_
                  exact gg_w (by first | exact Nat.le_add_right _ _ | exact gw2 | exact gw3 | exact gwe rfl | exact gwf rfl | exact gwg rfl | exact gwh rfl | omega) (gg_f (gf_cons rfl (gf_cons rfl (gf_cons rfl (gf_cons rfl (gf_cons rfl (gf_cons rfl (gf_cons rfl gf_nil))))))) (ih70 (sL sc70 53 z95.toNatClampNeg z185) y70_3 y70_5 z187 hI186 (fr_sL rfl hFc70) (in_w 1 32 i112 rfl) (in_w 0 31 j70_4 rfl) (in_w 0 31 j70_5 rfl) (in_w 0 160 i187 rfl) (m_up mm70 (t_add e187 i81 (in_c 1 rfl) rfl) (in_w 1 1 (in_c 1 rfl) rfl))))
              · skip
                have i112 := r_lt1 1 31 c112 j70_3 (in_c 32 rfl) rfl
                refine g_aload_n 116 (gd rfl) rfl rfl ?_
                refine g_getA (q2 := 52) 119 (gd rfl) rfl rfl rfl rfl ?_
                refine g_iload 121 (gd rfl) rfl rfl ?_
                refine g_aload_n 122 (gd rfl) rfl rfl ?_
                refine g_getA (q2 := 52) 125 (gd rfl) rfl rfl rfl rfl ?_
                refine g_iload 127 (gd rfl) rfl rfl ?_
                refine g_iaload 128 (gd rfl) rfl (n := 32) rfl (in_ix j70_5 rfl) (fun z127 e127 => ?_)
                refine g_iconst 1 129 (gd rfl) rfl rfl ?_
                refine g_iadd 130 (gd rfl) rfl (fun z129 e129 => ?_)
                refine g_iastore 131 (gd rfl) rfl (n := 32) rfl (in_ix i95 rfl) ?_
                have hI130 := inv_sI (q := 52) (j := z95.toNatClampNeg) hIc70 rfl (in_w (-2147483648) 2147483647 (i_rng z129) rfl)
                refine g_aload_n 132 (gd rfl) rfl rfl ?_
                refine g_getA (q2 := 54) 135 (gd rfl) rfl rfl rfl rfl ?_
                refine g_iload_n 136 (gd rfl) rfl rfl ?_
                refine g_iload 138 (gd rfl) rfl rfl ?_
                refine g_iastore 139 (gd rfl) rfl (n := 32) rfl (in_ix i112 rfl) ?_
                have hI138 := inv_sI (q := 54) (j := y70_3.toNatClampNeg) hI130 rfl (in_w 0 31 i95 rfl)
                refine g_iinc 142 (gd rfl) rfl rfl (Nat.le_of_ble_eq_true rfl) (fun z139 e139 => ?_)
                have i139 := in_add 2 32 e139 i112 (in_c 1 rfl) rfl rfl
                refine g_aload_n 143 (gd rfl) rfl rfl ?_
                refine g_getA (q2 := 52) 146 (gd rfl) rfl rfl rfl rfl ?_
                refine g_iload 148 (gd rfl) rfl rfl ?_
                refine g_iaload 149 (gd rfl) rfl (n := 32) rfl (in_ix i95 rfl) (fun z148 e148 => ?_)
                have q148 : z129 = z148 := (sI_ne rfl (sI_get)).trans e148.symm
                subst q148
                refine g_aload_n 150 (gd rfl) rfl rfl ?_
                refine g_getA (q2 := 52) 153 (gd rfl) rfl rfl rfl rfl ?_
                refine g_iload 155 (gd rfl) rfl rfl ?_
                refine g_iaload 156 (gd rfl) rfl (n := 32) rfl (in_ix j70_5 rfl) (fun z155 e155 => ?_)
                refine g_iconst 1 157 (gd rfl) rfl rfl ?_
                refine g_iadd 158 (gd rfl) rfl (fun z157 e157 => ?_)
                refine g_cmp_ne 161 187 (gd rfl) rfl rfl (fun c158 => ?_) (fun c158 => ?_)
                · skip
                  refine g_iinc 190 (gd rfl) rfl rfl (Nat.le_of_ble_eq_true rfl) (fun z187 e187 => ?_)
                  have i187 := in_add 1 160 e187 i81 (in_c 1 rfl) rfl rfl
                  refine g_goto 70 (gd rfl) rfl ?_
                  exact gg_w (by first | exact Nat.le_add_right _ _ | exact gw2 | exact gw3 | exact gwe rfl | exact gwf rfl | exact gwg rfl | exact gwh rfl | omega) (gg_f (gf_cons rfl (gf_cons rfl (gf_cons rfl (gf_cons rfl (gf_cons rfl (gf_cons rfl (gf_cons rfl gf_nil))))))) (ih70 (sI (sI sc70 52 z95.toNatClampNeg z129) 54 y70_3.toNatClampNeg z95) z139 y70_5 z187 hI138 (fr_sI rfl (fr_sI rfl hFc70)) (in_w 1 32 i139 rfl) (in_w 0 31 j70_4 rfl) (in_w 0 31 j70_5 rfl) (in_w 0 160 i187 rfl) (m_up mm70 (t_add e187 i81 (in_c 1 rfl) rfl) (in_w 1 1 (in_c 1 rfl) rfl))))
                · skip
                  refine g_aload_n 162 (gd rfl) rfl rfl ?_
                  refine g_getA (q2 := 53) 165 (gd rfl) rfl rfl rfl rfl ?_
                  refine g_iload 167 (gd rfl) rfl rfl ?_
                  refine g_aload_n 168 (gd rfl) rfl rfl ?_
                  refine g_getA (q2 := 53) 171 (gd rfl) rfl rfl rfl rfl ?_
                  refine g_iload 173 (gd rfl) rfl rfl ?_
                  refine g_laload 174 (gd rfl) rfl (n := 32) rfl (in_ix i95 rfl) (fun z173 e173 => ?_)
                  refine g_aload_n 175 (gd rfl) rfl rfl ?_
                  refine g_getA (q2 := 53) 178 (gd rfl) rfl rfl rfl rfl ?_
                  refine g_iload 180 (gd rfl) rfl rfl ?_
                  refine g_laload 181 (gd rfl) rfl (n := 32) rfl (in_ix j70_5 rfl) (fun z180 e180 => ?_)
                  refine g_ladd 182 (gd rfl) rfl (fun z181 e181 => ?_)
                  refine g_ldc2_w 1000000007 185 (gd rfl) rfl rfl ?_
                  refine g_lrem 186 (gd rfl) rfl (by decide) (fun z185 e185 => ?_)
                  have i185 := l_rem (-1000000006) 1000000006 e185 rfl
                  refine g_lastore 187 (gd rfl) rfl (n := 32) rfl (in_ix i95 rfl) ?_
                  have hI186 := inv_sL (q := 53) (j := z95.toNatClampNeg) (x := z185) hI138 rfl (l_rng z185)
                  refine g_iinc 190 (gd rfl) rfl rfl (Nat.le_of_ble_eq_true rfl) (fun z187 e187 => ?_)
                  have i187 := in_add 1 160 e187 i81 (in_c 1 rfl) rfl rfl
                  refine g_goto 70 (gd rfl) rfl ?_
                  exact gg_w (by first | exact Nat.le_add_right _ _ | exact gw2 | exact gw3 | exact gwe rfl | exact gwf rfl | exact gwg rfl | exact gwh rfl | omega) (gg_f (gf_cons rfl (gf_cons rfl (gf_cons rfl (gf_cons rfl (gf_cons rfl (gf_cons rfl (gf_cons rfl gf_nil))))))) (ih70 (sL (sI (sI sc70 52 z95.toNatClampNeg z129) 54 y70_3.toNatClampNeg z95) 53 z95.toNatClampNeg z185) z139 y70_5 z187 hI186 (fr_sL rfl (fr_sI rfl (fr_sI rfl hFc70))) (in_w 1 32 i139 rfl) (in_w 0 31 j70_4 rfl) (in_w 0 31 j70_5 rfl) (in_w 0 160 i187 rfl) (m_up mm70 (t_add e187 i81 (in_c 1 rfl) rfl) (in_w 1 1 (in_c 1 rfl) rfl))))
      refine g_iload 48 (gd rfl) rfl rfl ?_
      refine g_iload_n 49 (gd rfl) rfl rfl ?_
      refine g_cmp_ge 52 199 (gd rfl) rfl rfl (fun c49 => ?_) (fun c49 => ?_)
      · skip
        have i49 := r_le2 1 32 c49 j46_3 j46_4 rfl
        exact g_return (gd rfl) rfl (hP _ _ ⟨sc46, hIc46, hFc46, rfl, rfl⟩)
      · skip
        have i49 := r_lt1 0 31 c49 j46_4 j46_3 rfl
        refine g_aload_n 53 (gd rfl) rfl rfl ?_
        refine g_getA (q2 := 54) 56 (gd rfl) rfl rfl rfl rfl ?_
        refine g_iload 58 (gd rfl) rfl rfl ?_
        refine g_iaload 59 (gd rfl) rfl (n := 32) rfl (in_ix i49 rfl) (fun z58 e58 => ?_)
        have i58 := inv_I hIc46 (n := 32) (t := 0) 0 31 rfl (in_ix i49 rfl) rfl e58
        refine g_istore 61 (gd rfl) rfl (Nat.le_of_ble_eq_true rfl) ?_
        refine g_aload_n 62 (gd rfl) rfl rfl ?_
        refine g_getA (q2 := 12) 65 (gd rfl) rfl rfl rfl rfl ?_
        refine g_iload 67 (gd rfl) rfl rfl ?_
        refine g_iaload 68 (gd rfl) rfl (n := 33) rfl (in_ix i58 rfl) (fun z67 e67 => ?_)
        have i67 := inv_I hIc46 (n := 33) (t := 0) 0 160 rfl (in_ix i58 rfl) rfl e67
        refine g_istore 70 (gd rfl) rfl (Nat.le_of_ble_eq_true rfl) ?_
        exact gg_w (by first | exact Nat.le_add_right _ _ | exact gw2 | exact gw3 | exact gwe rfl | exact gwf rfl | exact gwg rfl | exact gwh rfl | omega) (gg_f (gf_cons rfl (gf_cons rfl (gf_cons rfl (gf_cons rfl (gf_cons rfl (gf_cons rfl (gf_cons rfl gf_nil))))))) (ct70 161 sc46 y46_3 z58 z67 hIc46 hFc46 (in_w 1 32 j46_3 rfl) (in_w 0 31 i49 rfl) (in_w 0 31 i58 rfl) (in_w 0 160 i67 rfl) (m_in 161 (in_w 0 160 i67 rfl) rfl)))
  refine g_enter2 (k := 204) (N := 4871734) (by first | exact dq1 hd rfl | exact dq0 hd rfl | exact dq2 hd rfl | exact dq3 hd rfl | omega) rfl (Nat.le_of_ble_eq_true rfl) ?_
  refine g_aload_n 1 (gd rfl) rfl rfl ?_
  refine g_callv (X := _) (As := []) (r := []) (b := A 2) (q := 2) 4 (gd rfl) rfl rfl rfl rfl rfl (ww_o rfl) (Nat.le_of_ble_eq_true rfl) (Nat.zero_le _) (Nat.zero_le _) (k_106_2 (by first | exact dq1 hd rfl | exact dq0 hd rfl | exact dq2 hd rfl | exact dq3 hd rfl | omega) hI ) (fun e u h => h) (fun v u h => ?_)
  obtain ⟨s1, hI1, hF1, n1, rfl, rfl⟩ := h
  obtain ⟨z1a, e1⟩ : ∃ w, w = s1.2.2.1 2 4 := ⟨_, rfl⟩
  have i1a := inv_F hI1 (-1) 4000 rfl e1
  obtain ⟨z1b, e1a⟩ : ∃ w, w = s1.2.2.1 2 0 := ⟨_, rfl⟩
  have i1b := inv_F hI1 0 4000 rfl e1a
  rw [← (show z1a = s1.2.2.1 2 4 from e1)] at n1
  rw [← (show z1b = s1.2.2.1 2 0 from e1a)] at n1
  show GG _ _ _ _ _ _ _ _ [] _ _ _
  refine g_aload_n 5 (gd rfl) rfl rfl ?_
  refine g_getA (q2 := 52) 8 (gd rfl) rfl rfl rfl rfl ?_
  refine g_iconst (-1) 9 (gd rfl) rfl rfl ?_
  refine g_calls (As := [.ref (A 52), .int (Int32.ofInt (-1))]) (r := []) 12 (gd rfl) rfl rfl rfl rfl rfl (Nat.le_of_ble_eq_true rfl) (Nat.zero_le _) (Nat.zero_le _) (k_fillI 52 (by first | exact dq1 hd rfl | exact dq0 hd rfl | exact dq2 hd rfl | exact dq3 hd rfl | omega) hI1 (in_c (-1) rfl) (n := 32) rfl rfl rfl rfl) (fun v u h => ?_)
  obtain ⟨s9, hI9, hF9, rfl, rfl, fl9⟩ := h
  show GG _ _ _ _ _ _ _ _ [] _ _ _
  refine g_aload_n 13 (gd rfl) rfl rfl ?_
  refine g_getA (q2 := 53) 16 (gd rfl) rfl rfl rfl rfl ?_
  refine g_lconst 0 17 (gd rfl) rfl rfl ?_
  refine g_calls (As := [.ref (A 53), .long (Int64.ofInt 0)]) (r := []) 20 (gd rfl) rfl rfl rfl rfl rfl (Nat.le_of_ble_eq_true rfl) (Nat.zero_le _) (Nat.zero_le _) (k_fillL 53 (by first | exact dq1 hd rfl | exact dq0 hd rfl | exact dq2 hd rfl | exact dq3 hd rfl | omega) hI9 (n := 32) rfl rfl rfl (l_rng (Int64.ofInt 0))) (fun v u h => ?_)
  obtain ⟨s17, hI17, hF17, rfl, rfl, fl17⟩ := h
  show GG _ _ _ _ _ _ _ _ [] _ _ _
  refine g_aload_n 21 (gd rfl) rfl rfl ?_
  refine g_getA (q2 := 52) 24 (gd rfl) rfl rfl rfl rfl ?_
  refine g_iload_n 25 (gd rfl) rfl rfl ?_
  refine g_iconst 0 26 (gd rfl) rfl rfl ?_
  refine g_iastore 27 (gd rfl) rfl (n := 32) rfl (in_ix h2 rfl) ?_
  have hI26 := inv_sI (q := 52) (j := x2.toNatClampNeg) hI17 rfl (in_w (-2147483648) 2147483647 (in_c 0 rfl) rfl)
  refine g_aload_n 28 (gd rfl) rfl rfl ?_
  refine g_getA (q2 := 53) 31 (gd rfl) rfl rfl rfl rfl ?_
  refine g_iload_n 32 (gd rfl) rfl rfl ?_
  refine g_lconst 1 33 (gd rfl) rfl rfl ?_
  refine g_lastore 34 (gd rfl) rfl (n := 32) rfl (in_ix h2 rfl) ?_
  have hI33 := inv_sL (q := 53) (j := x2.toNatClampNeg) (x := (Int64.ofInt 1)) hI26 rfl (l_rng (Int64.ofInt 1))
  refine g_aload_n 35 (gd rfl) rfl rfl ?_
  refine g_getA (q2 := 54) 38 (gd rfl) rfl rfl rfl rfl ?_
  refine g_iconst 0 39 (gd rfl) rfl rfl ?_
  refine g_iload_n 40 (gd rfl) rfl rfl ?_
  refine g_iastore 41 (gd rfl) rfl (n := 32) rfl (in_ix (in_c 0 rfl) rfl) ?_
  have hI40 := inv_sI (q := 54) (j := (Int32.ofInt 0).toNatClampNeg) hI33 rfl (in_w 0 31 h2 rfl)
  refine g_iconst 1 42 (gd rfl) rfl rfl ?_
  refine g_istore_n 43 (gd rfl) rfl (Nat.le_of_ble_eq_true rfl) ?_
  refine g_iconst 0 44 (gd rfl) rfl rfl ?_
  refine g_istore 46 (gd rfl) rfl (Nat.le_of_ble_eq_true rfl) ?_
  exact gg_w (by first | exact Nat.le_of_ble_eq_true rfl | omega) (gg_f (gf_cons rfl (gf_cons rfl (gf_cons rfl (gf_cons rfl (gf_cons rfl gf_nil))))) (ct46 33 (sI (sL (sI s17 52 x2.toNatClampNeg (Int32.ofInt 0)) 53 x2.toNatClampNeg (Int64.ofInt 1)) 54 (Int32.ofInt 0).toNatClampNeg x2) (Int32.ofInt 1) (Int32.ofInt 0) hI40 (fr_sI rfl (fr_sL rfl (fr_sI rfl (fr_tr rfl (fr_tr rfl (fr_tr rfl fr_rf hF1) hF9) hF17)))) (in_w 1 32 (in_c 1 rfl) rfl) (in_w 0 32 (in_c 0 rfl) rfl) (m_in 33 (in_w 0 32 (in_c 0 rfl) rfl) rfl)))

def fm_204_49_32 : FM := ([39, 40, 41, 42, 43, 44, 45, 52, 54], [53], [(32, 4)], [])
/-- GraphHouse$Ways.spread -/
theorem k_204_49_32 {Z : AmZ} {A : Nat → Nat} {s : GS} {ex : va_W} {d : Nat} {X : AmX} {x2 : Int32} (hd : 4 ≤ d) (hI : Inv s) (h2 : In x2 0 31) : GC Z d 204 [.ref (A 49), .ref (A 32), .int x2] (WW Z A s ++ ex) 0 0 (fun v u => ∃ t : GS, Inv t ∧ Fr fm_204_49_32 s t ∧ v = none ∧ u = WW Z A t ++ ex) X := by
  intro post xp hP hX
  have ct46 : ∀ (k46 : Nat) (sc46 : GS) (y46_3 : Int32) (y46_4 : Int32), Inv sc46 → Fr fm_204_49_32 s sc46 → (In y46_3 1 32) → (In y46_4 0 32) → 32 - (y46_4).toInt < (k46 : Int) → GG Z (d - 1) 204 post (gx xp) (1 + k46 * 147601) 46 (fun j => xlook j [(0, .ref (A 49)), (1, .ref (A 32)), (2, .int x2), (3, .int y46_3), (4, .int y46_4)]) [] (WW Z A sc46 ++ ex) 0 0 := by
    intro k46
    induction k46 with
    | zero => intro sc46 y46_3 y46_4 hIc46 hFc46 j46_3 j46_4 mm46; exact m_no mm46 j46_4 rfl
    | succ k46 ih46 =>
      intro sc46 y46_3 y46_4 hIc46 hFc46 j46_3 j46_4 mm46
      refine gg_w (M := 1 + k46 * 147601 + 147601) gws ?_
      have ct70 : ∀ (k70 : Nat) (sc70 : GS) (y70_3 : Int32) (y70_5 : Int32) (y70_6 : Int32), Inv sc70 → Fr fm_204_49_32 s sc70 → (In y70_3 1 32) → (In y46_4 0 31) → (In y70_5 0 31) → (In y70_6 0 160) → 160 - (y70_6).toInt < (k70 : Int) → GG Z (d - 1) 204 post (gx xp) (1 + k46 * 147601 + 1 + k70 * 900) 70 (fun j => xlook j [(0, .ref (A 49)), (1, .ref (A 32)), (2, .int x2), (3, .int y70_3), (4, .int y46_4), (5, .int y70_5), (6, .int y70_6)]) [] (WW Z A sc70 ++ ex) 0 0 := by
        intro k70
        induction k70 with
        | zero => intro sc70 y70_3 y70_5 y70_6 hIc70 hFc70 j70_3 j70_4 j70_5 j70_6 mm70; exact m_no mm70 j70_6 rfl
        | succ k70 ih70 =>
          intro sc70 y70_3 y70_5 y70_6 hIc70 hFc70 j70_3 j70_4 j70_5 j70_6 mm70
          refine gg_w (M := 1 + k46 * 147601 + 1 + k70 * 900 + 900) gws ?_
          refine g_iload 72 (gd rfl) rfl rfl ?_
          refine g_aload_n 73 (gd rfl) rfl rfl ?_
          refine g_getA (q2 := 42) 76 (gd rfl) rfl rfl rfl rfl ?_
          refine g_iload 78 (gd rfl) rfl rfl ?_
          refine g_iconst 1 79 (gd rfl) rfl rfl ?_
          refine g_iadd 80 (gd rfl) rfl (fun z79 e79 => ?_)
          have i79 := in_add 1 32 e79 j70_5 (in_c 1 rfl) rfl rfl
          refine g_iaload 81 (gd rfl) rfl (n := 33) rfl (in_ix i79 rfl) (fun z80 e80 => ?_)
          have i80 := inv_I hIc70 (n := 33) (t := 0) 0 160 rfl (in_ix i79 rfl) rfl e80
          refine g_cmp_ge 84 193 (gd rfl) rfl rfl (fun c81 => ?_) (fun c81 => ?_)
          · skip
            refine g_iinc 196 (gd rfl) rfl rfl (Nat.le_of_ble_eq_true rfl) (fun z193 e193 => ?_)
            have i193 := in_add 1 32 e193 j70_4 (in_c 1 rfl) rfl rfl
            refine g_goto 46 (gd rfl) rfl ?_
            exact gg_w (by first | exact Nat.le_add_right _ _ | exact gw2 | exact gw3 | exact gwe rfl | exact gwf rfl | exact gwg rfl | exact gwh rfl | omega) (gg_f (gf_cons rfl (gf_cons rfl (gf_cons rfl (gf_cons rfl (gf_cons rfl gf_nil))))) (ih46 sc70 y70_3 z193 hIc70 hFc70 (in_w 1 32 j70_3 rfl) (in_w 0 32 i193 rfl) (m_up mm46 (t_add e193 j70_4 (in_c 1 rfl) rfl) (in_w 1 1 (in_c 1 rfl) rfl))))
          · skip
            have i81 := r_lt1 0 159 c81 j70_6 i80 rfl
            have i81a := r_lt2 1 160 c81 j70_6 i80 rfl
            refine g_aload_n 85 (gd rfl) rfl rfl ?_
            refine g_getA (q2 := 35) 88 (gd rfl) rfl rfl rfl rfl ?_
            refine g_aload_n 89 (gd rfl) rfl rfl ?_
            refine g_getA (q2 := 43) 92 (gd rfl) rfl rfl rfl rfl ?_
            refine g_iload 94 (gd rfl) rfl rfl ?_
            refine g_iaload 95 (gd rfl) rfl (n := 160) rfl (in_ix i81 rfl) (fun z94 e94 => ?_)
            have i94 := inv_I hIc70 (n := 160) (t := 0) 0 159 rfl (in_ix i81 rfl) rfl e94
            refine g_iaload 96 (gd rfl) rfl (n := 160) rfl (in_ix i94 rfl) (fun z95 e95 => ?_)
            have i95 := inv_I hIc70 (n := 160) (t := 0) 0 31 rfl (in_ix i94 rfl) rfl e95
            refine g_istore 98 (gd rfl) rfl (Nat.le_of_ble_eq_true rfl) ?_
            refine g_aload_n 99 (gd rfl) rfl rfl ?_
            refine g_getA (q2 := 52) 102 (gd rfl) rfl rfl rfl rfl ?_
            refine g_iload 104 (gd rfl) rfl rfl ?_
            refine g_iaload 105 (gd rfl) rfl (n := 32) rfl (in_ix i95 rfl) (fun z104 e104 => ?_)
            refine g_iconst (-1) 106 (gd rfl) rfl rfl ?_
            refine g_cmp_ne 109 142 (gd rfl) rfl rfl (fun c106 => ?_) (fun c106 => ?_)
            · skip
              refine g_aload_n 143 (gd rfl) rfl rfl ?_
              refine g_getA (q2 := 52) 146 (gd rfl) rfl rfl rfl rfl ?_
              refine g_iload 148 (gd rfl) rfl rfl ?_
              refine g_iaload 149 (gd rfl) rfl (n := 32) rfl (in_ix i95 rfl) (fun z148 e148 => ?_)
              have q148 : z104 = z148 := (e104).trans e148.symm
              subst q148
              refine g_aload_n 150 (gd rfl) rfl rfl ?_
              refine g_getA (q2 := 52) 153 (gd rfl) rfl rfl rfl rfl ?_
              refine g_iload 155 (gd rfl) rfl rfl ?_
              refine g_iaload 156 (gd rfl) rfl (n := 32) rfl (in_ix j70_5 rfl) (fun z155 e155 => ?_)
              refine g_iconst 1 157 (gd rfl) rfl rfl ?_
              refine g_iadd 158 (gd rfl) rfl (fun z157 e157 => ?_)
              refine g_cmp_ne 161 187 (gd rfl) rfl rfl (fun c158 => ?_) (fun c158 => ?_)
              · skip
                refine g_iinc 190 (gd rfl) rfl rfl (Nat.le_of_ble_eq_true rfl) (fun z187 e187 => ?_)
                have i187 := in_add 1 160 e187 i81 (in_c 1 rfl) rfl rfl
                refine g_goto 70 (gd rfl) rfl ?_
                exact gg_w (by first | exact Nat.le_add_right _ _ | exact gw2 | exact gw3 | exact gwe rfl | exact gwf rfl | exact gwg rfl | exact gwh rfl | omega) (gg_f (gf_cons rfl (gf_cons rfl (gf_cons rfl (gf_cons rfl (gf_cons rfl (gf_cons rfl (gf_cons rfl gf_nil))))))) (ih70 sc70 y70_3 y70_5 z187 hIc70 hFc70 (in_w 1 32 j70_3 rfl) (in_w 0 31 j70_4 rfl) (in_w 0 31 j70_5 rfl) (in_w 0 160 i187 rfl) (m_up mm70 (t_add e187 i81 (in_c 1 rfl) rfl) (in_w 1 1 (in_c 1 rfl) rfl))))
              · skip
                refine g_aload_n 162 (gd rfl) rfl rfl ?_
                refine g_getA (q2 := 53) 165 (gd rfl) rfl rfl rfl rfl ?_
                refine g_iload 167 (gd rfl) rfl rfl ?_
                refine g_aload_n 168 (gd rfl) rfl rfl ?_
                refine g_getA (q2 := 53) 171 (gd rfl) rfl rfl rfl rfl ?_
                refine g_iload 173 (gd rfl) rfl rfl ?_
                refine g_laload 174 (gd rfl) rfl (n := 32) rfl (in_ix i95 rfl) (fun z173 e173 => ?_)
                refine g_aload_n 175 (gd rfl) rfl rfl ?_
                refine g_getA (q2 := 53) 178 (gd rfl) rfl rfl rfl rfl ?_
                refine g_iload 180 (gd rfl) rfl rfl ?_
                refine g_laload 181 (gd rfl) rfl (n := 32) rfl (in_ix j70_5 rfl) (fun z180 e180 => ?_)
                refine g_ladd 182 (gd rfl) rfl (fun z181 e181 => ?_)
                refine g_ldc2_w 1000000007 185 (gd rfl) rfl rfl ?_
                refine g_lrem 186 (gd rfl) rfl (by decide) (fun z185 e185 => ?_)
                have i185 := l_rem (-1000000006) 1000000006 e185 rfl
                refine g_lastore 187 (gd rfl) rfl (n := 32) rfl (in_ix i95 rfl) ?_
                have hI186 := inv_sL (q := 53) (j := z95.toNatClampNeg) (x := z185) hIc70 rfl (l_rng z185)
                refine g_iinc 190 (gd rfl) rfl rfl (Nat.le_of_ble_eq_true rfl) (fun z187 e187 => ?_)
                have i187 := in_add 1 160 e187 i81 (in_c 1 rfl) rfl rfl
                refine g_goto 70 (gd rfl) rfl ?_
                exact gg_w (by first | exact Nat.le_add_right _ _ | exact gw2 | exact gw3 | exact gwe rfl | exact gwf rfl | exact gwg rfl | exact gwh rfl | omega) (gg_f (gf_cons rfl (gf_cons rfl (gf_cons rfl (gf_cons rfl (gf_cons rfl (gf_cons rfl (gf_cons rfl gf_nil))))))) (ih70 (sL sc70 53 z95.toNatClampNeg z185) y70_3 y70_5 z187 hI186 (fr_sL rfl hFc70) (in_w 1 32 j70_3 rfl) (in_w 0 31 j70_4 rfl) (in_w 0 31 j70_5 rfl) (in_w 0 160 i187 rfl) (m_up mm70 (t_add e187 i81 (in_c 1 rfl) rfl) (in_w 1 1 (in_c 1 rfl) rfl))))
            · skip
              have i106 := r_eq1 (-1) (-1) c106 (i_rng z104) (in_c (-1) rfl) rfl
              refine g_iload_n 110 (gd rfl) rfl rfl ?_
              refine g_bipush 32 112 (gd rfl) rfl rfl ?_
              refine g_cmp_ge 115 142 (gd rfl) rfl rfl (fun c112 => ?_) (fun c112 => ?_)
              · skip
                have i112 := r_le2 32 32 c112 (in_c 32 rfl) j70_3 rfl
                refine g_aload_n 143 (gd rfl) rfl rfl ?_
                refine g_getA (q2 := 52) 146 (gd rfl) rfl rfl rfl rfl ?_
                refine g_iload 148 (gd rfl) rfl rfl ?_
                refine g_iaload 149 (gd rfl) rfl (n := 32) rfl (in_ix i95 rfl) (fun z148 e148 => ?_)
                have q148 : z104 = z148 := (e104).trans e148.symm
                subst q148
                refine g_aload_n 150 (gd rfl) rfl rfl ?_
                refine g_getA (q2 := 52) 153 (gd rfl) rfl rfl rfl rfl ?_
                refine g_iload 155 (gd rfl) rfl rfl ?_
                refine g_iaload 156 (gd rfl) rfl (n := 32) rfl (in_ix j70_5 rfl) (fun z155 e155 => ?_)
                refine g_iconst 1 157 (gd rfl) rfl rfl ?_
                refine g_iadd 158 (gd rfl) rfl (fun z157 e157 => ?_)
                refine g_cmp_ne 161 187 (gd rfl) rfl rfl (fun c158 => ?_) (fun c158 => ?_)
                · skip
                  refine g_iinc 190 (gd rfl) rfl rfl (Nat.le_of_ble_eq_true rfl) (fun z187 e187 => ?_)
                  have i187 := in_add 1 160 e187 i81 (in_c 1 rfl) rfl rfl
                  refine g_goto 70 (gd rfl) rfl ?_
                  exact gg_w (by first | exact Nat.le_add_right _ _ | exact gw2 | exact gw3 | exact gwe rfl | exact gwf rfl | exact gwg rfl | exact gwh rfl | omega) (gg_f (gf_cons rfl (gf_cons rfl (gf_cons rfl (gf_cons rfl (gf_cons rfl (gf_cons rfl (gf_cons rfl gf_nil))))))) (ih70 sc70 y70_3 y70_5 z187 hIc70 hFc70 (in_w 1 32 i112 rfl) (in_w 0 31 j70_4 rfl) (in_w 0 31 j70_5 rfl) (in_w 0 160 i187 rfl) (m_up mm70 (t_add e187 i81 (in_c 1 rfl) rfl) (in_w 1 1 (in_c 1 rfl) rfl))))
                · skip
                  have i158 := r_eq2 (-1) (-1) c158 i106 (i_rng z157) rfl
                  refine g_aload_n 162 (gd rfl) rfl rfl ?_
                  refine g_getA (q2 := 53) 165 (gd rfl) rfl rfl rfl rfl ?_
                  refine g_iload 167 (gd rfl) rfl rfl ?_
                  refine g_aload_n 168 (gd rfl) rfl rfl ?_
                  refine g_getA (q2 := 53) 171 (gd rfl) rfl rfl rfl rfl ?_
                  refine g_iload 173 (gd rfl) rfl rfl ?_
                  refine g_laload 174 (gd rfl) rfl (n := 32) rfl (in_ix i95 rfl) (fun z173 e173 => ?_)
                  refine g_aload_n 175 (gd rfl) rfl rfl ?_
                  refine g_getA (q2 := 53) 178 (gd rfl) rfl rfl rfl rfl ?_
                  refine g_iload 180 (gd rfl) rfl rfl ?_
                  refine g_laload 181 (gd rfl) rfl (n := 32) rfl (in_ix j70_5 rfl) (fun z180 e180 => ?_)
                  refine g_ladd 182 (gd rfl) rfl (fun z181 e181 => ?_)
                  refine g_ldc2_w 1000000007 185 (gd rfl) rfl rfl ?_
                  refine g_lrem 186 (gd rfl) rfl (by decide) (fun z185 e185 => ?_)
                  have i185 := l_rem (-1000000006) 1000000006 e185 rfl
                  refine g_lastore 187 (gd rfl) rfl (n := 32) rfl (in_ix i95 rfl) ?_
                  have hI186 := inv_sL (q := 53) (j := z95.toNatClampNeg) (x := z185) hIc70 rfl (l_rng z185)
                  refine g_iinc 190 (gd rfl) rfl rfl (Nat.le_of_ble_eq_true rfl) (fun z187 e187 => ?_)
                  have i187 := in_add 1 160 e187 i81 (in_c 1 rfl) rfl rfl
                  refine g_goto 70 (gd rfl) rfl ?_
                  exact gg_w (by first | exact Nat.le_add_right _ _ | exact gw2 | exact gw3 | exact gwe rfl | exact gwf rfl | exact gwg rfl | exact gwh rfl | omega) (gg_f (gf_cons rfl (gf_cons rfl (gf_cons rfl (gf_cons rfl (gf_cons rfl (gf_cons rfl (gf_cons rfl gf_nil))))))) (ih70 (sL sc70 53 z95.toNatClampNeg z185) y70_3 y70_5 z187 hI186 (fr_sL rfl hFc70) (in_w 1 32 i112 rfl) (in_w 0 31 j70_4 rfl) (in_w 0 31 j70_5 rfl) (in_w 0 160 i187 rfl) (m_up mm70 (t_add e187 i81 (in_c 1 rfl) rfl) (in_w 1 1 (in_c 1 rfl) rfl))))
              · skip
                have i112 := r_lt1 1 31 c112 j70_3 (in_c 32 rfl) rfl
                refine g_aload_n 116 (gd rfl) rfl rfl ?_
                refine g_getA (q2 := 52) 119 (gd rfl) rfl rfl rfl rfl ?_
                refine g_iload 121 (gd rfl) rfl rfl ?_
                refine g_aload_n 122 (gd rfl) rfl rfl ?_
                refine g_getA (q2 := 52) 125 (gd rfl) rfl rfl rfl rfl ?_
                refine g_iload 127 (gd rfl) rfl rfl ?_
                refine g_iaload 128 (gd rfl) rfl (n := 32) rfl (in_ix j70_5 rfl) (fun z127 e127 => ?_)
                refine g_iconst 1 129 (gd rfl) rfl rfl ?_
                refine g_iadd 130 (gd rfl) rfl (fun z129 e129 => ?_)
                refine g_iastore 131 (gd rfl) rfl (n := 32) rfl (in_ix i95 rfl) ?_
                have hI130 := inv_sI (q := 52) (j := z95.toNatClampNeg) hIc70 rfl (in_w (-2147483648) 2147483647 (i_rng z129) rfl)
                refine g_aload_n 132 (gd rfl) rfl rfl ?_
                refine g_getA (q2 := 54) 135 (gd rfl) rfl rfl rfl rfl ?_
                refine g_iload_n 136 (gd rfl) rfl rfl ?_
                refine g_iload 138 (gd rfl) rfl rfl ?_
                refine g_iastore 139 (gd rfl) rfl (n := 32) rfl (in_ix i112 rfl) ?_
                have hI138 := inv_sI (q := 54) (j := y70_3.toNatClampNeg) hI130 rfl (in_w 0 31 i95 rfl)
                refine g_iinc 142 (gd rfl) rfl rfl (Nat.le_of_ble_eq_true rfl) (fun z139 e139 => ?_)
                have i139 := in_add 2 32 e139 i112 (in_c 1 rfl) rfl rfl
                refine g_aload_n 143 (gd rfl) rfl rfl ?_
                refine g_getA (q2 := 52) 146 (gd rfl) rfl rfl rfl rfl ?_
                refine g_iload 148 (gd rfl) rfl rfl ?_
                refine g_iaload 149 (gd rfl) rfl (n := 32) rfl (in_ix i95 rfl) (fun z148 e148 => ?_)
                have q148 : z129 = z148 := (sI_ne rfl (sI_get)).trans e148.symm
                subst q148
                refine g_aload_n 150 (gd rfl) rfl rfl ?_
                refine g_getA (q2 := 52) 153 (gd rfl) rfl rfl rfl rfl ?_
                refine g_iload 155 (gd rfl) rfl rfl ?_
                refine g_iaload 156 (gd rfl) rfl (n := 32) rfl (in_ix j70_5 rfl) (fun z155 e155 => ?_)
                refine g_iconst 1 157 (gd rfl) rfl rfl ?_
                refine g_iadd 158 (gd rfl) rfl (fun z157 e157 => ?_)
                refine g_cmp_ne 161 187 (gd rfl) rfl rfl (fun c158 => ?_) (fun c158 => ?_)
                · skip
                  refine g_iinc 190 (gd rfl) rfl rfl (Nat.le_of_ble_eq_true rfl) (fun z187 e187 => ?_)
                  have i187 := in_add 1 160 e187 i81 (in_c 1 rfl) rfl rfl
                  refine g_goto 70 (gd rfl) rfl ?_
                  exact gg_w (by first | exact Nat.le_add_right _ _ | exact gw2 | exact gw3 | exact gwe rfl | exact gwf rfl | exact gwg rfl | exact gwh rfl | omega) (gg_f (gf_cons rfl (gf_cons rfl (gf_cons rfl (gf_cons rfl (gf_cons rfl (gf_cons rfl (gf_cons rfl gf_nil))))))) (ih70 (sI (sI sc70 52 z95.toNatClampNeg z129) 54 y70_3.toNatClampNeg z95) z139 y70_5 z187 hI138 (fr_sI rfl (fr_sI rfl hFc70)) (in_w 1 32 i139 rfl) (in_w 0 31 j70_4 rfl) (in_w 0 31 j70_5 rfl) (in_w 0 160 i187 rfl) (m_up mm70 (t_add e187 i81 (in_c 1 rfl) rfl) (in_w 1 1 (in_c 1 rfl) rfl))))
                · skip
                  refine g_aload_n 162 (gd rfl) rfl rfl ?_
                  refine g_getA (q2 := 53) 165 (gd rfl) rfl rfl rfl rfl ?_
                  refine g_iload 167 (gd rfl) rfl rfl ?_
                  refine g_aload_n 168 (gd rfl) rfl rfl ?_
                  refine g_getA (q2 := 53) 171 (gd rfl) rfl rfl rfl rfl ?_
                  refine g_iload 173 (gd rfl) rfl rfl ?_
                  refine g_laload 174 (gd rfl) rfl (n := 32) rfl (in_ix i95 rfl) (fun z173 e173 => ?_)
                  refine g_aload_n 175 (gd rfl) rfl rfl ?_
                  refine g_getA (q2 := 53) 178 (gd rfl) rfl rfl rfl rfl ?_
                  refine g_iload 180 (gd rfl) rfl rfl ?_
                  refine g_laload 181 (gd rfl) rfl (n := 32) rfl (in_ix j70_5 rfl) (fun z180 e180 => ?_)
                  refine g_ladd 182 (gd rfl) rfl (fun z181 e181 => ?_)
                  refine g_ldc2_w 1000000007 185 (gd rfl) rfl rfl ?_
                  refine g_lrem 186 (gd rfl) rfl (by decide) (fun z185 e185 => ?_)
                  have i185 := l_rem (-1000000006) 1000000006 e185 rfl
                  refine g_lastore 187 (gd rfl) rfl (n := 32) rfl (in_ix i95 rfl) ?_
                  have hI186 := inv_sL (q := 53) (j := z95.toNatClampNeg) (x := z185) hI138 rfl (l_rng z185)
                  refine g_iinc 190 (gd rfl) rfl rfl (Nat.le_of_ble_eq_true rfl) (fun z187 e187 => ?_)
                  have i187 := in_add 1 160 e187 i81 (in_c 1 rfl) rfl rfl
                  refine g_goto 70 (gd rfl) rfl ?_
                  exact gg_w (by first | exact Nat.le_add_right _ _ | exact gw2 | exact gw3 | exact gwe rfl | exact gwf rfl | exact gwg rfl | exact gwh rfl | omega) (gg_f (gf_cons rfl (gf_cons rfl (gf_cons rfl (gf_cons rfl (gf_cons rfl (gf_cons rfl (gf_cons rfl gf_nil))))))) (ih70 (sL (sI (sI sc70 52 z95.toNatClampNeg z129) 54 y70_3.toNatClampNeg z95) 53 z95.toNatClampNeg z185) z139 y70_5 z187 hI186 (fr_sL rfl (fr_sI rfl (fr_sI rfl hFc70))) (in_w 1 32 i139 rfl) (in_w 0 31 j70_4 rfl) (in_w 0 31 j70_5 rfl) (in_w 0 160 i187 rfl) (m_up mm70 (t_add e187 i81 (in_c 1 rfl) rfl) (in_w 1 1 (in_c 1 rfl) rfl))))
      refine g_iload 48 (gd rfl) rfl rfl ?_
      refine g_iload_n 49 (gd rfl) rfl rfl ?_
      refine g_cmp_ge 52 199 (gd rfl) rfl rfl (fun c49 => ?_) (fun c49 => ?_)
      · skip
        have i49 := r_le2 1 32 c49 j46_3 j46_4 rfl
        exact g_return (gd rfl) rfl (hP _ _ ⟨sc46, hIc46, hFc46, rfl, rfl⟩)
      · skip
        have i49 := r_lt1 0 31 c49 j46_4 j46_3 rfl
        refine g_aload_n 53 (gd rfl) rfl rfl ?_
        refine g_getA (q2 := 54) 56 (gd rfl) rfl rfl rfl rfl ?_
        refine g_iload 58 (gd rfl) rfl rfl ?_
        refine g_iaload 59 (gd rfl) rfl (n := 32) rfl (in_ix i49 rfl) (fun z58 e58 => ?_)
        have i58 := inv_I hIc46 (n := 32) (t := 0) 0 31 rfl (in_ix i49 rfl) rfl e58
        refine g_istore 61 (gd rfl) rfl (Nat.le_of_ble_eq_true rfl) ?_
        refine g_aload_n 62 (gd rfl) rfl rfl ?_
        refine g_getA (q2 := 42) 65 (gd rfl) rfl rfl rfl rfl ?_
        refine g_iload 67 (gd rfl) rfl rfl ?_
        refine g_iaload 68 (gd rfl) rfl (n := 33) rfl (in_ix i58 rfl) (fun z67 e67 => ?_)
        have i67 := inv_I hIc46 (n := 33) (t := 0) 0 160 rfl (in_ix i58 rfl) rfl e67
        refine g_istore 70 (gd rfl) rfl (Nat.le_of_ble_eq_true rfl) ?_
        exact gg_w (by first | exact Nat.le_add_right _ _ | exact gw2 | exact gw3 | exact gwe rfl | exact gwf rfl | exact gwg rfl | exact gwh rfl | omega) (gg_f (gf_cons rfl (gf_cons rfl (gf_cons rfl (gf_cons rfl (gf_cons rfl (gf_cons rfl (gf_cons rfl gf_nil))))))) (ct70 161 sc46 y46_3 z58 z67 hIc46 hFc46 (in_w 1 32 j46_3 rfl) (in_w 0 31 i49 rfl) (in_w 0 31 i58 rfl) (in_w 0 160 i67 rfl) (m_in 161 (in_w 0 160 i67 rfl) rfl)))
  refine g_enter2 (k := 204) (N := 4871734) (by first | exact dq1 hd rfl | exact dq0 hd rfl | exact dq2 hd rfl | exact dq3 hd rfl | omega) rfl (Nat.le_of_ble_eq_true rfl) ?_
  refine g_aload_n 1 (gd rfl) rfl rfl ?_
  refine g_callv (X := _) (As := []) (r := []) (b := A 32) (q := 32) 4 (gd rfl) rfl rfl rfl rfl rfl (ww_o rfl) (Nat.le_of_ble_eq_true rfl) (Nat.zero_le _) (Nat.zero_le _) (k_106_32 (by first | exact dq1 hd rfl | exact dq0 hd rfl | exact dq2 hd rfl | exact dq3 hd rfl | omega) hI ) (fun e u h => h) (fun v u h => ?_)
  obtain ⟨s1, hI1, hF1, n1, rfl, rfl⟩ := h
  obtain ⟨z1a, e1⟩ : ∃ w, w = s1.2.2.1 32 4 := ⟨_, rfl⟩
  have i1a := inv_F hI1 (-1) 4000 rfl e1
  obtain ⟨z1b, e1a⟩ : ∃ w, w = s1.2.2.1 32 0 := ⟨_, rfl⟩
  have i1b := inv_F hI1 0 4000 rfl e1a
  rw [← (show z1a = s1.2.2.1 32 4 from e1)] at n1
  rw [← (show z1b = s1.2.2.1 32 0 from e1a)] at n1
  show GG _ _ _ _ _ _ _ _ [] _ _ _
  refine g_aload_n 5 (gd rfl) rfl rfl ?_
  refine g_getA (q2 := 52) 8 (gd rfl) rfl rfl rfl rfl ?_
  refine g_iconst (-1) 9 (gd rfl) rfl rfl ?_
  refine g_calls (As := [.ref (A 52), .int (Int32.ofInt (-1))]) (r := []) 12 (gd rfl) rfl rfl rfl rfl rfl (Nat.le_of_ble_eq_true rfl) (Nat.zero_le _) (Nat.zero_le _) (k_fillI 52 (by first | exact dq1 hd rfl | exact dq0 hd rfl | exact dq2 hd rfl | exact dq3 hd rfl | omega) hI1 (in_c (-1) rfl) (n := 32) rfl rfl rfl rfl) (fun v u h => ?_)
  obtain ⟨s9, hI9, hF9, rfl, rfl, fl9⟩ := h
  show GG _ _ _ _ _ _ _ _ [] _ _ _
  refine g_aload_n 13 (gd rfl) rfl rfl ?_
  refine g_getA (q2 := 53) 16 (gd rfl) rfl rfl rfl rfl ?_
  refine g_lconst 0 17 (gd rfl) rfl rfl ?_
  refine g_calls (As := [.ref (A 53), .long (Int64.ofInt 0)]) (r := []) 20 (gd rfl) rfl rfl rfl rfl rfl (Nat.le_of_ble_eq_true rfl) (Nat.zero_le _) (Nat.zero_le _) (k_fillL 53 (by first | exact dq1 hd rfl | exact dq0 hd rfl | exact dq2 hd rfl | exact dq3 hd rfl | omega) hI9 (n := 32) rfl rfl rfl (l_rng (Int64.ofInt 0))) (fun v u h => ?_)
  obtain ⟨s17, hI17, hF17, rfl, rfl, fl17⟩ := h
  show GG _ _ _ _ _ _ _ _ [] _ _ _
  refine g_aload_n 21 (gd rfl) rfl rfl ?_
  refine g_getA (q2 := 52) 24 (gd rfl) rfl rfl rfl rfl ?_
  refine g_iload_n 25 (gd rfl) rfl rfl ?_
  refine g_iconst 0 26 (gd rfl) rfl rfl ?_
  refine g_iastore 27 (gd rfl) rfl (n := 32) rfl (in_ix h2 rfl) ?_
  have hI26 := inv_sI (q := 52) (j := x2.toNatClampNeg) hI17 rfl (in_w (-2147483648) 2147483647 (in_c 0 rfl) rfl)
  refine g_aload_n 28 (gd rfl) rfl rfl ?_
  refine g_getA (q2 := 53) 31 (gd rfl) rfl rfl rfl rfl ?_
  refine g_iload_n 32 (gd rfl) rfl rfl ?_
  refine g_lconst 1 33 (gd rfl) rfl rfl ?_
  refine g_lastore 34 (gd rfl) rfl (n := 32) rfl (in_ix h2 rfl) ?_
  have hI33 := inv_sL (q := 53) (j := x2.toNatClampNeg) (x := (Int64.ofInt 1)) hI26 rfl (l_rng (Int64.ofInt 1))
  refine g_aload_n 35 (gd rfl) rfl rfl ?_
  refine g_getA (q2 := 54) 38 (gd rfl) rfl rfl rfl rfl ?_
  refine g_iconst 0 39 (gd rfl) rfl rfl ?_
  refine g_iload_n 40 (gd rfl) rfl rfl ?_
  refine g_iastore 41 (gd rfl) rfl (n := 32) rfl (in_ix (in_c 0 rfl) rfl) ?_
  have hI40 := inv_sI (q := 54) (j := (Int32.ofInt 0).toNatClampNeg) hI33 rfl (in_w 0 31 h2 rfl)
  refine g_iconst 1 42 (gd rfl) rfl rfl ?_
  refine g_istore_n 43 (gd rfl) rfl (Nat.le_of_ble_eq_true rfl) ?_
  refine g_iconst 0 44 (gd rfl) rfl rfl ?_
  refine g_istore 46 (gd rfl) rfl (Nat.le_of_ble_eq_true rfl) ?_
  exact gg_w (by first | exact Nat.le_of_ble_eq_true rfl | omega) (gg_f (gf_cons rfl (gf_cons rfl (gf_cons rfl (gf_cons rfl (gf_cons rfl gf_nil))))) (ct46 33 (sI (sL (sI s17 52 x2.toNatClampNeg (Int32.ofInt 0)) 53 x2.toNatClampNeg (Int64.ofInt 1)) 54 (Int32.ofInt 0).toNatClampNeg x2) (Int32.ofInt 1) (Int32.ofInt 0) hI40 (fr_sI rfl (fr_sL rfl (fr_sI rfl (fr_tr rfl (fr_tr rfl (fr_tr rfl fr_rf hF1) hF9) hF17)))) (in_w 1 32 (in_c 1 rfl) rfl) (in_w 0 32 (in_c 0 rfl) rfl) (m_in 33 (in_w 0 32 (in_c 0 rfl) rfl) rfl)))

/-- GraphHouse$Ways.leads -/
theorem k_209_49_2 {Z : AmZ} {A : Nat → Nat} {s : GS} {ex : va_W} {d : Nat} {X : AmX} {x2 : Int32} {x3 : Int32} {x4 : Int32} (hd : 4 ≤ d) (hI : Inv s) (h2 : In x2 0 31) (h4 : In x4 0 3) : GC Z d 209 [.ref (A 49), .ref (A 2), .int x2, .int x3, .int x4] (WW Z A s ++ ex) 0 0 (fun v u => ∃ z : Int32, v = some (.int z) ∧ u = WW Z A s ++ ex ∧ In z 0 1) X := by
  intro post xp hP hX
  obtain ⟨u_49_10, e_49_10⟩ : ∃ w, w = s.2.2.1 49 10 := ⟨_, rfl⟩
  have ro_49_10 := inv_F hI 0 31 rfl e_49_10
  have ct60 : ∀ (k60 : Nat) (y60_5 : Int32) (y60_6 : Int32) (y60_7 : Int32), ((y60_7.toBitVec.toNat : Nat) : Int) < (k60 : Int) → GG Z (d - 1) 209 post (gx xp) (1 + k60 * 900) 60 (fun j => xlook j [(0, .ref (A 49)), (1, .ref (A 2)), (2, .int x2), (3, .int x3), (4, .int x4), (5, .int y60_5), (6, .int y60_6), (7, .int y60_7)]) [] (WW Z A s ++ ex) 0 0 := by
    intro k60
    induction k60 with
    | zero => intro y60_5 y60_6 y60_7  mm60; exact absurd mm60 (Int.not_lt.mpr (Int.natCast_nonneg _))
    | succ k60 ih60 =>
      intro y60_5 y60_6 y60_7  mm60
      refine gg_w (M := 1 + k60 * 900 + 900) gws ?_
      refine g_iload 62 (gd rfl) rfl rfl ?_
      refine g_iconst 3 63 (gd rfl) rfl rfl ?_
      refine g_cmp_lt 66 105 (gd rfl) rfl rfl (fun c63 => ?_) (fun c63 => ?_)
      · skip
        have i63 := r_lt1 0 2 c63 h4 (in_c 3 rfl) rfl
        refine g_iconst 0 106 (gd rfl) rfl rfl ?_
        exact g_ireturn (gd rfl) rfl (nb01 (in_w 0 1 (in_c 0 rfl) rfl)) (hP _ _ ⟨(Int32.ofInt 0), rfl, rfl, in_w 0 1 (in_c 0 rfl) rfl⟩)
      · skip
        have i63 := r_le2 3 3 c63 (in_c 3 rfl) h4 rfl
        refine g_iload 68 (gd rfl) rfl rfl ?_
        refine g_if_eq 71 105 (gd rfl) rfl rfl (fun c68 => ?_) (fun c68 => ?_)
        · skip
          have i68 := z_eq 0 0 c68 (i_rng y60_7) rfl
          refine g_iconst 0 106 (gd rfl) rfl rfl ?_
          exact g_ireturn (gd rfl) rfl (nb01 (in_w 0 1 (in_c 0 rfl) rfl)) (hP _ _ ⟨(Int32.ofInt 0), rfl, rfl, in_w 0 1 (in_c 0 rfl) rfl⟩)
        · skip
          refine g_aload_n 72 (gd rfl) rfl rfl ?_
          refine g_getA (q2 := 10) 75 (gd rfl) rfl rfl rfl rfl ?_
          refine g_iload 77 (gd rfl) rfl rfl ?_
          refine g_calls (As := [.int y60_7]) (r := [.ref (A 10)]) 80 (gd rfl) rfl rfl rfl rfl rfl (Nat.le_of_ble_eq_true rfl) (Nat.zero_le _) (Nat.zero_le _) (k_264n (by first | exact dq1 hd rfl | exact dq0 hd rfl | exact dq2 hd rfl | exact dq3 hd rfl | omega) c68) (fun v u h => ?_)
          obtain ⟨z77, rfl, rfl, i77, hb77, hl77⟩ := h
          show GG _ _ _ _ _ _ _ _ [.int z77, .ref (A 10)] _ _ _
          refine g_iaload 81 (gd rfl) rfl (n := 32) rfl (in_ix i77 rfl) (fun z80 e80 => ?_)
          refine g_iload_n 82 (gd rfl) rfl rfl ?_
          refine g_iconst (-1) 83 (gd rfl) rfl rfl ?_
          refine g_ixor 84 (gd rfl) rfl (fun z83 e83 => ?_)
          refine g_iand 85 (gd rfl) rfl (fun z84 e84 => ?_)
          refine g_iload 87 (gd rfl) rfl rfl ?_
          refine g_iand 88 (gd rfl) rfl (fun z87 e87 => ?_)
          refine g_if_eq 91 93 (gd rfl) rfl rfl (fun c88 => ?_) (fun c88 => ?_)
          · skip
            have i88 := z_eq 0 0 c88 (i_rng z87) rfl
            refine g_iload 95 (gd rfl) rfl rfl ?_
            refine g_iload 97 (gd rfl) rfl rfl ?_
            refine g_iconst 1 98 (gd rfl) rfl rfl ?_
            refine g_isub 99 (gd rfl) rfl (fun z98 e98 => ?_)
            refine g_iand 100 (gd rfl) rfl (fun z99 e99 => ?_)
            refine g_istore 102 (gd rfl) rfl (Nat.le_of_ble_eq_true rfl) ?_
            refine g_goto 60 (gd rfl) rfl ?_
            exact gg_w (by first | exact Nat.le_add_right _ _ | exact gw2 | exact gw3 | exact gwe rfl | exact gwf rfl | exact gwg rfl | exact gwh rfl | omega) (gg_f (gf_cons rfl (gf_cons rfl (gf_cons rfl (gf_cons rfl (gf_cons rfl (gf_cons rfl (gf_cons rfl (gf_cons rfl gf_nil)))))))) (ih60  y60_5 y60_6 z99   (mb e99 e98 c68 mm60)))
          · skip
            refine g_iconst 1 92 (gd rfl) rfl rfl ?_
            exact g_ireturn (gd rfl) rfl (nb01 (in_w 0 1 (in_c 1 rfl) rfl)) (hP _ _ ⟨(Int32.ofInt 1), rfl, rfl, in_w 0 1 (in_c 1 rfl) rfl⟩)
  refine g_enter2 (k := 209) (N := 3865470567301) (by first | exact dq1 hd rfl | exact dq0 hd rfl | exact dq2 hd rfl | exact dq3 hd rfl | omega) rfl (Nat.le_of_ble_eq_true rfl) ?_
  refine g_aload_n 1 (gd rfl) rfl rfl ?_
  refine g_getA (q2 := 11) 4 (gd rfl) rfl rfl rfl rfl ?_
  refine g_aload_n 5 (gd rfl) rfl rfl ?_
  refine g_getI 8 (gd rfl) rfl rfl rfl (fun z5 e5 => ?_)
  have q5 : u_49_10 = z5 := (e_49_10).trans e5.symm
  subst q5
  refine g_iaload 9 (gd rfl) rfl (n := 32) rfl (in_ix ro_49_10 rfl) (fun z8 e8 => ?_)
  refine g_istore 11 (gd rfl) rfl (Nat.le_of_ble_eq_true rfl) ?_
  refine g_iload 13 (gd rfl) rfl rfl ?_
  refine g_iconst 1 14 (gd rfl) rfl rfl ?_
  refine g_cmp_lt 17 28 (gd rfl) rfl rfl (fun c14 => ?_) (fun c14 => ?_)
  · skip
    have i14 := r_lt1 0 0 c14 h4 (in_c 1 rfl) rfl
    refine g_aload_n 29 (gd rfl) rfl rfl ?_
    refine g_getA (q2 := 10) 32 (gd rfl) rfl rfl rfl rfl ?_
    refine g_iload_n 33 (gd rfl) rfl rfl ?_
    refine g_iaload 34 (gd rfl) rfl (n := 32) rfl (in_ix h2 rfl) (fun z33 e33 => ?_)
    refine g_iload_n 35 (gd rfl) rfl rfl ?_
    refine g_iconst (-1) 36 (gd rfl) rfl rfl ?_
    refine g_ixor 37 (gd rfl) rfl (fun z36 e36 => ?_)
    refine g_iand 38 (gd rfl) rfl (fun z37 e37 => ?_)
    refine g_istore 40 (gd rfl) rfl (Nat.le_of_ble_eq_true rfl) ?_
    refine g_iload 42 (gd rfl) rfl rfl ?_
    refine g_iconst 2 43 (gd rfl) rfl rfl ?_
    refine g_cmp_lt 46 56 (gd rfl) rfl rfl (fun c43 => ?_) (fun c43 => ?_)
    · skip
      refine g_iload 58 (gd rfl) rfl rfl ?_
      refine g_istore 60 (gd rfl) rfl (Nat.le_of_ble_eq_true rfl) ?_
      exact gg_w (by first | exact Nat.le_of_ble_eq_true rfl | omega) (gg_f (gf_cons rfl (gf_cons rfl (gf_cons rfl (gf_cons rfl (gf_cons rfl (gf_cons rfl (gf_cons rfl (gf_cons rfl gf_nil)))))))) (ct60 4294967296  z8 z37 z37   (mb_in _)))
    · skip
      exact n_le c43 (in_c 2 rfl) i14 rfl
  · skip
    have i14 := r_le2 1 3 c14 (in_c 1 rfl) h4 rfl
    refine g_iload 19 (gd rfl) rfl rfl ?_
    refine g_iload_n 20 (gd rfl) rfl rfl ?_
    refine g_ishr 21 (gd rfl) rfl (fun z20 e20 => ?_)
    refine g_iconst 1 22 (gd rfl) rfl rfl ?_
    refine g_iand 23 (gd rfl) rfl (fun z22 e22 => ?_)
    have i22 := in_and2 e22 (in_c 1 rfl) rfl
    refine g_if_eq 26 28 (gd rfl) rfl rfl (fun c23 => ?_) (fun c23 => ?_)
    · skip
      have i23 := z_eq 0 0 c23 i22 rfl
      refine g_aload_n 29 (gd rfl) rfl rfl ?_
      refine g_getA (q2 := 10) 32 (gd rfl) rfl rfl rfl rfl ?_
      refine g_iload_n 33 (gd rfl) rfl rfl ?_
      refine g_iaload 34 (gd rfl) rfl (n := 32) rfl (in_ix h2 rfl) (fun z33 e33 => ?_)
      refine g_iload_n 35 (gd rfl) rfl rfl ?_
      refine g_iconst (-1) 36 (gd rfl) rfl rfl ?_
      refine g_ixor 37 (gd rfl) rfl (fun z36 e36 => ?_)
      refine g_iand 38 (gd rfl) rfl (fun z37 e37 => ?_)
      refine g_istore 40 (gd rfl) rfl (Nat.le_of_ble_eq_true rfl) ?_
      refine g_iload 42 (gd rfl) rfl rfl ?_
      refine g_iconst 2 43 (gd rfl) rfl rfl ?_
      refine g_cmp_lt 46 56 (gd rfl) rfl rfl (fun c43 => ?_) (fun c43 => ?_)
      · skip
        have i43 := r_lt1 1 1 c43 i14 (in_c 2 rfl) rfl
        refine g_iload 58 (gd rfl) rfl rfl ?_
        refine g_istore 60 (gd rfl) rfl (Nat.le_of_ble_eq_true rfl) ?_
        exact gg_w (by first | exact Nat.le_of_ble_eq_true rfl | omega) (gg_f (gf_cons rfl (gf_cons rfl (gf_cons rfl (gf_cons rfl (gf_cons rfl (gf_cons rfl (gf_cons rfl (gf_cons rfl gf_nil)))))))) (ct60 4294967296  z8 z37 z37   (mb_in _)))
      · skip
        have i43 := r_le2 2 3 c43 (in_c 2 rfl) i14 rfl
        refine g_iload 48 (gd rfl) rfl rfl ?_
        refine g_iload 50 (gd rfl) rfl rfl ?_
        refine g_iand 51 (gd rfl) rfl (fun z50 e50 => ?_)
        refine g_if_eq 54 56 (gd rfl) rfl rfl (fun c51 => ?_) (fun c51 => ?_)
        · skip
          have i51 := z_eq 0 0 c51 (i_rng z50) rfl
          refine g_iload 58 (gd rfl) rfl rfl ?_
          refine g_istore 60 (gd rfl) rfl (Nat.le_of_ble_eq_true rfl) ?_
          exact gg_w (by first | exact Nat.le_of_ble_eq_true rfl | omega) (gg_f (gf_cons rfl (gf_cons rfl (gf_cons rfl (gf_cons rfl (gf_cons rfl (gf_cons rfl (gf_cons rfl (gf_cons rfl gf_nil)))))))) (ct60 4294967296  z8 z37 z37   (mb_in _)))
        · skip
          refine g_iconst 1 55 (gd rfl) rfl rfl ?_
          exact g_ireturn (gd rfl) rfl (nb01 (in_w 0 1 (in_c 1 rfl) rfl)) (hP _ _ ⟨(Int32.ofInt 1), rfl, rfl, in_w 0 1 (in_c 1 rfl) rfl⟩)
    · skip
      have i23 := z_ne 1 1 c23 i22 rfl
      refine g_iconst 1 27 (gd rfl) rfl rfl ?_
      exact g_ireturn (gd rfl) rfl (nb01 (in_w 0 1 (in_c 1 rfl) rfl)) (hP _ _ ⟨(Int32.ofInt 1), rfl, rfl, in_w 0 1 (in_c 1 rfl) rfl⟩)

/-- GraphHouse$Ways.leads -/
theorem k_209_49_32 {Z : AmZ} {A : Nat → Nat} {s : GS} {ex : va_W} {d : Nat} {X : AmX} {x2 : Int32} {x3 : Int32} {x4 : Int32} (hd : 4 ≤ d) (hI : Inv s) (h2 : In x2 0 31) (h4 : In x4 0 3) : GC Z d 209 [.ref (A 49), .ref (A 32), .int x2, .int x3, .int x4] (WW Z A s ++ ex) 0 0 (fun v u => ∃ z : Int32, v = some (.int z) ∧ u = WW Z A s ++ ex ∧ In z 0 1) X := by
  intro post xp hP hX
  obtain ⟨u_49_10, e_49_10⟩ : ∃ w, w = s.2.2.1 49 10 := ⟨_, rfl⟩
  have ro_49_10 := inv_F hI 0 31 rfl e_49_10
  have ct60 : ∀ (k60 : Nat) (y60_5 : Int32) (y60_6 : Int32) (y60_7 : Int32), ((y60_7.toBitVec.toNat : Nat) : Int) < (k60 : Int) → GG Z (d - 1) 209 post (gx xp) (1 + k60 * 900) 60 (fun j => xlook j [(0, .ref (A 49)), (1, .ref (A 32)), (2, .int x2), (3, .int x3), (4, .int x4), (5, .int y60_5), (6, .int y60_6), (7, .int y60_7)]) [] (WW Z A s ++ ex) 0 0 := by
    intro k60
    induction k60 with
    | zero => intro y60_5 y60_6 y60_7  mm60; exact absurd mm60 (Int.not_lt.mpr (Int.natCast_nonneg _))
    | succ k60 ih60 =>
      intro y60_5 y60_6 y60_7  mm60
      refine gg_w (M := 1 + k60 * 900 + 900) gws ?_
      refine g_iload 62 (gd rfl) rfl rfl ?_
      refine g_iconst 3 63 (gd rfl) rfl rfl ?_
      refine g_cmp_lt 66 105 (gd rfl) rfl rfl (fun c63 => ?_) (fun c63 => ?_)
      · skip
        have i63 := r_lt1 0 2 c63 h4 (in_c 3 rfl) rfl
        refine g_iconst 0 106 (gd rfl) rfl rfl ?_
        exact g_ireturn (gd rfl) rfl (nb01 (in_w 0 1 (in_c 0 rfl) rfl)) (hP _ _ ⟨(Int32.ofInt 0), rfl, rfl, in_w 0 1 (in_c 0 rfl) rfl⟩)
      · skip
        have i63 := r_le2 3 3 c63 (in_c 3 rfl) h4 rfl
        refine g_iload 68 (gd rfl) rfl rfl ?_
        refine g_if_eq 71 105 (gd rfl) rfl rfl (fun c68 => ?_) (fun c68 => ?_)
        · skip
          have i68 := z_eq 0 0 c68 (i_rng y60_7) rfl
          refine g_iconst 0 106 (gd rfl) rfl rfl ?_
          exact g_ireturn (gd rfl) rfl (nb01 (in_w 0 1 (in_c 0 rfl) rfl)) (hP _ _ ⟨(Int32.ofInt 0), rfl, rfl, in_w 0 1 (in_c 0 rfl) rfl⟩)
        · skip
          refine g_aload_n 72 (gd rfl) rfl rfl ?_
          refine g_getA (q2 := 40) 75 (gd rfl) rfl rfl rfl rfl ?_
          refine g_iload 77 (gd rfl) rfl rfl ?_
          refine g_calls (As := [.int y60_7]) (r := [.ref (A 40)]) 80 (gd rfl) rfl rfl rfl rfl rfl (Nat.le_of_ble_eq_true rfl) (Nat.zero_le _) (Nat.zero_le _) (k_264n (by first | exact dq1 hd rfl | exact dq0 hd rfl | exact dq2 hd rfl | exact dq3 hd rfl | omega) c68) (fun v u h => ?_)
          obtain ⟨z77, rfl, rfl, i77, hb77, hl77⟩ := h
          show GG _ _ _ _ _ _ _ _ [.int z77, .ref (A 40)] _ _ _
          refine g_iaload 81 (gd rfl) rfl (n := 32) rfl (in_ix i77 rfl) (fun z80 e80 => ?_)
          refine g_iload_n 82 (gd rfl) rfl rfl ?_
          refine g_iconst (-1) 83 (gd rfl) rfl rfl ?_
          refine g_ixor 84 (gd rfl) rfl (fun z83 e83 => ?_)
          refine g_iand 85 (gd rfl) rfl (fun z84 e84 => ?_)
          refine g_iload 87 (gd rfl) rfl rfl ?_
          refine g_iand 88 (gd rfl) rfl (fun z87 e87 => ?_)
          refine g_if_eq 91 93 (gd rfl) rfl rfl (fun c88 => ?_) (fun c88 => ?_)
          · skip
            have i88 := z_eq 0 0 c88 (i_rng z87) rfl
            refine g_iload 95 (gd rfl) rfl rfl ?_
            refine g_iload 97 (gd rfl) rfl rfl ?_
            refine g_iconst 1 98 (gd rfl) rfl rfl ?_
            refine g_isub 99 (gd rfl) rfl (fun z98 e98 => ?_)
            refine g_iand 100 (gd rfl) rfl (fun z99 e99 => ?_)
            refine g_istore 102 (gd rfl) rfl (Nat.le_of_ble_eq_true rfl) ?_
            refine g_goto 60 (gd rfl) rfl ?_
            exact gg_w (by first | exact Nat.le_add_right _ _ | exact gw2 | exact gw3 | exact gwe rfl | exact gwf rfl | exact gwg rfl | exact gwh rfl | omega) (gg_f (gf_cons rfl (gf_cons rfl (gf_cons rfl (gf_cons rfl (gf_cons rfl (gf_cons rfl (gf_cons rfl (gf_cons rfl gf_nil)))))))) (ih60  y60_5 y60_6 z99   (mb e99 e98 c68 mm60)))
          · skip
            refine g_iconst 1 92 (gd rfl) rfl rfl ?_
            exact g_ireturn (gd rfl) rfl (nb01 (in_w 0 1 (in_c 1 rfl) rfl)) (hP _ _ ⟨(Int32.ofInt 1), rfl, rfl, in_w 0 1 (in_c 1 rfl) rfl⟩)
  refine g_enter2 (k := 209) (N := 3865470567301) (by first | exact dq1 hd rfl | exact dq0 hd rfl | exact dq2 hd rfl | exact dq3 hd rfl | omega) rfl (Nat.le_of_ble_eq_true rfl) ?_
  refine g_aload_n 1 (gd rfl) rfl rfl ?_
  refine g_getA (q2 := 41) 4 (gd rfl) rfl rfl rfl rfl ?_
  refine g_aload_n 5 (gd rfl) rfl rfl ?_
  refine g_getI 8 (gd rfl) rfl rfl rfl (fun z5 e5 => ?_)
  have q5 : u_49_10 = z5 := (e_49_10).trans e5.symm
  subst q5
  refine g_iaload 9 (gd rfl) rfl (n := 32) rfl (in_ix ro_49_10 rfl) (fun z8 e8 => ?_)
  refine g_istore 11 (gd rfl) rfl (Nat.le_of_ble_eq_true rfl) ?_
  refine g_iload 13 (gd rfl) rfl rfl ?_
  refine g_iconst 1 14 (gd rfl) rfl rfl ?_
  refine g_cmp_lt 17 28 (gd rfl) rfl rfl (fun c14 => ?_) (fun c14 => ?_)
  · skip
    have i14 := r_lt1 0 0 c14 h4 (in_c 1 rfl) rfl
    refine g_aload_n 29 (gd rfl) rfl rfl ?_
    refine g_getA (q2 := 40) 32 (gd rfl) rfl rfl rfl rfl ?_
    refine g_iload_n 33 (gd rfl) rfl rfl ?_
    refine g_iaload 34 (gd rfl) rfl (n := 32) rfl (in_ix h2 rfl) (fun z33 e33 => ?_)
    refine g_iload_n 35 (gd rfl) rfl rfl ?_
    refine g_iconst (-1) 36 (gd rfl) rfl rfl ?_
    refine g_ixor 37 (gd rfl) rfl (fun z36 e36 => ?_)
    refine g_iand 38 (gd rfl) rfl (fun z37 e37 => ?_)
    refine g_istore 40 (gd rfl) rfl (Nat.le_of_ble_eq_true rfl) ?_
    refine g_iload 42 (gd rfl) rfl rfl ?_
    refine g_iconst 2 43 (gd rfl) rfl rfl ?_
    refine g_cmp_lt 46 56 (gd rfl) rfl rfl (fun c43 => ?_) (fun c43 => ?_)
    · skip
      refine g_iload 58 (gd rfl) rfl rfl ?_
      refine g_istore 60 (gd rfl) rfl (Nat.le_of_ble_eq_true rfl) ?_
      exact gg_w (by first | exact Nat.le_of_ble_eq_true rfl | omega) (gg_f (gf_cons rfl (gf_cons rfl (gf_cons rfl (gf_cons rfl (gf_cons rfl (gf_cons rfl (gf_cons rfl (gf_cons rfl gf_nil)))))))) (ct60 4294967296  z8 z37 z37   (mb_in _)))
    · skip
      exact n_le c43 (in_c 2 rfl) i14 rfl
  · skip
    have i14 := r_le2 1 3 c14 (in_c 1 rfl) h4 rfl
    refine g_iload 19 (gd rfl) rfl rfl ?_
    refine g_iload_n 20 (gd rfl) rfl rfl ?_
    refine g_ishr 21 (gd rfl) rfl (fun z20 e20 => ?_)
    refine g_iconst 1 22 (gd rfl) rfl rfl ?_
    refine g_iand 23 (gd rfl) rfl (fun z22 e22 => ?_)
    have i22 := in_and2 e22 (in_c 1 rfl) rfl
    refine g_if_eq 26 28 (gd rfl) rfl rfl (fun c23 => ?_) (fun c23 => ?_)
    · skip
      have i23 := z_eq 0 0 c23 i22 rfl
      refine g_aload_n 29 (gd rfl) rfl rfl ?_
      refine g_getA (q2 := 40) 32 (gd rfl) rfl rfl rfl rfl ?_
      refine g_iload_n 33 (gd rfl) rfl rfl ?_
      refine g_iaload 34 (gd rfl) rfl (n := 32) rfl (in_ix h2 rfl) (fun z33 e33 => ?_)
      refine g_iload_n 35 (gd rfl) rfl rfl ?_
      refine g_iconst (-1) 36 (gd rfl) rfl rfl ?_
      refine g_ixor 37 (gd rfl) rfl (fun z36 e36 => ?_)
      refine g_iand 38 (gd rfl) rfl (fun z37 e37 => ?_)
      refine g_istore 40 (gd rfl) rfl (Nat.le_of_ble_eq_true rfl) ?_
      refine g_iload 42 (gd rfl) rfl rfl ?_
      refine g_iconst 2 43 (gd rfl) rfl rfl ?_
      refine g_cmp_lt 46 56 (gd rfl) rfl rfl (fun c43 => ?_) (fun c43 => ?_)
      · skip
        have i43 := r_lt1 1 1 c43 i14 (in_c 2 rfl) rfl
        refine g_iload 58 (gd rfl) rfl rfl ?_
        refine g_istore 60 (gd rfl) rfl (Nat.le_of_ble_eq_true rfl) ?_
        exact gg_w (by first | exact Nat.le_of_ble_eq_true rfl | omega) (gg_f (gf_cons rfl (gf_cons rfl (gf_cons rfl (gf_cons rfl (gf_cons rfl (gf_cons rfl (gf_cons rfl (gf_cons rfl gf_nil)))))))) (ct60 4294967296  z8 z37 z37   (mb_in _)))
      · skip
        have i43 := r_le2 2 3 c43 (in_c 2 rfl) i14 rfl
        refine g_iload 48 (gd rfl) rfl rfl ?_
        refine g_iload 50 (gd rfl) rfl rfl ?_
        refine g_iand 51 (gd rfl) rfl (fun z50 e50 => ?_)
        refine g_if_eq 54 56 (gd rfl) rfl rfl (fun c51 => ?_) (fun c51 => ?_)
        · skip
          have i51 := z_eq 0 0 c51 (i_rng z50) rfl
          refine g_iload 58 (gd rfl) rfl rfl ?_
          refine g_istore 60 (gd rfl) rfl (Nat.le_of_ble_eq_true rfl) ?_
          exact gg_w (by first | exact Nat.le_of_ble_eq_true rfl | omega) (gg_f (gf_cons rfl (gf_cons rfl (gf_cons rfl (gf_cons rfl (gf_cons rfl (gf_cons rfl (gf_cons rfl (gf_cons rfl gf_nil)))))))) (ct60 4294967296  z8 z37 z37   (mb_in _)))
        · skip
          refine g_iconst 1 55 (gd rfl) rfl rfl ?_
          exact g_ireturn (gd rfl) rfl (nb01 (in_w 0 1 (in_c 1 rfl) rfl)) (hP _ _ ⟨(Int32.ofInt 1), rfl, rfl, in_w 0 1 (in_c 1 rfl) rfl⟩)
    · skip
      have i23 := z_ne 1 1 c23 i22 rfl
      refine g_iconst 1 27 (gd rfl) rfl rfl ?_
      exact g_ireturn (gd rfl) rfl (nb01 (in_w 0 1 (in_c 1 rfl) rfl)) (hP _ _ ⟨(Int32.ofInt 1), rfl, rfl, in_w 0 1 (in_c 1 rfl) rfl⟩)

def fm_210_49 : FM := ([], [55], [], [])
/-- GraphHouse$Ways.sortKeys -/
theorem k_210_49 {Z : AmZ} {A : Nat → Nat} {s : GS} {ex : va_W} {d : Nat} {X : AmX}  (hd : 1 ≤ d) (hI : Inv s)  : GC Z d 210 [.ref (A 49)] (WW Z A s ++ ex) 0 0 (fun v u => ∃ t : GS, Inv t ∧ Fr fm_210_49 s t ∧ v = none ∧ u = WW Z A t ++ ex) X := by
  intro post xp hP hX
  obtain ⟨u_49_11, e_49_11⟩ : ∃ w, w = s.2.2.1 49 11 := ⟨_, rfl⟩
  have ro_49_11 := inv_F hI 0 2001 rfl e_49_11
  have ct21 : ∀ (k21 : Nat) (sc21 : GS) (y21_1 : Int32), Inv sc21 → Fr fm_210_49 s sc21 → (In y21_1 0 2001) → (y21_1).toInt < (k21 : Int) → GG Z (d - 1) 210 post (gx xp) (1 + k21 * 10817109402) 21 (fun j => xlook j [(0, .ref (A 49)), (1, .int y21_1)]) [] (WW Z A sc21 ++ ex) 0 0 := by
    intro k21
    induction k21 with
    | zero => intro sc21 y21_1 hIc21 hFc21 j21_1 mm21; exfalso; (first | have a0 := in_u ro_49_11 | (have a0 := ro_49_11; unfold In at a0)); have a1 := j21_1; unfold In at a1; omega
    | succ k21 ih21 =>
      intro sc21 y21_1 hIc21 hFc21 j21_1 mm21
      refine gg_w (M := 1 + k21 * 10817109402 + 10817109402) gws ?_
      have ct27 : ∀ (k27 : Nat) (sc27 : GS) (y27_2 : Int32), Inv sc27 → Fr fm_210_49 s sc27 → (In y21_1 1 2001) → (In y27_2 1 4000) → 4000 - (y27_2).toInt < (k27 : Int) → GG Z (d - 1) 210 post (gx xp) (1 + k21 * 10817109402 + 1 + k27 * 2703601) 27 (fun j => xlook j [(0, .ref (A 49)), (1, .int y21_1), (2, .int y27_2)]) [] (WW Z A sc27 ++ ex) 0 0 := by
        intro k27
        induction k27 with
        | zero => intro sc27 y27_2 hIc27 hFc27 j27_1 j27_2 mm27; exact m_no mm27 j27_2 rfl
        | succ k27 ih27 =>
          intro sc27 y27_2 hIc27 hFc27 j27_1 j27_2 mm27
          refine gg_w (M := 1 + k21 * 10817109402 + 1 + k27 * 2703601 + 2703601) gws ?_
          have ct45 : ∀ (k45 : Nat) (sc45 : GS) (y45_3 : Int64) (y45_5 : Int32), Inv sc45 → Fr fm_210_49 s sc45 → (In y27_2 1 2001) → (In y45_5 0 2000) → (y45_5).toInt < (k45 : Int) → GG Z (d - 1) 210 post (gx xp) (1 + k21 * 10817109402 + 1 + k27 * 2703601 + 1 + k45 * 900) 45 (fun j => xlook j [(0, .ref (A 49)), (1, .int y21_1), (2, .int y27_2), (3, .long y45_3), (5, .int y45_5)]) [] (WW Z A sc45 ++ ex) 0 0 := by
            intro k45
            induction k45 with
            | zero => intro sc45 y45_3 y45_5 hIc45 hFc45 j45_2 j45_5 mm45; exfalso; have a0 := j45_2; unfold In at a0; (first | have a1 := oa2 j27_1 ro_49_11 | ((first | have a1 := in_u j27_1 | (have a1 := j27_1; unfold In at a1)); (first | have a2 := in_u ro_49_11 | (have a2 := ro_49_11; unfold In at a2)))); have a3 := j45_5; unfold In at a3; omega
            | succ k45 ih45 =>
              intro sc45 y45_3 y45_5 hIc45 hFc45 j45_2 j45_5 mm45
              refine gg_w (M := 1 + k21 * 10817109402 + 1 + k27 * 2703601 + 1 + k45 * 900 + 900) gws ?_
              refine g_iload 47 (gd rfl) rfl rfl ?_
              refine g_iload_n 48 (gd rfl) rfl rfl ?_
              refine g_cmp_lt 51 90 (gd rfl) rfl rfl (fun c48 => ?_) (fun c48 => ?_)
              · skip
                refine g_aload_n 91 (gd rfl) rfl rfl ?_
                refine g_getA (q2 := 55) 94 (gd rfl) rfl rfl rfl rfl ?_
                refine g_iload 96 (gd rfl) rfl rfl ?_
                refine g_lload_n 97 (gd rfl) rfl rfl ?_
                refine g_lastore 98 (gd rfl) rfl (n := 2001) rfl (in_ix j45_5 rfl) ?_
                have hI97 := inv_sL (q := 55) (j := y45_5.toNatClampNeg) (x := y45_3) hIc45 rfl (l_rng y45_3)
                refine g_iinc 101 (gd rfl) rfl rfl (Nat.le_of_ble_eq_true rfl) (fun z98 e98 => ?_)
                have i98 := in_add 2 2002 e98 j45_2 (in_c 1 rfl) rfl rfl
                refine g_goto 27 (gd rfl) rfl ?_
                exact gg_w (by first | exact Nat.le_add_right _ _ | exact gw2 | exact gw3 | exact gwe rfl | exact gwf rfl | exact gwg rfl | exact gwh rfl | omega) (gg_f (gf_cons rfl (gf_cons rfl (gf_cons rfl gf_nil))) (ih27 (sL sc45 55 y45_5.toNatClampNeg y45_3) z98 hI97 (fr_sL rfl hFc45) (in_w 1 2001 j27_1 rfl) (in_w 1 4000 i98 rfl) (m_up mm27 (t_add e98 j45_2 (in_c 1 rfl) rfl) (in_w 1 1 (in_c 1 rfl) rfl))))
              · skip
                have i48 := r_le1 1 2000 c48 j27_1 j45_5 rfl
                have i48a := r_le2 1 2000 c48 j27_1 j45_5 rfl
                refine g_aload_n 52 (gd rfl) rfl rfl ?_
                refine g_getA (q2 := 55) 55 (gd rfl) rfl rfl rfl rfl ?_
                refine g_iload 57 (gd rfl) rfl rfl ?_
                refine g_iload_n 58 (gd rfl) rfl rfl ?_
                refine g_isub 59 (gd rfl) rfl (fun z58 e58 => ?_)
                have i58 := in_sub (-1999) 1999 e58 i48a i48 rfl rfl
                have i59 : In z58 0 2000 := by (first | have a0 := oa5 j45_2 i48 ro_49_11 i48a i58 | ((first | have a0 := in_u j45_2 | (have a0 := j45_2; unfold In at a0)); (first | have a1 := in_u i48 | (have a1 := i48; unfold In at a1)); (first | have a2 := in_u ro_49_11 | (have a2 := ro_49_11; unfold In at a2)); (first | have a3 := in_u i48a | (have a3 := i48a; unfold In at a3)); (first | have a4 := in_u i58 | (have a4 := i58; unfold In at a4)))); have a5 := t_sub e58 i48a i48 rfl; exact ⟨by omega, by omega⟩
                refine g_laload 60 (gd rfl) rfl (n := 2001) rfl (in_ix i59 rfl) (fun z59 e59 => ?_)
                refine g_lload_n 61 (gd rfl) rfl rfl ?_
                refine g_lcmp 62 (gd rfl) rfl (fun z61 e61 => ?_)
                have i61 := lc_in e61
                refine g_if_le 65 90 (gd rfl) rfl rfl (fun c62 => ?_) (fun c62 => ?_)
                · skip
                  have i62 := z_le (-1) 0 c62 i61 rfl
                  have c62a := lc_le e61 c62
                  refine g_aload_n 91 (gd rfl) rfl rfl ?_
                  refine g_getA (q2 := 55) 94 (gd rfl) rfl rfl rfl rfl ?_
                  refine g_iload 96 (gd rfl) rfl rfl ?_
                  refine g_lload_n 97 (gd rfl) rfl rfl ?_
                  refine g_lastore 98 (gd rfl) rfl (n := 2001) rfl (in_ix i48a rfl) ?_
                  have hI97 := inv_sL (q := 55) (j := y45_5.toNatClampNeg) (x := y45_3) hIc45 rfl (l_rng y45_3)
                  refine g_iinc 101 (gd rfl) rfl rfl (Nat.le_of_ble_eq_true rfl) (fun z98 e98 => ?_)
                  have i98 := in_add 2 2002 e98 j45_2 (in_c 1 rfl) rfl rfl
                  refine g_goto 27 (gd rfl) rfl ?_
                  exact gg_w (by first | exact Nat.le_add_right _ _ | exact gw2 | exact gw3 | exact gwe rfl | exact gwf rfl | exact gwg rfl | exact gwh rfl | omega) (gg_f (gf_cons rfl (gf_cons rfl (gf_cons rfl gf_nil))) (ih27 (sL sc45 55 y45_5.toNatClampNeg y45_3) z98 hI97 (fr_sL rfl hFc45) (in_w 1 2001 i48 rfl) (in_w 1 4000 i98 rfl) (m_up mm27 (t_add e98 j45_2 (in_c 1 rfl) rfl) (in_w 1 1 (in_c 1 rfl) rfl))))
                · skip
                  have i62 := z_gt 1 1 c62 i61 rfl
                  have c62a := lc_gt e61 c62
                  have i62a := lr_lt1 (-9223372036854775808) 9223372036854775806 c62a (l_rng y45_3) (l_rng z59) rfl
                  have i62b := lr_lt2 (-9223372036854775807) 9223372036854775807 c62a (l_rng y45_3) (l_rng z59) rfl
                  refine g_aload_n 66 (gd rfl) rfl rfl ?_
                  refine g_getA (q2 := 55) 69 (gd rfl) rfl rfl rfl rfl ?_
                  refine g_iload 71 (gd rfl) rfl rfl ?_
                  refine g_aload_n 72 (gd rfl) rfl rfl ?_
                  refine g_getA (q2 := 55) 75 (gd rfl) rfl rfl rfl rfl ?_
                  refine g_iload 77 (gd rfl) rfl rfl ?_
                  refine g_iload_n 78 (gd rfl) rfl rfl ?_
                  refine g_isub 79 (gd rfl) rfl (fun z78 e78 => ?_)
                  have i78 := in_sub (-1999) 1999 e78 i48a i48 rfl rfl
                  have i79 : In z78 0 2000 := by (first | have a0 := oa5 j45_2 i48 ro_49_11 i48a i78 | ((first | have a0 := in_u j45_2 | (have a0 := j45_2; unfold In at a0)); (first | have a1 := in_u i48 | (have a1 := i48; unfold In at a1)); (first | have a2 := in_u ro_49_11 | (have a2 := ro_49_11; unfold In at a2)); (first | have a3 := in_u i48a | (have a3 := i48a; unfold In at a3)); (first | have a4 := in_u i78 | (have a4 := i78; unfold In at a4)))); have a5 := t_sub e78 i48a i48 rfl; (first | have a6 := in_u i59 | (have a6 := i59; unfold In at a6)); have a7 := t_sub e58 i48a i48 rfl; exact ⟨by omega, by omega⟩
                  refine g_laload 80 (gd rfl) rfl (n := 2001) rfl (in_ix i79 rfl) (fun z79 e79 => ?_)
                  refine g_lastore 81 (gd rfl) rfl (n := 2001) rfl (in_ix i48a rfl) ?_
                  have hI80 := inv_sL (q := 55) (j := y45_5.toNatClampNeg) (x := z79) hIc45 rfl (l_rng z79)
                  refine g_iload 83 (gd rfl) rfl rfl ?_
                  refine g_iload_n 84 (gd rfl) rfl rfl ?_
                  refine g_isub 85 (gd rfl) rfl (fun z84 e84 => ?_)
                  have i84 := in_sub (-1999) 1999 e84 i48a i48 rfl rfl
                  refine g_istore 87 (gd rfl) rfl (Nat.le_of_ble_eq_true rfl) ?_
                  refine g_goto 45 (gd rfl) rfl ?_
                  have i45 : In z84 0 2000 := by exact ⟨by (first | have a0 := oa5 j45_2 i48 ro_49_11 i48a i84 | ((first | have a0 := in_u j45_2 | (have a0 := j45_2; unfold In at a0)); (first | have a1 := in_u i48 | (have a1 := i48; unfold In at a1)); (first | have a2 := in_u ro_49_11 | (have a2 := ro_49_11; unfold In at a2)); (first | have a3 := in_u i48a | (have a3 := i48a; unfold In at a3)); (first | have a4 := in_u i84 | (have a4 := i84; unfold In at a4)))); have a5 := t_sub e84 i48a i48 rfl; (first | have a6 := in_u i79 | (have a6 := i79; unfold In at a6)); have a7 := t_sub e78 i48a i48 rfl; (first | have a8 := in_u i59 | (have a8 := i59; unfold In at a8)); have a9 := t_sub e58 i48a i48 rfl; omega, by (first | have a0 := oa5 j45_2 i48 ro_49_11 i48a i84 | ((first | have a0 := in_u j45_2 | (have a0 := j45_2; unfold In at a0)); (first | have a1 := in_u i48 | (have a1 := i48; unfold In at a1)); (first | have a2 := in_u ro_49_11 | (have a2 := ro_49_11; unfold In at a2)); (first | have a3 := in_u i48a | (have a3 := i48a; unfold In at a3)); (first | have a4 := in_u i84 | (have a4 := i84; unfold In at a4)))); have a5 := t_sub e84 i48a i48 rfl; (first | have a6 := in_u i79 | (have a6 := i79; unfold In at a6)); have a7 := t_sub e78 i48a i48 rfl; (first | have a8 := in_u i59 | (have a8 := i59; unfold In at a8)); have a9 := t_sub e58 i48a i48 rfl; omega⟩
                  have m45 : (z84).toInt < ((k45 : Nat) : Int) := by (first | have a0 := oa5 j45_2 i48 ro_49_11 i48a i45 | ((first | have a0 := in_u j45_2 | (have a0 := j45_2; unfold In at a0)); (first | have a1 := in_u i48 | (have a1 := i48; unfold In at a1)); (first | have a2 := in_u ro_49_11 | (have a2 := ro_49_11; unfold In at a2)); (first | have a3 := in_u i48a | (have a3 := i48a; unfold In at a3)); (first | have a4 := in_u i45 | (have a4 := i45; unfold In at a4)))); have a5 := t_sub e84 i48a i48 rfl; (first | have a6 := in_u i79 | (have a6 := i79; unfold In at a6)); have a7 := t_sub e78 i48a i48 rfl; (first | have a8 := in_u i59 | (have a8 := i59; unfold In at a8)); have a9 := t_sub e58 i48a i48 rfl; omega
                  exact gg_w (by first | exact Nat.le_add_right _ _ | exact gw2 | exact gw3 | exact gwe rfl | exact gwf rfl | exact gwg rfl | exact gwh rfl | omega) (gg_f (gf_cons rfl (gf_cons rfl (gf_cons rfl (gf_cons rfl (gf_cons rfl gf_nil))))) (ih45  (sL sc45 55 y45_5.toNatClampNeg z79) y45_3 z84 hI80 (fr_sL rfl hFc45) (in_w 1 2001 j45_2 rfl) i45 m45))
          refine g_iload_n 28 (gd rfl) rfl rfl ?_
          refine g_aload_n 29 (gd rfl) rfl rfl ?_
          refine g_getI 32 (gd rfl) rfl rfl rfl (fun z29 e29 => ?_)
          have q29 : u_49_11 = z29 := (fr_F e_49_11 hFc27 rfl).trans e29.symm
          subst q29
          refine g_cmp_ge 35 104 (gd rfl) rfl rfl (fun c32 => ?_) (fun c32 => ?_)
          · skip
            refine g_iload_n 105 (gd rfl) rfl rfl ?_
            refine g_iconst 3 106 (gd rfl) rfl rfl ?_
            refine g_idiv 107 (gd rfl) rfl (by decide) (fun z106 e106 => ?_)
            have i106 := in_div 0 667 e106 j27_1 rfl rfl
            refine g_istore_n 108 (gd rfl) rfl (Nat.le_of_ble_eq_true rfl) ?_
            refine g_goto 21 (gd rfl) rfl ?_
            have m21 : (z106).toInt < ((k21 : Nat) : Int) := by (first | have a0 := oa4 j27_1 ro_49_11 j27_2 i106 | ((first | have a0 := in_u j27_1 | (have a0 := j27_1; unfold In at a0)); (first | have a1 := in_u ro_49_11 | (have a1 := ro_49_11; unfold In at a1)); (first | have a2 := in_u j27_2 | (have a2 := j27_2; unfold In at a2)); (first | have a3 := in_u i106 | (have a3 := i106; unfold In at a3)))); have a4 := t_div e106 j27_1 rfl; omega
            exact gg_w (by first | exact Nat.le_add_right _ _ | exact gw2 | exact gw3 | exact gwe rfl | exact gwf rfl | exact gwg rfl | exact gwh rfl | omega) (gg_f (gf_cons rfl (gf_cons rfl gf_nil)) (ih21  sc27 z106 hIc27 hFc27 (in_w 0 2001 i106 rfl) m21))
          · skip
            have i32 := r_lt1 1 2000 c32 j27_2 ro_49_11 rfl
            have i32a := r_lt2 2 2001 c32 j27_2 ro_49_11 rfl
            refine g_aload_n 36 (gd rfl) rfl rfl ?_
            refine g_getA (q2 := 55) 39 (gd rfl) rfl rfl rfl rfl ?_
            refine g_iload_n 40 (gd rfl) rfl rfl ?_
            refine g_laload 41 (gd rfl) rfl (n := 2001) rfl (in_ix i32 rfl) (fun z40 e40 => ?_)
            refine g_lstore_n 42 (gd rfl) rfl (Nat.le_of_ble_eq_true rfl) ?_
            refine g_iload_n 43 (gd rfl) rfl rfl ?_
            refine g_istore 45 (gd rfl) rfl (Nat.le_of_ble_eq_true rfl) ?_
            have m45 : (y27_2).toInt < ((3001 : Nat) : Int) := by (first | have a0 := oa3 j27_1 i32a i32 | ((first | have a0 := in_u j27_1 | (have a0 := j27_1; unfold In at a0)); (first | have a1 := in_u i32a | (have a1 := i32a; unfold In at a1)); (first | have a2 := in_u i32 | (have a2 := i32; unfold In at a2)))); omega
            exact gg_w (by first | exact Nat.le_add_right _ _ | exact gw2 | exact gw3 | exact gwe rfl | exact gwf rfl | exact gwg rfl | exact gwh rfl | omega) (gg_f (gf_cons rfl (gf_cons rfl (gf_cons rfl (gf_cons rfl (gf_cons rfl gf_nil))))) (ct45 3001 sc27 z40 y27_2 hIc27 hFc27 (in_w 1 2001 i32 rfl) (in_w 0 2000 i32 rfl) m45))
      refine g_iload_n 22 (gd rfl) rfl rfl ?_
      refine g_if_le 25 111 (gd rfl) rfl rfl (fun c22 => ?_) (fun c22 => ?_)
      · skip
        have i22 := z_le 0 0 c22 j21_1 rfl
        exact g_return (gd rfl) rfl (hP _ _ ⟨sc21, hIc21, hFc21, rfl, rfl⟩)
      · skip
        have i22 := z_gt 1 2001 c22 j21_1 rfl
        refine g_iload_n 26 (gd rfl) rfl rfl ?_
        refine g_istore_n 27 (gd rfl) rfl (Nat.le_of_ble_eq_true rfl) ?_
        exact gg_w (by first | exact Nat.le_add_right _ _ | exact gw2 | exact gw3 | exact gwe rfl | exact gwf rfl | exact gwg rfl | exact gwh rfl | omega) (gg_f (gf_cons rfl (gf_cons rfl (gf_cons rfl gf_nil))) (ct27 4000 sc21 y21_1 hIc21 hFc21 (in_w 1 2001 i22 rfl) (in_w 1 4000 i22 rfl) (m_in 4000 (in_w 1 4000 i22 rfl) rfl)))
  have ct2 : ∀ (k2 : Nat) (sc2 : GS) (y2_1 : Int32), Inv sc2 → Fr fm_210_49 s sc2 → (In y2_1 1 2001) → 3000 - (y2_1).toInt < (k2 : Int) → GG Z (d - 1) 210 post (gx xp) (32462145315404 + k2 * 900) 2 (fun j => xlook j [(0, .ref (A 49)), (1, .int y2_1)]) [] (WW Z A sc2 ++ ex) 0 0 := by
    intro k2
    induction k2 with
    | zero => intro sc2 y2_1 hIc2 hFc2 j2_1 mm2; exfalso; (first | have a0 := in_u ro_49_11 | (have a0 := ro_49_11; unfold In at a0)); have a1 := j2_1; unfold In at a1; omega
    | succ k2 ih2 =>
      intro sc2 y2_1 hIc2 hFc2 j2_1 mm2
      refine gg_w (M := 32462145315404 + k2 * 900 + 900) gws ?_
      refine g_iload_n 3 (gd rfl) rfl rfl ?_
      refine g_aload_n 4 (gd rfl) rfl rfl ?_
      refine g_getI 7 (gd rfl) rfl rfl rfl (fun z4 e4 => ?_)
      have q4 : u_49_11 = z4 := (fr_F e_49_11 hFc2 rfl).trans e4.symm
      subst q4
      refine g_iconst 3 8 (gd rfl) rfl rfl ?_
      refine g_idiv 9 (gd rfl) rfl (by decide) (fun z8 e8 => ?_)
      have i8 := in_div 0 667 e8 ro_49_11 rfl rfl
      refine g_cmp_ge 12 21 (gd rfl) rfl rfl (fun c9 => ?_) (fun c9 => ?_)
      · skip
        have m21 : (y2_1).toInt < ((3001 : Nat) : Int) := by (first | have a0 := oa3 ro_49_11 j2_1 i8 | ((first | have a0 := in_u ro_49_11 | (have a0 := ro_49_11; unfold In at a0)); (first | have a1 := in_u j2_1 | (have a1 := j2_1; unfold In at a1)); (first | have a2 := in_u i8 | (have a2 := i8; unfold In at a2)))); have a3 := t_div e8 ro_49_11 rfl; omega
        exact gg_w (by first | exact Nat.le_add_right _ _ | exact gw2 | exact gw3 | exact gwe rfl | exact gwf rfl | exact gwg rfl | exact gwh rfl | omega) (gg_f (gf_cons rfl (gf_cons rfl gf_nil)) (ct21 3001 sc2 y2_1 hIc2 hFc2 (in_w 0 2001 j2_1 rfl) m21))
      · skip
        have i9 := r_lt1 1 666 c9 j2_1 i8 rfl
        have i9a := r_lt2 2 667 c9 j2_1 i8 rfl
        refine g_iconst 3 13 (gd rfl) rfl rfl ?_
        refine g_iload_n 14 (gd rfl) rfl rfl ?_
        refine g_imul 15 (gd rfl) rfl (fun z14 e14 => ?_)
        have i14 := in_mulc 3 3 1998 (Or.inl e14) i9 rfl rfl
        refine g_iconst 1 16 (gd rfl) rfl rfl ?_
        refine g_iadd 17 (gd rfl) rfl (fun z16 e16 => ?_)
        have i16 := in_add 4 1999 e16 i14 (in_c 1 rfl) rfl rfl
        refine g_istore_n 18 (gd rfl) rfl (Nat.le_of_ble_eq_true rfl) ?_
        refine g_goto 2 (gd rfl) rfl ?_
        have m2 : 3000 - (z16).toInt < ((k2 : Nat) : Int) := by (first | have a0 := oa3 ro_49_11 i9 i16 | ((first | have a0 := in_u ro_49_11 | (have a0 := ro_49_11; unfold In at a0)); (first | have a1 := in_u i9 | (have a1 := i9; unfold In at a1)); (first | have a2 := in_u i16 | (have a2 := i16; unfold In at a2)))); have a3 := t_add e16 i14 (in_c 1 rfl) rfl; (first | have a4 := oa2 ((in_c 1 rfl)) i14 | ((first | have a4 := in_u ((in_c 1 rfl)) | (have a4 := (in_c 1 rfl); unfold In at a4)); (first | have a5 := in_u i14 | (have a5 := i14; unfold In at a5)))); have a6 := (t_mulc 3 (Or.inl e14) i9 rfl).1; (first | have a7 := in_u i9a | (have a7 := i9a; unfold In at a7)); have a8 := t_div e8 ro_49_11 rfl; omega
        exact gg_w (by first | exact Nat.le_add_right _ _ | exact gw2 | exact gw3 | exact gwe rfl | exact gwf rfl | exact gwg rfl | exact gwh rfl | omega) (gg_f (gf_cons rfl (gf_cons rfl gf_nil)) (ih2  sc2 z16 hIc2 hFc2 (in_w 1 2001 i16 rfl) m2))
  refine g_enter2 (k := 210) (N := 32462148017204) (by first | exact dq1 hd rfl | exact dq0 hd rfl | exact dq2 hd rfl | exact dq3 hd rfl | omega) rfl (Nat.le_of_ble_eq_true rfl) ?_
  refine g_iconst 1 1 (gd rfl) rfl rfl ?_
  refine g_istore_n 2 (gd rfl) rfl (Nat.le_of_ble_eq_true rfl) ?_
  have m2 : 3000 - ((Int32.ofInt 1)).toInt < ((3001 : Nat) : Int) := by (first | have a0 := oa2 ro_49_11 ((in_c 1 rfl)) | ((first | have a0 := in_u ro_49_11 | (have a0 := ro_49_11; unfold In at a0)); (first | have a1 := in_u ((in_c 1 rfl)) | (have a1 := (in_c 1 rfl); unfold In at a1)))); omega
  exact gg_w (by first | exact Nat.le_of_ble_eq_true rfl | omega) (gg_f (gf_cons rfl (gf_cons rfl gf_nil)) (ct2 3001 s (Int32.ofInt 1) hI fr_rf (in_w 1 2001 (in_c 1 rfl) rfl) m2))

def fm_219_0 : FM := ([], [], [], [])
/-- GraphHouse.size -/
theorem k_219_0 {Z : AmZ} {A : Nat → Nat} {s : GS} {ex : va_W} {d : Nat} {x1 : Int32} (hd : 7 ≤ d) (hI : Inv s)  : GC Z d 219 [.ref (A 0), .int x1] (WW Z A s ++ ex) 3 18 (fun v u => ∃ t : GS, Inv t ∧ Fr fm_219_0 s t ∧ ∃ z : Int32, v = some (.int z) ∧ u = WW Z A t ++ ex ∧ In z (-2147483648) 2147483647) (gE1 Z A ex fm_219_0 s) := by
  intro post xp hP hX
  obtain ⟨u_0_2, e_0_2⟩ : ∃ w, w = s.2.2.1 0 2 := ⟨_, rfl⟩
  have ro_0_2 := inv_F hI (-1) 4000 rfl e_0_2
  obtain ⟨u_2_1, e_2_1⟩ : ∃ w, w = s.2.2.1 2 1 := ⟨_, rfl⟩
  have ro_2_1 := inv_F hI 0 32 rfl e_2_1
  obtain ⟨u_2_2, e_2_2⟩ : ∃ w, w = s.2.2.1 2 2 := ⟨_, rfl⟩
  obtain ⟨u_2_3, e_2_3⟩ : ∃ w, w = s.2.2.1 2 3 := ⟨_, rfl⟩
  have ro_2_3 := inv_F hI 0 160 rfl e_2_3
  obtain ⟨u_32_1, e_32_1⟩ : ∃ w, w = s.2.2.1 32 1 := ⟨_, rfl⟩
  have ro_32_1 := inv_F hI 0 32 rfl e_32_1
  obtain ⟨u_32_2, e_32_2⟩ : ∃ w, w = s.2.2.1 32 2 := ⟨_, rfl⟩
  obtain ⟨u_32_3, e_32_3⟩ : ∃ w, w = s.2.2.1 32 3 := ⟨_, rfl⟩
  have ro_32_3 := inv_F hI 0 160 rfl e_32_3
  refine g_enter2 (k := 219) (N := 900) (by first | exact dq1 hd rfl | exact dq0 hd rfl | exact dq2 hd rfl | exact dq3 hd rfl | omega) rfl (Nat.le_of_ble_eq_true rfl) ?_
  refine g_iload_n 1 (gd rfl) rfl rfl ?_
  refine g_if_lt 4 13 (gd rfl) rfl rfl (fun c1 => ?_) (fun c1 => ?_)
  · skip
    have i1 := z_lt (-2147483648) (-1) c1 (i_rng x1) rfl
    refine g_iconst 0 14 (gd rfl) rfl rfl ?_
    refine g_thr (E := am_IA) (y := yX11_allow) 17 (gd rfl) rfl rfl (Or.inl ⟨rfl, rfl, rfl⟩) (by first | exact dq1 hd rfl | exact dq0 hd rfl | exact dq2 hd rfl | exact dq3 hd rfl | omega) (Nat.le_of_ble_eq_true rfl) (Nat.le_of_ble_eq_true rfl) (Nat.le_of_ble_eq_true rfl) (fun c14 => ?_) (fun c14 => ?_)
    · skip
      exact zn_ne c14 (in_c 0 rfl) rfl
    · skip
      exact (hX _ _ ⟨rfl, s, hI, fr_rf, rfl⟩)
  · skip
    have i1 := z_ge 0 2147483647 c1 (i_rng x1) rfl
    refine g_iload_n 5 (gd rfl) rfl rfl ?_
    refine g_iconst 3 6 (gd rfl) rfl rfl ?_
    refine g_cmp_gt 9 13 (gd rfl) rfl rfl (fun c6 => ?_) (fun c6 => ?_)
    · skip
      have i6 := r_lt2 4 2147483647 c6 (in_c 3 rfl) i1 rfl
      refine g_iconst 0 14 (gd rfl) rfl rfl ?_
      refine g_thr (E := am_IA) (y := yX11_allow) 17 (gd rfl) rfl rfl (Or.inl ⟨rfl, rfl, rfl⟩) (by first | exact dq1 hd rfl | exact dq0 hd rfl | exact dq2 hd rfl | exact dq3 hd rfl | omega) (Nat.le_of_ble_eq_true rfl) (Nat.le_of_ble_eq_true rfl) (Nat.le_of_ble_eq_true rfl) (fun c14 => ?_) (fun c14 => ?_)
      · skip
        exact zn_ne c14 (in_c 0 rfl) rfl
      · skip
        exact (hX _ _ ⟨rfl, s, hI, fr_rf, rfl⟩)
    · skip
      have i6 := r_le1 0 3 c6 i1 (in_c 3 rfl) rfl
      refine g_iconst 1 10 (gd rfl) rfl rfl ?_
      refine g_goto 14 (gd rfl) rfl ?_
      refine g_thr (E := am_IA) (y := yX11_allow) 17 (gd rfl) rfl rfl (Or.inl ⟨rfl, rfl, rfl⟩) (by first | exact dq1 hd rfl | exact dq0 hd rfl | exact dq2 hd rfl | exact dq3 hd rfl | omega) (Nat.le_of_ble_eq_true rfl) (Nat.le_of_ble_eq_true rfl) (Nat.le_of_ble_eq_true rfl) (fun c14 => ?_) (fun c14 => ?_)
      · skip
        refine g_aload_n 18 (gd rfl) rfl rfl ?_
        refine g_callv (X := _) (As := []) (r := []) (b := A 0) (q := 0) 21 (gd rfl) rfl rfl rfl rfl rfl (ww_o rfl) (Nat.le_of_ble_eq_true rfl) (mc := 0) (ms := 0) (Nat.zero_le _) (Nat.zero_le _) (P := fun v u => _) ?_ (fun e u h => h) (fun v u h => h)
        intro po18 xx18 hp18 hx18
        refine g_enter2 (k := 259) (N := 300) (by first | exact dq1 hd rfl | exact dq0 hd rfl | exact dq2 hd rfl | exact dq3 hd rfl | omega) rfl (Nat.le_of_ble_eq_true rfl) ?_
        refine g_aload_n 1 (gd rfl) rfl rfl ?_
        refine g_getI 4 (gd rfl) rfl rfl rfl (fun z18x1 e18x1 => ?_)
        have q18x1 : u_0_2 = z18x1 := (e_0_2).trans e18x1.symm
        subst q18x1
        refine g_iconst (-1) 5 (gd rfl) rfl rfl ?_
        refine g_cmp_ne 8 18 (gd rfl) rfl rfl (fun c18x5 => ?_) (fun c18x5 => ?_)
        · skip
          have i18x5 := r_ne1 0 4000 c18x5 ro_0_2 (in_c (-1) rfl) rfl
          refine g_aload_n 19 (gd rfl) rfl rfl ?_
          refine g_getA (q2 := 32) 22 (gd rfl) rfl rfl rfl rfl ?_
          refine g_areturn (gd rfl) rfl (hp18 _ _ ?_)
          show GG _ _ _ _ _ _ _ _ [.ref (A 32)] _ _ _
          refine g_astore_n 22 (gd rfl) rfl (Nat.le_of_ble_eq_true rfl) ?_
          refine g_iload_n 23 (gd rfl) rfl rfl ?_
          refine g_tsw [48, 53, 58] 63 (gd rfl) rfl rfl rfl ⟨fun c23 => ?_, fun c23 => ?_, fun c23 => ?_, trivial⟩ (fun c23 => ?_)
          · skip
            have i23 := sw_eq c23
            refine g_aload_n 49 (gd rfl) rfl rfl ?_
            refine g_getI 52 (gd rfl) rfl rfl rfl (fun z49 e49 => ?_)
            have q49 : u_32_1 = z49 := (e_32_1).trans e49.symm
            subst q49
            exact g_ireturn (gd rfl) rfl rfl (hP _ _ ⟨s, hI, fr_rf, u_32_1, rfl, rfl, in_w (-2147483648) 2147483647 ro_32_1 rfl⟩)
          · skip
            have i23 := sw_eq c23
            refine g_aload_n 54 (gd rfl) rfl rfl ?_
            refine g_getI 57 (gd rfl) rfl rfl rfl (fun z54 e54 => ?_)
            have q54 : u_32_2 = z54 := (e_32_2).trans e54.symm
            subst q54
            exact g_ireturn (gd rfl) rfl rfl (hP _ _ ⟨s, hI, fr_rf, u_32_2, rfl, rfl, in_w (-2147483648) 2147483647 (i_rng u_32_2) rfl⟩)
          · skip
            have i23 := sw_eq c23
            refine g_aload_n 59 (gd rfl) rfl rfl ?_
            refine g_callv (X := _) (As := []) (r := []) (b := A 32) (q := 32) 62 (gd rfl) rfl rfl rfl rfl rfl (ww_o rfl) (Nat.le_of_ble_eq_true rfl) (Nat.zero_le _) (Nat.zero_le _) (k_98_32 (by first | exact dq1 hd rfl | exact dq0 hd rfl | exact dq2 hd rfl | exact dq3 hd rfl | omega) hI ) (fun e u h => h) (fun v u h => ?_)
            obtain ⟨z59, rfl, rfl, i59⟩ := h
            show GG _ _ _ _ _ _ _ _ [.int z59] _ _ _
            exact g_ireturn (gd rfl) rfl rfl (hP _ _ ⟨s, hI, fr_rf, z59, rfl, rfl, in_w (-2147483648) 2147483647 i59 rfl⟩)
          · skip
            refine g_aload_n 64 (gd rfl) rfl rfl ?_
            refine g_getI 67 (gd rfl) rfl rfl rfl (fun z64 e64 => ?_)
            have q64 : u_32_3 = z64 := (e_32_3).trans e64.symm
            subst q64
            refine g_iconst 1 68 (gd rfl) rfl rfl ?_
            refine g_isub 69 (gd rfl) rfl (fun z68 e68 => ?_)
            have i68 := in_sub (-1) 159 e68 ro_32_3 (in_c 1 rfl) rfl rfl
            exact g_ireturn (gd rfl) rfl rfl (hP _ _ ⟨s, hI, fr_rf, z68, rfl, rfl, in_w (-2147483648) 2147483647 i68 rfl⟩)
        · skip
          have i18x5 := r_eq1 (-1) (-1) c18x5 ro_0_2 (in_c (-1) rfl) rfl
          refine g_aload_n 9 (gd rfl) rfl rfl ?_
          refine g_getA (q2 := 1) 12 (gd rfl) rfl rfl rfl rfl ?_
          refine g_getA (q2 := 2) 15 (gd rfl) rfl rfl rfl rfl ?_
          refine g_goto 22 (gd rfl) rfl ?_
          refine g_areturn (gd rfl) rfl (hp18 _ _ ?_)
          show GG _ _ _ _ _ _ _ _ [.ref (A 2)] _ _ _
          refine g_astore_n 22 (gd rfl) rfl (Nat.le_of_ble_eq_true rfl) ?_
          refine g_iload_n 23 (gd rfl) rfl rfl ?_
          refine g_tsw [48, 53, 58] 63 (gd rfl) rfl rfl rfl ⟨fun c23 => ?_, fun c23 => ?_, fun c23 => ?_, trivial⟩ (fun c23 => ?_)
          · skip
            have i23 := sw_eq c23
            refine g_aload_n 49 (gd rfl) rfl rfl ?_
            refine g_getI 52 (gd rfl) rfl rfl rfl (fun z49 e49 => ?_)
            have q49 : u_2_1 = z49 := (e_2_1).trans e49.symm
            subst q49
            exact g_ireturn (gd rfl) rfl rfl (hP _ _ ⟨s, hI, fr_rf, u_2_1, rfl, rfl, in_w (-2147483648) 2147483647 ro_2_1 rfl⟩)
          · skip
            have i23 := sw_eq c23
            refine g_aload_n 54 (gd rfl) rfl rfl ?_
            refine g_getI 57 (gd rfl) rfl rfl rfl (fun z54 e54 => ?_)
            have q54 : u_2_2 = z54 := (e_2_2).trans e54.symm
            subst q54
            exact g_ireturn (gd rfl) rfl rfl (hP _ _ ⟨s, hI, fr_rf, u_2_2, rfl, rfl, in_w (-2147483648) 2147483647 (i_rng u_2_2) rfl⟩)
          · skip
            have i23 := sw_eq c23
            refine g_aload_n 59 (gd rfl) rfl rfl ?_
            refine g_callv (X := _) (As := []) (r := []) (b := A 2) (q := 2) 62 (gd rfl) rfl rfl rfl rfl rfl (ww_o rfl) (Nat.le_of_ble_eq_true rfl) (Nat.zero_le _) (Nat.zero_le _) (k_98_2 (by first | exact dq1 hd rfl | exact dq0 hd rfl | exact dq2 hd rfl | exact dq3 hd rfl | omega) hI ) (fun e u h => h) (fun v u h => ?_)
            obtain ⟨z59, rfl, rfl, i59⟩ := h
            show GG _ _ _ _ _ _ _ _ [.int z59] _ _ _
            exact g_ireturn (gd rfl) rfl rfl (hP _ _ ⟨s, hI, fr_rf, z59, rfl, rfl, in_w (-2147483648) 2147483647 i59 rfl⟩)
          · skip
            refine g_aload_n 64 (gd rfl) rfl rfl ?_
            refine g_getI 67 (gd rfl) rfl rfl rfl (fun z64 e64 => ?_)
            have q64 : u_2_3 = z64 := (e_2_3).trans e64.symm
            subst q64
            refine g_iconst 1 68 (gd rfl) rfl rfl ?_
            refine g_isub 69 (gd rfl) rfl (fun z68 e68 => ?_)
            have i68 := in_sub (-1) 159 e68 ro_2_3 (in_c 1 rfl) rfl rfl
            exact g_ireturn (gd rfl) rfl rfl (hP _ _ ⟨s, hI, fr_rf, z68, rfl, rfl, in_w (-2147483648) 2147483647 i68 rfl⟩)
      · skip
        exact zn_eq c14 (in_c 1 rfl) rfl

def fm_220_0 : FM := ([], [], [], [])
/-- GraphHouse.told -/
theorem k_220_0 {Z : AmZ} {A : Nat → Nat} {s : GS} {ex : va_W} {d : Nat} {x1 : Int32} {x2 : Int32} (hd : 7 ≤ d) (hI : Inv s)  : GC Z d 220 [.ref (A 0), .int x1, .int x2] (WW Z A s ++ ex) 3 18 (fun v u => ∃ t : GS, Inv t ∧ Fr fm_220_0 s t ∧ ∃ z : Int64, v = some (.long z) ∧ u = WW Z A t ++ ex) (gE1 Z A ex fm_220_0 s) := by
  intro post xp hP hX
  obtain ⟨u_0_2, e_0_2⟩ : ∃ w, w = s.2.2.1 0 2 := ⟨_, rfl⟩
  have ro_0_2 := inv_F hI (-1) 4000 rfl e_0_2
  obtain ⟨u_2_3, e_2_3⟩ : ∃ w, w = s.2.2.1 2 3 := ⟨_, rfl⟩
  have ro_2_3 := inv_F hI 0 160 rfl e_2_3
  obtain ⟨u_32_3, e_32_3⟩ : ∃ w, w = s.2.2.1 32 3 := ⟨_, rfl⟩
  have ro_32_3 := inv_F hI 0 160 rfl e_32_3
  have ct24 : ∀ (sc24 : GS) , Inv sc24 → Fr fm_220_0 s sc24 → GG Z (d - 1) 220 post (gx xp) (901) 24 (fun j => xlook j [(0, .ref (A 0)), (1, .int x1), (2, .int x2)]) [] (WW Z A sc24 ++ ex) 3 18 := by
    intro sc24  hIc24 hFc24 
    refine g_iconst 0 25 (gd rfl) rfl rfl ?_
    refine g_thr (E := am_IA) (y := yX11_allow) 28 (gd rfl) rfl rfl (Or.inl ⟨rfl, rfl, rfl⟩) (by first | exact dq1 hd rfl | exact dq0 hd rfl | exact dq2 hd rfl | exact dq3 hd rfl | omega) (Nat.le_of_ble_eq_true rfl) (Nat.le_of_ble_eq_true rfl) (Nat.le_of_ble_eq_true rfl) (fun c25 => ?_) (fun c25 => ?_)
    · skip
      exact zn_ne c25 (in_c 0 rfl) rfl
    · skip
      exact (hX _ _ ⟨rfl, sc24, hIc24, hFc24, rfl⟩)
  refine g_enter2 (k := 220) (N := 1801) (by first | exact dq1 hd rfl | exact dq0 hd rfl | exact dq2 hd rfl | exact dq3 hd rfl | omega) rfl (Nat.le_of_ble_eq_true rfl) ?_
  refine g_iload_n 1 (gd rfl) rfl rfl ?_
  refine g_if_lt 4 24 (gd rfl) rfl rfl (fun c1 => ?_) (fun c1 => ?_)
  · skip
    have i1 := z_lt (-2147483648) (-1) c1 (i_rng x1) rfl
    exact gg_w (by first | exact Nat.le_of_ble_eq_true rfl | omega) (gg_f (gf_cons rfl (gf_cons rfl (gf_cons rfl gf_nil))) (ct24 s  hI fr_rf ))
  · skip
    have i1 := z_ge 0 2147483647 c1 (i_rng x1) rfl
    refine g_iload_n 5 (gd rfl) rfl rfl ?_
    refine g_sipush 160 8 (gd rfl) rfl rfl ?_
    refine g_cmp_ge 11 24 (gd rfl) rfl rfl (fun c8 => ?_) (fun c8 => ?_)
    · skip
      have i8 := r_le2 160 2147483647 c8 (in_c 160 rfl) i1 rfl
      exact gg_w (by first | exact Nat.le_of_ble_eq_true rfl | omega) (gg_f (gf_cons rfl (gf_cons rfl (gf_cons rfl gf_nil))) (ct24 s  hI fr_rf ))
    · skip
      have i8 := r_lt1 0 159 c8 i1 (in_c 160 rfl) rfl
      refine g_iload_n 12 (gd rfl) rfl rfl ?_
      refine g_if_lt 15 24 (gd rfl) rfl rfl (fun c12 => ?_) (fun c12 => ?_)
      · skip
        have i12 := z_lt (-2147483648) (-1) c12 (i_rng x2) rfl
        exact gg_w (by first | exact Nat.le_of_ble_eq_true rfl | omega) (gg_f (gf_cons rfl (gf_cons rfl (gf_cons rfl gf_nil))) (ct24 s  hI fr_rf ))
      · skip
        have i12 := z_ge 0 2147483647 c12 (i_rng x2) rfl
        refine g_iload_n 16 (gd rfl) rfl rfl ?_
        refine g_iconst 4 17 (gd rfl) rfl rfl ?_
        refine g_cmp_gt 20 24 (gd rfl) rfl rfl (fun c17 => ?_) (fun c17 => ?_)
        · skip
          have i17 := r_lt2 5 2147483647 c17 (in_c 4 rfl) i12 rfl
          exact gg_w (by first | exact Nat.le_of_ble_eq_true rfl | omega) (gg_f (gf_cons rfl (gf_cons rfl (gf_cons rfl gf_nil))) (ct24 s  hI fr_rf ))
        · skip
          have i17 := r_le1 0 4 c17 i12 (in_c 4 rfl) rfl
          refine g_iconst 1 21 (gd rfl) rfl rfl ?_
          refine g_goto 25 (gd rfl) rfl ?_
          refine g_thr (E := am_IA) (y := yX11_allow) 28 (gd rfl) rfl rfl (Or.inl ⟨rfl, rfl, rfl⟩) (by first | exact dq1 hd rfl | exact dq0 hd rfl | exact dq2 hd rfl | exact dq3 hd rfl | omega) (Nat.le_of_ble_eq_true rfl) (Nat.le_of_ble_eq_true rfl) (Nat.le_of_ble_eq_true rfl) (fun c25 => ?_) (fun c25 => ?_)
          · skip
            refine g_aload_n 29 (gd rfl) rfl rfl ?_
            refine g_callv (X := _) (As := []) (r := []) (b := A 0) (q := 0) 32 (gd rfl) rfl rfl rfl rfl rfl (ww_o rfl) (Nat.le_of_ble_eq_true rfl) (mc := 0) (ms := 0) (Nat.zero_le _) (Nat.zero_le _) (P := fun v u => _) ?_ (fun e u h => h) (fun v u h => h)
            intro po29 xx29 hp29 hx29
            refine g_enter2 (k := 259) (N := 300) (by first | exact dq1 hd rfl | exact dq0 hd rfl | exact dq2 hd rfl | exact dq3 hd rfl | omega) rfl (Nat.le_of_ble_eq_true rfl) ?_
            refine g_aload_n 1 (gd rfl) rfl rfl ?_
            refine g_getI 4 (gd rfl) rfl rfl rfl (fun z29x1 e29x1 => ?_)
            have q29x1 : u_0_2 = z29x1 := (e_0_2).trans e29x1.symm
            subst q29x1
            refine g_iconst (-1) 5 (gd rfl) rfl rfl ?_
            refine g_cmp_ne 8 18 (gd rfl) rfl rfl (fun c29x5 => ?_) (fun c29x5 => ?_)
            · skip
              have i29x5 := r_ne1 0 4000 c29x5 ro_0_2 (in_c (-1) rfl) rfl
              refine g_aload_n 19 (gd rfl) rfl rfl ?_
              refine g_getA (q2 := 32) 22 (gd rfl) rfl rfl rfl rfl ?_
              refine g_areturn (gd rfl) rfl (hp29 _ _ ?_)
              show GG _ _ _ _ _ _ _ _ [.ref (A 32)] _ _ _
              refine g_astore_n 33 (gd rfl) rfl (Nat.le_of_ble_eq_true rfl) ?_
              refine g_aload_n 34 (gd rfl) rfl rfl ?_
              refine g_iload_n 35 (gd rfl) rfl rfl ?_
              refine g_callv (X := _) (As := [.int x1]) (r := []) (b := A 32) (q := 32) 38 (gd rfl) rfl rfl rfl rfl rfl (ww_o rfl) (Nat.le_of_ble_eq_true rfl) (mc := 0) (ms := 0) (Nat.zero_le _) (Nat.zero_le _) (P := fun v u => _) ?_ (fun e u h => h) (fun v u h => h)
              intro po35 xx35 hp35 hx35
              refine g_enter2 (k := 96) (N := 300) (by first | exact dq1 hd rfl | exact dq0 hd rfl | exact dq2 hd rfl | exact dq3 hd rfl | omega) rfl (Nat.le_of_ble_eq_true rfl) ?_
              refine g_iload_n 1 (gd rfl) rfl rfl ?_
              refine g_if_lt 4 26 (gd rfl) rfl rfl (fun c35x1 => ?_) (fun c35x1 => ?_)
              · skip
                exact zn_lt c35x1 i8 rfl
              · skip
                refine g_iload_n 5 (gd rfl) rfl rfl ?_
                refine g_aload_n 6 (gd rfl) rfl rfl ?_
                refine g_getI 9 (gd rfl) rfl rfl rfl (fun z35x6 e35x6 => ?_)
                have q35x6 : u_32_3 = z35x6 := (e_32_3).trans e35x6.symm
                subst q35x6
                refine g_cmp_ge 12 26 (gd rfl) rfl rfl (fun c35x9 => ?_) (fun c35x9 => ?_)
                · skip
                  have i35x9 := r_le1 0 159 c35x9 ro_32_3 i8 rfl
                  refine g_iconst 0 27 (gd rfl) rfl rfl ?_
                  refine g_ireturn (gd rfl) rfl (nb01 (in_w 0 1 (in_c 0 rfl) rfl)) (hp35 _ _ ?_)
                  show GG _ _ _ _ _ _ _ _ [.int (Int32.ofInt 0)] _ _ _
                  refine g_if_ne 41 45 (gd rfl) rfl rfl (fun c38 => ?_) (fun c38 => ?_)
                  · skip
                    exact zn_ne c38 (in_c 0 rfl) rfl
                  · skip
                    refine g_ldc2_w 9000000000000000 44 (gd rfl) rfl rfl ?_
                    exact g_lreturn (gd rfl) rfl (hP _ _ ⟨s, hI, fr_rf, (Int64.ofInt 9000000000000000), rfl, rfl⟩)
                · skip
                  have i35x9 := r_lt2 1 160 c35x9 i8 ro_32_3 rfl
                  refine g_aload_n 13 (gd rfl) rfl rfl ?_
                  refine g_getA (q2 := 34) 16 (gd rfl) rfl rfl rfl rfl ?_
                  refine g_iload_n 17 (gd rfl) rfl rfl ?_
                  refine g_iaload 18 (gd rfl) rfl (n := 160) rfl (in_ix i8 rfl) (fun z35x17 e35x17 => ?_)
                  have i35x17 := inv_I hI (n := 160) (t := 0) (-1) 31 rfl (in_ix i8 rfl) rfl e35x17
                  refine g_iconst (-1) 19 (gd rfl) rfl rfl ?_
                  refine g_cmp_eq 22 26 (gd rfl) rfl rfl (fun c35x19 => ?_) (fun c35x19 => ?_)
                  · skip
                    have i35x19 := r_eq1 (-1) (-1) c35x19 i35x17 (in_c (-1) rfl) rfl
                    refine g_iconst 0 27 (gd rfl) rfl rfl ?_
                    refine g_ireturn (gd rfl) rfl (nb01 (in_w 0 1 (in_c 0 rfl) rfl)) (hp35 _ _ ?_)
                    show GG _ _ _ _ _ _ _ _ [.int (Int32.ofInt 0)] _ _ _
                    refine g_if_ne 41 45 (gd rfl) rfl rfl (fun c38 => ?_) (fun c38 => ?_)
                    · skip
                      exact zn_ne c38 (in_c 0 rfl) rfl
                    · skip
                      refine g_ldc2_w 9000000000000000 44 (gd rfl) rfl rfl ?_
                      exact g_lreturn (gd rfl) rfl (hP _ _ ⟨s, hI, fr_rf, (Int64.ofInt 9000000000000000), rfl, rfl⟩)
                  · skip
                    have i35x19 := r_ne1 0 31 c35x19 i35x17 (in_c (-1) rfl) rfl
                    refine g_iconst 1 23 (gd rfl) rfl rfl ?_
                    refine g_goto 27 (gd rfl) rfl ?_
                    refine g_ireturn (gd rfl) rfl (nb01 (in_w 0 1 (in_c 1 rfl) rfl)) (hp35 _ _ ?_)
                    show GG _ _ _ _ _ _ _ _ [.int (Int32.ofInt 1)] _ _ _
                    refine g_if_ne 41 45 (gd rfl) rfl rfl (fun c38 => ?_) (fun c38 => ?_)
                    · skip
                      refine g_iload_n 46 (gd rfl) rfl rfl ?_
                      refine g_if_ne 49 57 (gd rfl) rfl rfl (fun c46 => ?_) (fun c46 => ?_)
                      · skip
                        have i46 := z_ne 1 4 c46 i17 rfl
                        refine g_iload_n 58 (gd rfl) rfl rfl ?_
                        refine g_iconst 1 59 (gd rfl) rfl rfl ?_
                        refine g_cmp_ne 62 72 (gd rfl) rfl rfl (fun c59 => ?_) (fun c59 => ?_)
                        · skip
                          have i59 := r_ne1 2 4 c59 i46 (in_c 1 rfl) rfl
                          refine g_aload_n 73 (gd rfl) rfl rfl ?_
                          refine g_iload_n 74 (gd rfl) rfl rfl ?_
                          refine g_iload_n 75 (gd rfl) rfl rfl ?_
                          refine g_iconst 2 76 (gd rfl) rfl rfl ?_
                          refine g_isub 77 (gd rfl) rfl (fun z76 e76 => ?_)
                          have i76 := in_sub 0 2 e76 i59 (in_c 2 rfl) rfl rfl
                          refine g_callv (X := _) (As := [.int x1, .int z76]) (r := []) (b := A 32) (q := 32) 80 (gd rfl) rfl rfl rfl rfl rfl (ww_o rfl) (Nat.le_of_ble_eq_true rfl) (mc := 0) (ms := 0) (Nat.zero_le _) (Nat.zero_le _) (P := fun v u => _) ?_ (fun e u h => h) (fun v u h => h)
                          intro po77 xx77 hp77 hx77
                          refine g_enter2 (k := 100) (N := 300) (by first | exact dq1 hd rfl | exact dq0 hd rfl | exact dq2 hd rfl | exact dq3 hd rfl | omega) rfl (Nat.le_of_ble_eq_true rfl) ?_
                          refine g_iload_n 1 (gd rfl) rfl rfl ?_
                          refine g_if_ne 4 11 (gd rfl) rfl rfl (fun c77x1 => ?_) (fun c77x1 => ?_)
                          · skip
                            have i77x1 := z_ne 1 2 c77x1 i76 rfl
                            refine g_iload_n 12 (gd rfl) rfl rfl ?_
                            refine g_iconst 1 13 (gd rfl) rfl rfl ?_
                            refine g_cmp_ne 16 25 (gd rfl) rfl rfl (fun c77x13 => ?_) (fun c77x13 => ?_)
                            · skip
                              have i77x13 := r_ne1 2 2 c77x13 i77x1 (in_c 1 rfl) rfl
                              refine g_aload_n 26 (gd rfl) rfl rfl ?_
                              refine g_getA (q2 := 38) 29 (gd rfl) rfl rfl rfl rfl ?_
                              refine g_iload_n 30 (gd rfl) rfl rfl ?_
                              refine g_iaload 31 (gd rfl) rfl (n := 160) rfl (in_ix i8 rfl) (fun z77x30 e77x30 => ?_)
                              have i77x30 := inv_I hI (n := 160) (t := 0) 0 25 rfl (in_ix i8 rfl) rfl e77x30
                              refine g_ireturn (gd rfl) rfl rfl (hp77 _ _ ?_)
                              show GG _ _ _ _ _ _ _ _ [.int z77x30] _ _ _
                              refine g_i2l 81 (gd rfl) rfl (fun z80 e80 => ?_)
                              have i80 := l_i e80 i77x30
                              exact g_lreturn (gd rfl) rfl (hP _ _ ⟨s, hI, fr_rf, z80, rfl, rfl⟩)
                            · skip
                              have i77x13 := r_eq1 1 1 c77x13 i77x1 (in_c 1 rfl) rfl
                              refine g_aload_n 17 (gd rfl) rfl rfl ?_
                              refine g_getA (q2 := 37) 20 (gd rfl) rfl rfl rfl rfl ?_
                              refine g_iload_n 21 (gd rfl) rfl rfl ?_
                              refine g_iaload 22 (gd rfl) rfl (n := 160) rfl (in_ix i8 rfl) (fun z77x21 e77x21 => ?_)
                              have i77x21 := inv_I hI (n := 160) (t := 0) 0 1000000 rfl (in_ix i8 rfl) rfl e77x21
                              refine g_goto 31 (gd rfl) rfl ?_
                              refine g_ireturn (gd rfl) rfl rfl (hp77 _ _ ?_)
                              show GG _ _ _ _ _ _ _ _ [.int z77x21] _ _ _
                              refine g_i2l 81 (gd rfl) rfl (fun z80 e80 => ?_)
                              have i80 := l_i e80 i77x21
                              exact g_lreturn (gd rfl) rfl (hP _ _ ⟨s, hI, fr_rf, z80, rfl, rfl⟩)
                          · skip
                            have i77x1 := z_eq 0 0 c77x1 i76 rfl
                            refine g_aload_n 5 (gd rfl) rfl rfl ?_
                            refine g_getA (q2 := 36) 8 (gd rfl) rfl rfl rfl rfl ?_
                            refine g_iload_n 9 (gd rfl) rfl rfl ?_
                            refine g_iaload 10 (gd rfl) rfl (n := 160) rfl (in_ix i8 rfl) (fun z77x9 e77x9 => ?_)
                            have i77x9 := inv_I hI (n := 160) (t := 0) (-1000000) 1000000 rfl (in_ix i8 rfl) rfl e77x9
                            refine g_ireturn (gd rfl) rfl rfl (hp77 _ _ ?_)
                            show GG _ _ _ _ _ _ _ _ [.int z77x9] _ _ _
                            refine g_i2l 81 (gd rfl) rfl (fun z80 e80 => ?_)
                            have i80 := l_i e80 i77x9
                            exact g_lreturn (gd rfl) rfl (hP _ _ ⟨s, hI, fr_rf, z80, rfl, rfl⟩)
                        · skip
                          have i59 := r_eq1 1 1 c59 i46 (in_c 1 rfl) rfl
                          refine g_aload_n 63 (gd rfl) rfl rfl ?_
                          refine g_getA (q2 := 35) 66 (gd rfl) rfl rfl rfl rfl ?_
                          refine g_iload_n 67 (gd rfl) rfl rfl ?_
                          refine g_iaload 68 (gd rfl) rfl (n := 160) rfl (in_ix i8 rfl) (fun z67 e67 => ?_)
                          have i67 := inv_I hI (n := 160) (t := 0) 0 31 rfl (in_ix i8 rfl) rfl e67
                          refine g_i2l 69 (gd rfl) rfl (fun z68 e68 => ?_)
                          have i68 := l_i e68 i67
                          refine g_goto 81 (gd rfl) rfl ?_
                          exact g_lreturn (gd rfl) rfl (hP _ _ ⟨s, hI, fr_rf, z68, rfl, rfl⟩)
                      · skip
                        have i46 := z_eq 0 0 c46 i17 rfl
                        refine g_aload_n 50 (gd rfl) rfl rfl ?_
                        refine g_getA (q2 := 34) 53 (gd rfl) rfl rfl rfl rfl ?_
                        refine g_iload_n 54 (gd rfl) rfl rfl ?_
                        refine g_iaload 55 (gd rfl) rfl (n := 160) rfl (in_ix i8 rfl) (fun z54 e54 => ?_)
                        have q54 : z35x17 = z54 := (e35x17).trans e54.symm
                        subst q54
                        refine g_i2l 56 (gd rfl) rfl (fun z55 e55 => ?_)
                        have i55 := l_i e55 i35x19
                        exact g_lreturn (gd rfl) rfl (hP _ _ ⟨s, hI, fr_rf, z55, rfl, rfl⟩)
                    · skip
                      exact zn_eq c38 (in_c 1 rfl) rfl
            · skip
              have i29x5 := r_eq1 (-1) (-1) c29x5 ro_0_2 (in_c (-1) rfl) rfl
              refine g_aload_n 9 (gd rfl) rfl rfl ?_
              refine g_getA (q2 := 1) 12 (gd rfl) rfl rfl rfl rfl ?_
              refine g_getA (q2 := 2) 15 (gd rfl) rfl rfl rfl rfl ?_
              refine g_goto 22 (gd rfl) rfl ?_
              refine g_areturn (gd rfl) rfl (hp29 _ _ ?_)
              show GG _ _ _ _ _ _ _ _ [.ref (A 2)] _ _ _
              refine g_astore_n 33 (gd rfl) rfl (Nat.le_of_ble_eq_true rfl) ?_
              refine g_aload_n 34 (gd rfl) rfl rfl ?_
              refine g_iload_n 35 (gd rfl) rfl rfl ?_
              refine g_callv (X := _) (As := [.int x1]) (r := []) (b := A 2) (q := 2) 38 (gd rfl) rfl rfl rfl rfl rfl (ww_o rfl) (Nat.le_of_ble_eq_true rfl) (mc := 0) (ms := 0) (Nat.zero_le _) (Nat.zero_le _) (P := fun v u => _) ?_ (fun e u h => h) (fun v u h => h)
              intro po35 xx35 hp35 hx35
              refine g_enter2 (k := 96) (N := 300) (by first | exact dq1 hd rfl | exact dq0 hd rfl | exact dq2 hd rfl | exact dq3 hd rfl | omega) rfl (Nat.le_of_ble_eq_true rfl) ?_
              refine g_iload_n 1 (gd rfl) rfl rfl ?_
              refine g_if_lt 4 26 (gd rfl) rfl rfl (fun c35x1 => ?_) (fun c35x1 => ?_)
              · skip
                exact zn_lt c35x1 i8 rfl
              · skip
                refine g_iload_n 5 (gd rfl) rfl rfl ?_
                refine g_aload_n 6 (gd rfl) rfl rfl ?_
                refine g_getI 9 (gd rfl) rfl rfl rfl (fun z35x6 e35x6 => ?_)
                have q35x6 : u_2_3 = z35x6 := (e_2_3).trans e35x6.symm
                subst q35x6
                refine g_cmp_ge 12 26 (gd rfl) rfl rfl (fun c35x9 => ?_) (fun c35x9 => ?_)
                · skip
                  have i35x9 := r_le1 0 159 c35x9 ro_2_3 i8 rfl
                  refine g_iconst 0 27 (gd rfl) rfl rfl ?_
                  refine g_ireturn (gd rfl) rfl (nb01 (in_w 0 1 (in_c 0 rfl) rfl)) (hp35 _ _ ?_)
                  show GG _ _ _ _ _ _ _ _ [.int (Int32.ofInt 0)] _ _ _
                  refine g_if_ne 41 45 (gd rfl) rfl rfl (fun c38 => ?_) (fun c38 => ?_)
                  · skip
                    exact zn_ne c38 (in_c 0 rfl) rfl
                  · skip
                    refine g_ldc2_w 9000000000000000 44 (gd rfl) rfl rfl ?_
                    exact g_lreturn (gd rfl) rfl (hP _ _ ⟨s, hI, fr_rf, (Int64.ofInt 9000000000000000), rfl, rfl⟩)
                · skip
                  have i35x9 := r_lt2 1 160 c35x9 i8 ro_2_3 rfl
                  refine g_aload_n 13 (gd rfl) rfl rfl ?_
                  refine g_getA (q2 := 4) 16 (gd rfl) rfl rfl rfl rfl ?_
                  refine g_iload_n 17 (gd rfl) rfl rfl ?_
                  refine g_iaload 18 (gd rfl) rfl (n := 160) rfl (in_ix i8 rfl) (fun z35x17 e35x17 => ?_)
                  have i35x17 := inv_I hI (n := 160) (t := 0) (-1) 31 rfl (in_ix i8 rfl) rfl e35x17
                  refine g_iconst (-1) 19 (gd rfl) rfl rfl ?_
                  refine g_cmp_eq 22 26 (gd rfl) rfl rfl (fun c35x19 => ?_) (fun c35x19 => ?_)
                  · skip
                    have i35x19 := r_eq1 (-1) (-1) c35x19 i35x17 (in_c (-1) rfl) rfl
                    refine g_iconst 0 27 (gd rfl) rfl rfl ?_
                    refine g_ireturn (gd rfl) rfl (nb01 (in_w 0 1 (in_c 0 rfl) rfl)) (hp35 _ _ ?_)
                    show GG _ _ _ _ _ _ _ _ [.int (Int32.ofInt 0)] _ _ _
                    refine g_if_ne 41 45 (gd rfl) rfl rfl (fun c38 => ?_) (fun c38 => ?_)
                    · skip
                      exact zn_ne c38 (in_c 0 rfl) rfl
                    · skip
                      refine g_ldc2_w 9000000000000000 44 (gd rfl) rfl rfl ?_
                      exact g_lreturn (gd rfl) rfl (hP _ _ ⟨s, hI, fr_rf, (Int64.ofInt 9000000000000000), rfl, rfl⟩)
                  · skip
                    have i35x19 := r_ne1 0 31 c35x19 i35x17 (in_c (-1) rfl) rfl
                    refine g_iconst 1 23 (gd rfl) rfl rfl ?_
                    refine g_goto 27 (gd rfl) rfl ?_
                    refine g_ireturn (gd rfl) rfl (nb01 (in_w 0 1 (in_c 1 rfl) rfl)) (hp35 _ _ ?_)
                    show GG _ _ _ _ _ _ _ _ [.int (Int32.ofInt 1)] _ _ _
                    refine g_if_ne 41 45 (gd rfl) rfl rfl (fun c38 => ?_) (fun c38 => ?_)
                    · skip
                      refine g_iload_n 46 (gd rfl) rfl rfl ?_
                      refine g_if_ne 49 57 (gd rfl) rfl rfl (fun c46 => ?_) (fun c46 => ?_)
                      · skip
                        have i46 := z_ne 1 4 c46 i17 rfl
                        refine g_iload_n 58 (gd rfl) rfl rfl ?_
                        refine g_iconst 1 59 (gd rfl) rfl rfl ?_
                        refine g_cmp_ne 62 72 (gd rfl) rfl rfl (fun c59 => ?_) (fun c59 => ?_)
                        · skip
                          have i59 := r_ne1 2 4 c59 i46 (in_c 1 rfl) rfl
                          refine g_aload_n 73 (gd rfl) rfl rfl ?_
                          refine g_iload_n 74 (gd rfl) rfl rfl ?_
                          refine g_iload_n 75 (gd rfl) rfl rfl ?_
                          refine g_iconst 2 76 (gd rfl) rfl rfl ?_
                          refine g_isub 77 (gd rfl) rfl (fun z76 e76 => ?_)
                          have i76 := in_sub 0 2 e76 i59 (in_c 2 rfl) rfl rfl
                          refine g_callv (X := _) (As := [.int x1, .int z76]) (r := []) (b := A 2) (q := 2) 80 (gd rfl) rfl rfl rfl rfl rfl (ww_o rfl) (Nat.le_of_ble_eq_true rfl) (mc := 0) (ms := 0) (Nat.zero_le _) (Nat.zero_le _) (P := fun v u => _) ?_ (fun e u h => h) (fun v u h => h)
                          intro po77 xx77 hp77 hx77
                          refine g_enter2 (k := 100) (N := 300) (by first | exact dq1 hd rfl | exact dq0 hd rfl | exact dq2 hd rfl | exact dq3 hd rfl | omega) rfl (Nat.le_of_ble_eq_true rfl) ?_
                          refine g_iload_n 1 (gd rfl) rfl rfl ?_
                          refine g_if_ne 4 11 (gd rfl) rfl rfl (fun c77x1 => ?_) (fun c77x1 => ?_)
                          · skip
                            have i77x1 := z_ne 1 2 c77x1 i76 rfl
                            refine g_iload_n 12 (gd rfl) rfl rfl ?_
                            refine g_iconst 1 13 (gd rfl) rfl rfl ?_
                            refine g_cmp_ne 16 25 (gd rfl) rfl rfl (fun c77x13 => ?_) (fun c77x13 => ?_)
                            · skip
                              have i77x13 := r_ne1 2 2 c77x13 i77x1 (in_c 1 rfl) rfl
                              refine g_aload_n 26 (gd rfl) rfl rfl ?_
                              refine g_getA (q2 := 8) 29 (gd rfl) rfl rfl rfl rfl ?_
                              refine g_iload_n 30 (gd rfl) rfl rfl ?_
                              refine g_iaload 31 (gd rfl) rfl (n := 160) rfl (in_ix i8 rfl) (fun z77x30 e77x30 => ?_)
                              have i77x30 := inv_I hI (n := 160) (t := 0) 0 25 rfl (in_ix i8 rfl) rfl e77x30
                              refine g_ireturn (gd rfl) rfl rfl (hp77 _ _ ?_)
                              show GG _ _ _ _ _ _ _ _ [.int z77x30] _ _ _
                              refine g_i2l 81 (gd rfl) rfl (fun z80 e80 => ?_)
                              have i80 := l_i e80 i77x30
                              exact g_lreturn (gd rfl) rfl (hP _ _ ⟨s, hI, fr_rf, z80, rfl, rfl⟩)
                            · skip
                              have i77x13 := r_eq1 1 1 c77x13 i77x1 (in_c 1 rfl) rfl
                              refine g_aload_n 17 (gd rfl) rfl rfl ?_
                              refine g_getA (q2 := 7) 20 (gd rfl) rfl rfl rfl rfl ?_
                              refine g_iload_n 21 (gd rfl) rfl rfl ?_
                              refine g_iaload 22 (gd rfl) rfl (n := 160) rfl (in_ix i8 rfl) (fun z77x21 e77x21 => ?_)
                              have i77x21 := inv_I hI (n := 160) (t := 0) 0 1000000 rfl (in_ix i8 rfl) rfl e77x21
                              refine g_goto 31 (gd rfl) rfl ?_
                              refine g_ireturn (gd rfl) rfl rfl (hp77 _ _ ?_)
                              show GG _ _ _ _ _ _ _ _ [.int z77x21] _ _ _
                              refine g_i2l 81 (gd rfl) rfl (fun z80 e80 => ?_)
                              have i80 := l_i e80 i77x21
                              exact g_lreturn (gd rfl) rfl (hP _ _ ⟨s, hI, fr_rf, z80, rfl, rfl⟩)
                          · skip
                            have i77x1 := z_eq 0 0 c77x1 i76 rfl
                            refine g_aload_n 5 (gd rfl) rfl rfl ?_
                            refine g_getA (q2 := 6) 8 (gd rfl) rfl rfl rfl rfl ?_
                            refine g_iload_n 9 (gd rfl) rfl rfl ?_
                            refine g_iaload 10 (gd rfl) rfl (n := 160) rfl (in_ix i8 rfl) (fun z77x9 e77x9 => ?_)
                            have i77x9 := inv_I hI (n := 160) (t := 0) (-1000000) 1000000 rfl (in_ix i8 rfl) rfl e77x9
                            refine g_ireturn (gd rfl) rfl rfl (hp77 _ _ ?_)
                            show GG _ _ _ _ _ _ _ _ [.int z77x9] _ _ _
                            refine g_i2l 81 (gd rfl) rfl (fun z80 e80 => ?_)
                            have i80 := l_i e80 i77x9
                            exact g_lreturn (gd rfl) rfl (hP _ _ ⟨s, hI, fr_rf, z80, rfl, rfl⟩)
                        · skip
                          have i59 := r_eq1 1 1 c59 i46 (in_c 1 rfl) rfl
                          refine g_aload_n 63 (gd rfl) rfl rfl ?_
                          refine g_getA (q2 := 5) 66 (gd rfl) rfl rfl rfl rfl ?_
                          refine g_iload_n 67 (gd rfl) rfl rfl ?_
                          refine g_iaload 68 (gd rfl) rfl (n := 160) rfl (in_ix i8 rfl) (fun z67 e67 => ?_)
                          have i67 := inv_I hI (n := 160) (t := 0) 0 31 rfl (in_ix i8 rfl) rfl e67
                          refine g_i2l 69 (gd rfl) rfl (fun z68 e68 => ?_)
                          have i68 := l_i e68 i67
                          refine g_goto 81 (gd rfl) rfl ?_
                          exact g_lreturn (gd rfl) rfl (hP _ _ ⟨s, hI, fr_rf, z68, rfl, rfl⟩)
                      · skip
                        have i46 := z_eq 0 0 c46 i17 rfl
                        refine g_aload_n 50 (gd rfl) rfl rfl ?_
                        refine g_getA (q2 := 4) 53 (gd rfl) rfl rfl rfl rfl ?_
                        refine g_iload_n 54 (gd rfl) rfl rfl ?_
                        refine g_iaload 55 (gd rfl) rfl (n := 160) rfl (in_ix i8 rfl) (fun z54 e54 => ?_)
                        have q54 : z35x17 = z54 := (e35x17).trans e54.symm
                        subst q54
                        refine g_i2l 56 (gd rfl) rfl (fun z55 e55 => ?_)
                        have i55 := l_i e55 i35x19
                        exact g_lreturn (gd rfl) rfl (hP _ _ ⟨s, hI, fr_rf, z55, rfl, rfl⟩)
                    · skip
                      exact zn_eq c38 (in_c 1 rfl) rfl
          · skip
            exact zn_eq c25 (in_c 1 rfl) rfl

def fm_221_0 : FM := ([], [], [], [])
/-- GraphHouse.labelOf -/
theorem k_221_0 {Z : AmZ} {A : Nat → Nat} {s : GS} {ex : va_W} {d : Nat} {x1 : Int32} (hd : 7 ≤ d) (hI : Inv s)  : GC Z d 221 [.ref (A 0), .int x1] (WW Z A s ++ ex) 3 18 (fun v u => ∃ t : GS, Inv t ∧ Fr fm_221_0 s t ∧ ∃ z : Int32, v = some (.int z) ∧ u = WW Z A t ++ ex ∧ In z 0 25) (gE1 Z A ex fm_221_0 s) := by
  intro post xp hP hX
  obtain ⟨u_0_2, e_0_2⟩ : ∃ w, w = s.2.2.1 0 2 := ⟨_, rfl⟩
  have ro_0_2 := inv_F hI (-1) 4000 rfl e_0_2
  obtain ⟨u_2_1, e_2_1⟩ : ∃ w, w = s.2.2.1 2 1 := ⟨_, rfl⟩
  have ro_2_1 := inv_F hI 0 32 rfl e_2_1
  obtain ⟨u_32_1, e_32_1⟩ : ∃ w, w = s.2.2.1 32 1 := ⟨_, rfl⟩
  have ro_32_1 := inv_F hI 0 32 rfl e_32_1
  refine g_enter2 (k := 221) (N := 900) (by first | exact dq1 hd rfl | exact dq0 hd rfl | exact dq2 hd rfl | exact dq3 hd rfl | omega) rfl (Nat.le_of_ble_eq_true rfl) ?_
  refine g_aload_n 1 (gd rfl) rfl rfl ?_
  refine g_callv (X := _) (As := []) (r := []) (b := A 0) (q := 0) 4 (gd rfl) rfl rfl rfl rfl rfl (ww_o rfl) (Nat.le_of_ble_eq_true rfl) (mc := 0) (ms := 0) (Nat.zero_le _) (Nat.zero_le _) (P := fun v u => _) ?_ (fun e u h => h) (fun v u h => h)
  intro po1 xx1 hp1 hx1
  refine g_enter2 (k := 259) (N := 300) (by first | exact dq1 hd rfl | exact dq0 hd rfl | exact dq2 hd rfl | exact dq3 hd rfl | omega) rfl (Nat.le_of_ble_eq_true rfl) ?_
  refine g_aload_n 1 (gd rfl) rfl rfl ?_
  refine g_getI 4 (gd rfl) rfl rfl rfl (fun z1x1 e1x1 => ?_)
  have q1x1 : u_0_2 = z1x1 := (e_0_2).trans e1x1.symm
  subst q1x1
  refine g_iconst (-1) 5 (gd rfl) rfl rfl ?_
  refine g_cmp_ne 8 18 (gd rfl) rfl rfl (fun c1x5 => ?_) (fun c1x5 => ?_)
  · skip
    have i1x5 := r_ne1 0 4000 c1x5 ro_0_2 (in_c (-1) rfl) rfl
    refine g_aload_n 19 (gd rfl) rfl rfl ?_
    refine g_getA (q2 := 32) 22 (gd rfl) rfl rfl rfl rfl ?_
    refine g_areturn (gd rfl) rfl (hp1 _ _ ?_)
    show GG _ _ _ _ _ _ _ _ [.ref (A 32)] _ _ _
    refine g_astore_n 5 (gd rfl) rfl (Nat.le_of_ble_eq_true rfl) ?_
    refine g_aload_n 6 (gd rfl) rfl rfl ?_
    refine g_iload_n 7 (gd rfl) rfl rfl ?_
    refine g_callv (X := _) (As := [.int x1]) (r := []) (b := A 32) (q := 32) 10 (gd rfl) rfl rfl rfl rfl rfl (ww_o rfl) (Nat.le_of_ble_eq_true rfl) (mc := 0) (ms := 0) (Nat.zero_le _) (Nat.zero_le _) (P := fun v u => _) ?_ (fun e u h => h) (fun v u h => h)
    intro po7 xx7 hp7 hx7
    refine g_enter2 (k := 94) (N := 300) (by first | exact dq1 hd rfl | exact dq0 hd rfl | exact dq2 hd rfl | exact dq3 hd rfl | omega) rfl (Nat.le_of_ble_eq_true rfl) ?_
    refine g_iload_n 1 (gd rfl) rfl rfl ?_
    refine g_if_lt 4 16 (gd rfl) rfl rfl (fun c7x1 => ?_) (fun c7x1 => ?_)
    · skip
      have i7x1 := z_lt (-2147483648) (-1) c7x1 (i_rng x1) rfl
      refine g_iconst 0 17 (gd rfl) rfl rfl ?_
      refine g_ireturn (gd rfl) rfl (nb01 (in_w 0 1 (in_c 0 rfl) rfl)) (hp7 _ _ ?_)
      show GG _ _ _ _ _ _ _ _ [.int (Int32.ofInt 0)] _ _ _
      refine g_thr (E := am_IA) (y := yX11_allow) 13 (gd rfl) rfl rfl (Or.inl ⟨rfl, rfl, rfl⟩) (by first | exact dq1 hd rfl | exact dq0 hd rfl | exact dq2 hd rfl | exact dq3 hd rfl | omega) (Nat.le_of_ble_eq_true rfl) (Nat.le_of_ble_eq_true rfl) (Nat.le_of_ble_eq_true rfl) (fun c10 => ?_) (fun c10 => ?_)
      · skip
        exact zn_ne c10 (in_c 0 rfl) rfl
      · skip
        exact (hX _ _ ⟨rfl, s, hI, fr_rf, rfl⟩)
    · skip
      have i7x1 := z_ge 0 2147483647 c7x1 (i_rng x1) rfl
      refine g_iload_n 5 (gd rfl) rfl rfl ?_
      refine g_aload_n 6 (gd rfl) rfl rfl ?_
      refine g_getI 9 (gd rfl) rfl rfl rfl (fun z7x6 e7x6 => ?_)
      have q7x6 : u_32_1 = z7x6 := (e_32_1).trans e7x6.symm
      subst q7x6
      refine g_cmp_ge 12 16 (gd rfl) rfl rfl (fun c7x9 => ?_) (fun c7x9 => ?_)
      · skip
        refine g_iconst 0 17 (gd rfl) rfl rfl ?_
        refine g_ireturn (gd rfl) rfl (nb01 (in_w 0 1 (in_c 0 rfl) rfl)) (hp7 _ _ ?_)
        show GG _ _ _ _ _ _ _ _ [.int (Int32.ofInt 0)] _ _ _
        refine g_thr (E := am_IA) (y := yX11_allow) 13 (gd rfl) rfl rfl (Or.inl ⟨rfl, rfl, rfl⟩) (by first | exact dq1 hd rfl | exact dq0 hd rfl | exact dq2 hd rfl | exact dq3 hd rfl | omega) (Nat.le_of_ble_eq_true rfl) (Nat.le_of_ble_eq_true rfl) (Nat.le_of_ble_eq_true rfl) (fun c10 => ?_) (fun c10 => ?_)
        · skip
          exact zn_ne c10 (in_c 0 rfl) rfl
        · skip
          exact (hX _ _ ⟨rfl, s, hI, fr_rf, rfl⟩)
      · skip
        have i7x9 := r_lt1 0 31 c7x9 i7x1 ro_32_1 rfl
        have i7x9a := r_lt2 1 32 c7x9 i7x1 ro_32_1 rfl
        refine g_iconst 1 13 (gd rfl) rfl rfl ?_
        refine g_goto 17 (gd rfl) rfl ?_
        refine g_ireturn (gd rfl) rfl (nb01 (in_w 0 1 (in_c 1 rfl) rfl)) (hp7 _ _ ?_)
        show GG _ _ _ _ _ _ _ _ [.int (Int32.ofInt 1)] _ _ _
        refine g_thr (E := am_IA) (y := yX11_allow) 13 (gd rfl) rfl rfl (Or.inl ⟨rfl, rfl, rfl⟩) (by first | exact dq1 hd rfl | exact dq0 hd rfl | exact dq2 hd rfl | exact dq3 hd rfl | omega) (Nat.le_of_ble_eq_true rfl) (Nat.le_of_ble_eq_true rfl) (Nat.le_of_ble_eq_true rfl) (fun c10 => ?_) (fun c10 => ?_)
        · skip
          refine g_aload_n 14 (gd rfl) rfl rfl ?_
          refine g_getA (q2 := 33) 17 (gd rfl) rfl rfl rfl rfl ?_
          refine g_iload_n 18 (gd rfl) rfl rfl ?_
          refine g_iaload 19 (gd rfl) rfl (n := 32) rfl (in_ix i7x9 rfl) (fun z18 e18 => ?_)
          have i18 := inv_I hI (n := 32) (t := 0) 0 25 rfl (in_ix i7x9 rfl) rfl e18
          exact g_ireturn (gd rfl) rfl rfl (hP _ _ ⟨s, hI, fr_rf, z18, rfl, rfl, in_w 0 25 i18 rfl⟩)
        · skip
          exact zn_eq c10 (in_c 1 rfl) rfl
  · skip
    have i1x5 := r_eq1 (-1) (-1) c1x5 ro_0_2 (in_c (-1) rfl) rfl
    refine g_aload_n 9 (gd rfl) rfl rfl ?_
    refine g_getA (q2 := 1) 12 (gd rfl) rfl rfl rfl rfl ?_
    refine g_getA (q2 := 2) 15 (gd rfl) rfl rfl rfl rfl ?_
    refine g_goto 22 (gd rfl) rfl ?_
    refine g_areturn (gd rfl) rfl (hp1 _ _ ?_)
    show GG _ _ _ _ _ _ _ _ [.ref (A 2)] _ _ _
    refine g_astore_n 5 (gd rfl) rfl (Nat.le_of_ble_eq_true rfl) ?_
    refine g_aload_n 6 (gd rfl) rfl rfl ?_
    refine g_iload_n 7 (gd rfl) rfl rfl ?_
    refine g_callv (X := _) (As := [.int x1]) (r := []) (b := A 2) (q := 2) 10 (gd rfl) rfl rfl rfl rfl rfl (ww_o rfl) (Nat.le_of_ble_eq_true rfl) (mc := 0) (ms := 0) (Nat.zero_le _) (Nat.zero_le _) (P := fun v u => _) ?_ (fun e u h => h) (fun v u h => h)
    intro po7 xx7 hp7 hx7
    refine g_enter2 (k := 94) (N := 300) (by first | exact dq1 hd rfl | exact dq0 hd rfl | exact dq2 hd rfl | exact dq3 hd rfl | omega) rfl (Nat.le_of_ble_eq_true rfl) ?_
    refine g_iload_n 1 (gd rfl) rfl rfl ?_
    refine g_if_lt 4 16 (gd rfl) rfl rfl (fun c7x1 => ?_) (fun c7x1 => ?_)
    · skip
      have i7x1 := z_lt (-2147483648) (-1) c7x1 (i_rng x1) rfl
      refine g_iconst 0 17 (gd rfl) rfl rfl ?_
      refine g_ireturn (gd rfl) rfl (nb01 (in_w 0 1 (in_c 0 rfl) rfl)) (hp7 _ _ ?_)
      show GG _ _ _ _ _ _ _ _ [.int (Int32.ofInt 0)] _ _ _
      refine g_thr (E := am_IA) (y := yX11_allow) 13 (gd rfl) rfl rfl (Or.inl ⟨rfl, rfl, rfl⟩) (by first | exact dq1 hd rfl | exact dq0 hd rfl | exact dq2 hd rfl | exact dq3 hd rfl | omega) (Nat.le_of_ble_eq_true rfl) (Nat.le_of_ble_eq_true rfl) (Nat.le_of_ble_eq_true rfl) (fun c10 => ?_) (fun c10 => ?_)
      · skip
        exact zn_ne c10 (in_c 0 rfl) rfl
      · skip
        exact (hX _ _ ⟨rfl, s, hI, fr_rf, rfl⟩)
    · skip
      have i7x1 := z_ge 0 2147483647 c7x1 (i_rng x1) rfl
      refine g_iload_n 5 (gd rfl) rfl rfl ?_
      refine g_aload_n 6 (gd rfl) rfl rfl ?_
      refine g_getI 9 (gd rfl) rfl rfl rfl (fun z7x6 e7x6 => ?_)
      have q7x6 : u_2_1 = z7x6 := (e_2_1).trans e7x6.symm
      subst q7x6
      refine g_cmp_ge 12 16 (gd rfl) rfl rfl (fun c7x9 => ?_) (fun c7x9 => ?_)
      · skip
        refine g_iconst 0 17 (gd rfl) rfl rfl ?_
        refine g_ireturn (gd rfl) rfl (nb01 (in_w 0 1 (in_c 0 rfl) rfl)) (hp7 _ _ ?_)
        show GG _ _ _ _ _ _ _ _ [.int (Int32.ofInt 0)] _ _ _
        refine g_thr (E := am_IA) (y := yX11_allow) 13 (gd rfl) rfl rfl (Or.inl ⟨rfl, rfl, rfl⟩) (by first | exact dq1 hd rfl | exact dq0 hd rfl | exact dq2 hd rfl | exact dq3 hd rfl | omega) (Nat.le_of_ble_eq_true rfl) (Nat.le_of_ble_eq_true rfl) (Nat.le_of_ble_eq_true rfl) (fun c10 => ?_) (fun c10 => ?_)
        · skip
          exact zn_ne c10 (in_c 0 rfl) rfl
        · skip
          exact (hX _ _ ⟨rfl, s, hI, fr_rf, rfl⟩)
      · skip
        have i7x9 := r_lt1 0 31 c7x9 i7x1 ro_2_1 rfl
        have i7x9a := r_lt2 1 32 c7x9 i7x1 ro_2_1 rfl
        refine g_iconst 1 13 (gd rfl) rfl rfl ?_
        refine g_goto 17 (gd rfl) rfl ?_
        refine g_ireturn (gd rfl) rfl (nb01 (in_w 0 1 (in_c 1 rfl) rfl)) (hp7 _ _ ?_)
        show GG _ _ _ _ _ _ _ _ [.int (Int32.ofInt 1)] _ _ _
        refine g_thr (E := am_IA) (y := yX11_allow) 13 (gd rfl) rfl rfl (Or.inl ⟨rfl, rfl, rfl⟩) (by first | exact dq1 hd rfl | exact dq0 hd rfl | exact dq2 hd rfl | exact dq3 hd rfl | omega) (Nat.le_of_ble_eq_true rfl) (Nat.le_of_ble_eq_true rfl) (Nat.le_of_ble_eq_true rfl) (fun c10 => ?_) (fun c10 => ?_)
        · skip
          refine g_aload_n 14 (gd rfl) rfl rfl ?_
          refine g_getA (q2 := 3) 17 (gd rfl) rfl rfl rfl rfl ?_
          refine g_iload_n 18 (gd rfl) rfl rfl ?_
          refine g_iaload 19 (gd rfl) rfl (n := 32) rfl (in_ix i7x9 rfl) (fun z18 e18 => ?_)
          have i18 := inv_I hI (n := 32) (t := 0) 0 25 rfl (in_ix i7x9 rfl) rfl e18
          exact g_ireturn (gd rfl) rfl rfl (hP _ _ ⟨s, hI, fr_rf, z18, rfl, rfl, in_w 0 25 i18 rfl⟩)
        · skip
          exact zn_eq c10 (in_c 1 rfl) rfl

def fm_222_0 : FM := ([9, 10, 11, 12, 13, 14, 15, 39, 40, 41, 42, 43, 44, 45], [], [(2, 4), (32, 4)], [])
/-- GraphHouse.arcAt -/
theorem k_222_0 {Z : AmZ} {A : Nat → Nat} {s : GS} {ex : va_W} {d : Nat} {x1 : Int32} {x2 : Int32} {x3 : Int32} (hd : 7 ≤ d) (hI : Inv s)  : GC Z d 222 [.ref (A 0), .int x1, .int x2, .int x3] (WW Z A s ++ ex) 3 18 (fun v u => ∃ t : GS, Inv t ∧ Fr fm_222_0 s t ∧ ∃ z : Int32, v = some (.int z) ∧ u = WW Z A t ++ ex ∧ In z (-1) 159) (gE1 Z A ex fm_222_0 s) := by
  intro post xp hP hX
  obtain ⟨u_0_2, e_0_2⟩ : ∃ w, w = s.2.2.1 0 2 := ⟨_, rfl⟩
  have ro_0_2 := inv_F hI (-1) 4000 rfl e_0_2
  obtain ⟨u_2_1, e_2_1⟩ : ∃ w, w = s.2.2.1 2 1 := ⟨_, rfl⟩
  have ro_2_1 := inv_F hI 0 32 rfl e_2_1
  obtain ⟨u_32_1, e_32_1⟩ : ∃ w, w = s.2.2.1 32 1 := ⟨_, rfl⟩
  have ro_32_1 := inv_F hI 0 32 rfl e_32_1
  have ct32 : ∀ (sc32 : GS) , Inv sc32 → Fr fm_222_0 s sc32 → GG Z (d - 1) 222 post (gx xp) (901) 32 (fun j => xlook j [(0, .ref (A 0)), (1, .int x1), (2, .int x2), (3, .int x3)]) [] (WW Z A sc32 ++ ex) 3 18 := by
    intro sc32  hIc32 hFc32 
    refine g_iconst 0 33 (gd rfl) rfl rfl ?_
    refine g_thr (E := am_IA) (y := yX11_allow) 36 (gd rfl) rfl rfl (Or.inl ⟨rfl, rfl, rfl⟩) (by first | exact dq1 hd rfl | exact dq0 hd rfl | exact dq2 hd rfl | exact dq3 hd rfl | omega) (Nat.le_of_ble_eq_true rfl) (Nat.le_of_ble_eq_true rfl) (Nat.le_of_ble_eq_true rfl) (fun c33 => ?_) (fun c33 => ?_)
    · skip
      exact zn_ne c33 (in_c 0 rfl) rfl
    · skip
      exact (hX _ _ ⟨rfl, sc32, hIc32, hFc32, rfl⟩)
  refine g_enter2 (k := 222) (N := 1801) (by first | exact dq1 hd rfl | exact dq0 hd rfl | exact dq2 hd rfl | exact dq3 hd rfl | omega) rfl (Nat.le_of_ble_eq_true rfl) ?_
  refine g_aload_n 1 (gd rfl) rfl rfl ?_
  refine g_callv (X := _) (As := []) (r := []) (b := A 0) (q := 0) 4 (gd rfl) rfl rfl rfl rfl rfl (ww_o rfl) (Nat.le_of_ble_eq_true rfl) (mc := 0) (ms := 0) (Nat.zero_le _) (Nat.zero_le _) (P := fun v u => _) ?_ (fun e u h => h) (fun v u h => h)
  intro po1 xx1 hp1 hx1
  refine g_enter2 (k := 259) (N := 300) (by first | exact dq1 hd rfl | exact dq0 hd rfl | exact dq2 hd rfl | exact dq3 hd rfl | omega) rfl (Nat.le_of_ble_eq_true rfl) ?_
  refine g_aload_n 1 (gd rfl) rfl rfl ?_
  refine g_getI 4 (gd rfl) rfl rfl rfl (fun z1x1 e1x1 => ?_)
  have q1x1 : u_0_2 = z1x1 := (e_0_2).trans e1x1.symm
  subst q1x1
  refine g_iconst (-1) 5 (gd rfl) rfl rfl ?_
  refine g_cmp_ne 8 18 (gd rfl) rfl rfl (fun c1x5 => ?_) (fun c1x5 => ?_)
  · skip
    have i1x5 := r_ne1 0 4000 c1x5 ro_0_2 (in_c (-1) rfl) rfl
    refine g_aload_n 19 (gd rfl) rfl rfl ?_
    refine g_getA (q2 := 32) 22 (gd rfl) rfl rfl rfl rfl ?_
    refine g_areturn (gd rfl) rfl (hp1 _ _ ?_)
    show GG _ _ _ _ _ _ _ _ [.ref (A 32)] _ _ _
    refine g_astore 6 (gd rfl) rfl (Nat.le_of_ble_eq_true rfl) ?_
    refine g_aload 8 (gd rfl) rfl rfl ?_
    refine g_iload_n 9 (gd rfl) rfl rfl ?_
    refine g_callv (X := _) (As := [.int x1]) (r := []) (b := A 32) (q := 32) 12 (gd rfl) rfl rfl rfl rfl rfl (ww_o rfl) (Nat.le_of_ble_eq_true rfl) (mc := 0) (ms := 0) (Nat.zero_le _) (Nat.zero_le _) (P := fun v u => _) ?_ (fun e u h => h) (fun v u h => h)
    intro po9 xx9 hp9 hx9
    refine g_enter2 (k := 94) (N := 300) (by first | exact dq1 hd rfl | exact dq0 hd rfl | exact dq2 hd rfl | exact dq3 hd rfl | omega) rfl (Nat.le_of_ble_eq_true rfl) ?_
    refine g_iload_n 1 (gd rfl) rfl rfl ?_
    refine g_if_lt 4 16 (gd rfl) rfl rfl (fun c9x1 => ?_) (fun c9x1 => ?_)
    · skip
      have i9x1 := z_lt (-2147483648) (-1) c9x1 (i_rng x1) rfl
      refine g_iconst 0 17 (gd rfl) rfl rfl ?_
      refine g_ireturn (gd rfl) rfl (nb01 (in_w 0 1 (in_c 0 rfl) rfl)) (hp9 _ _ ?_)
      show GG _ _ _ _ _ _ _ _ [.int (Int32.ofInt 0)] _ _ _
      refine g_if_eq 15 32 (gd rfl) rfl rfl (fun c12 => ?_) (fun c12 => ?_)
      · skip
        exact gg_w (by first | exact Nat.le_of_ble_eq_true rfl | omega) (gg_f (gf_cons rfl (gf_cons rfl (gf_cons rfl (gf_cons rfl gf_nil)))) (ct32 s  hI fr_rf ))
      · skip
        exact zn_ne c12 (in_c 0 rfl) rfl
    · skip
      have i9x1 := z_ge 0 2147483647 c9x1 (i_rng x1) rfl
      refine g_iload_n 5 (gd rfl) rfl rfl ?_
      refine g_aload_n 6 (gd rfl) rfl rfl ?_
      refine g_getI 9 (gd rfl) rfl rfl rfl (fun z9x6 e9x6 => ?_)
      have q9x6 : u_32_1 = z9x6 := (e_32_1).trans e9x6.symm
      subst q9x6
      refine g_cmp_ge 12 16 (gd rfl) rfl rfl (fun c9x9 => ?_) (fun c9x9 => ?_)
      · skip
        refine g_iconst 0 17 (gd rfl) rfl rfl ?_
        refine g_ireturn (gd rfl) rfl (nb01 (in_w 0 1 (in_c 0 rfl) rfl)) (hp9 _ _ ?_)
        show GG _ _ _ _ _ _ _ _ [.int (Int32.ofInt 0)] _ _ _
        refine g_if_eq 15 32 (gd rfl) rfl rfl (fun c12 => ?_) (fun c12 => ?_)
        · skip
          exact gg_w (by first | exact Nat.le_of_ble_eq_true rfl | omega) (gg_f (gf_cons rfl (gf_cons rfl (gf_cons rfl (gf_cons rfl gf_nil)))) (ct32 s  hI fr_rf ))
        · skip
          exact zn_ne c12 (in_c 0 rfl) rfl
      · skip
        have i9x9 := r_lt1 0 31 c9x9 i9x1 ro_32_1 rfl
        have i9x9a := r_lt2 1 32 c9x9 i9x1 ro_32_1 rfl
        refine g_iconst 1 13 (gd rfl) rfl rfl ?_
        refine g_goto 17 (gd rfl) rfl ?_
        refine g_ireturn (gd rfl) rfl (nb01 (in_w 0 1 (in_c 1 rfl) rfl)) (hp9 _ _ ?_)
        show GG _ _ _ _ _ _ _ _ [.int (Int32.ofInt 1)] _ _ _
        refine g_if_eq 15 32 (gd rfl) rfl rfl (fun c12 => ?_) (fun c12 => ?_)
        · skip
          exact zn_eq c12 (in_c 1 rfl) rfl
        · skip
          refine g_iload_n 16 (gd rfl) rfl rfl ?_
          refine g_if_lt 19 32 (gd rfl) rfl rfl (fun c16 => ?_) (fun c16 => ?_)
          · skip
            have i16 := z_lt (-2147483648) (-1) c16 (i_rng x2) rfl
            exact gg_w (by first | exact Nat.le_of_ble_eq_true rfl | omega) (gg_f (gf_cons rfl (gf_cons rfl (gf_cons rfl (gf_cons rfl gf_nil)))) (ct32 s  hI fr_rf ))
          · skip
            have i16 := z_ge 0 2147483647 c16 (i_rng x2) rfl
            refine g_iload_n 20 (gd rfl) rfl rfl ?_
            refine g_iconst 1 21 (gd rfl) rfl rfl ?_
            refine g_cmp_gt 24 32 (gd rfl) rfl rfl (fun c21 => ?_) (fun c21 => ?_)
            · skip
              have i21 := r_lt2 2 2147483647 c21 (in_c 1 rfl) i16 rfl
              exact gg_w (by first | exact Nat.le_of_ble_eq_true rfl | omega) (gg_f (gf_cons rfl (gf_cons rfl (gf_cons rfl (gf_cons rfl gf_nil)))) (ct32 s  hI fr_rf ))
            · skip
              have i21 := r_le1 0 1 c21 i16 (in_c 1 rfl) rfl
              refine g_iload_n 25 (gd rfl) rfl rfl ?_
              refine g_if_lt 28 32 (gd rfl) rfl rfl (fun c25 => ?_) (fun c25 => ?_)
              · skip
                have i25 := z_lt (-2147483648) (-1) c25 (i_rng x3) rfl
                exact gg_w (by first | exact Nat.le_of_ble_eq_true rfl | omega) (gg_f (gf_cons rfl (gf_cons rfl (gf_cons rfl (gf_cons rfl gf_nil)))) (ct32 s  hI fr_rf ))
              · skip
                have i25 := z_ge 0 2147483647 c25 (i_rng x3) rfl
                refine g_iconst 1 29 (gd rfl) rfl rfl ?_
                refine g_goto 33 (gd rfl) rfl ?_
                refine g_thr (E := am_IA) (y := yX11_allow) 36 (gd rfl) rfl rfl (Or.inl ⟨rfl, rfl, rfl⟩) (by first | exact dq1 hd rfl | exact dq0 hd rfl | exact dq2 hd rfl | exact dq3 hd rfl | omega) (Nat.le_of_ble_eq_true rfl) (Nat.le_of_ble_eq_true rfl) (Nat.le_of_ble_eq_true rfl) (fun c33 => ?_) (fun c33 => ?_)
                · skip
                  refine g_aload 38 (gd rfl) rfl rfl ?_
                  refine g_callv (X := _) (As := []) (r := []) (b := A 32) (q := 32) 41 (gd rfl) rfl rfl rfl rfl rfl (ww_o rfl) (Nat.le_of_ble_eq_true rfl) (Nat.zero_le _) (Nat.zero_le _) (k_106_32 (by first | exact dq1 hd rfl | exact dq0 hd rfl | exact dq2 hd rfl | exact dq3 hd rfl | omega) hI ) (fun e u h => h) (fun v u h => ?_)
                  obtain ⟨s38, hI38, hF38, n38, rfl, rfl⟩ := h
                  obtain ⟨z38a, e38⟩ : ∃ w, w = s38.2.2.1 32 4 := ⟨_, rfl⟩
                  have i38a := inv_F hI38 (-1) 4000 rfl e38
                  obtain ⟨z38b, e38a⟩ : ∃ w, w = s38.2.2.1 32 0 := ⟨_, rfl⟩
                  have i38b := inv_F hI38 0 4000 rfl e38a
                  rw [← (show z38a = s38.2.2.1 32 4 from e38)] at n38
                  rw [← (show z38b = s38.2.2.1 32 0 from e38a)] at n38
                  show GG _ _ _ _ _ _ _ _ [] _ _ _
                  refine g_iload_n 42 (gd rfl) rfl rfl ?_
                  refine g_if_ne 45 75 (gd rfl) rfl rfl (fun c42 => ?_) (fun c42 => ?_)
                  · skip
                    have i42 := z_ne 1 1 c42 i21 rfl
                    refine g_iload_n 76 (gd rfl) rfl rfl ?_
                    refine g_aload 78 (gd rfl) rfl rfl ?_
                    refine g_iload_n 79 (gd rfl) rfl rfl ?_
                    refine g_callv (X := _) (As := [.int x1]) (r := [.int x3]) (b := A 32) (q := 32) 82 (gd rfl) rfl rfl rfl rfl rfl (ww_o rfl) (Nat.le_of_ble_eq_true rfl) (mc := 0) (ms := 0) (Nat.zero_le _) (Nat.zero_le _) (P := fun v u => _) ?_ (fun e u h => h) (fun v u h => h)
                    intro po79 xx79 hp79 hx79
                    refine g_enter2 (k := 104) (N := 300) (by first | exact dq1 hd rfl | exact dq0 hd rfl | exact dq2 hd rfl | exact dq3 hd rfl | omega) rfl (Nat.le_of_ble_eq_true rfl) ?_
                    refine g_aload_n 1 (gd rfl) rfl rfl ?_
                    refine g_getA (q2 := 44) 4 (gd rfl) rfl rfl rfl rfl ?_
                    refine g_iload_n 5 (gd rfl) rfl rfl ?_
                    refine g_iconst 1 6 (gd rfl) rfl rfl ?_
                    refine g_iadd 7 (gd rfl) rfl (fun z79x6 e79x6 => ?_)
                    have i79x6 := in_add 1 32 e79x6 i9x9 (in_c 1 rfl) rfl rfl
                    refine g_iaload 8 (gd rfl) rfl (n := 33) rfl (in_ix i79x6 rfl) (fun z79x7 e79x7 => ?_)
                    have i79x7 := inv_I hI38 (n := 33) (t := 0) 0 160 rfl (in_ix i79x6 rfl) rfl e79x7
                    refine g_aload_n 9 (gd rfl) rfl rfl ?_
                    refine g_getA (q2 := 44) 12 (gd rfl) rfl rfl rfl rfl ?_
                    refine g_iload_n 13 (gd rfl) rfl rfl ?_
                    refine g_iaload 14 (gd rfl) rfl (n := 33) rfl (in_ix i9x9 rfl) (fun z79x13 e79x13 => ?_)
                    have i79x13 := inv_I hI38 (n := 33) (t := 0) 0 160 rfl (in_ix i9x9 rfl) rfl e79x13
                    refine g_isub 15 (gd rfl) rfl (fun z79x14 e79x14 => ?_)
                    have i79x14 := in_sub (-160) 160 e79x14 i79x7 i79x13 rfl rfl
                    refine g_ireturn (gd rfl) rfl rfl (hp79 _ _ ?_)
                    show GG _ _ _ _ _ _ _ _ [.int z79x14, .int x3] _ _ _
                    refine g_cmp_ge 85 103 (gd rfl) rfl rfl (fun c82 => ?_) (fun c82 => ?_)
                    · skip
                      refine g_iconst (-1) 104 (gd rfl) rfl rfl ?_
                      exact g_ireturn (gd rfl) rfl rfl (hP _ _ ⟨s38, hI38, (fr_tr rfl fr_rf hF38), (Int32.ofInt (-1)), rfl, rfl, in_w (-1) 159 (in_c (-1) rfl) rfl⟩)
                    · skip
                      have i82 := r_lt1 0 159 c82 i25 i79x14 rfl
                      have i82a := r_lt2 1 160 c82 i25 i79x14 rfl
                      refine g_aload 87 (gd rfl) rfl rfl ?_
                      refine g_getA (q2 := 45) 90 (gd rfl) rfl rfl rfl rfl ?_
                      refine g_aload 92 (gd rfl) rfl rfl ?_
                      refine g_getA (q2 := 44) 95 (gd rfl) rfl rfl rfl rfl ?_
                      refine g_iload_n 96 (gd rfl) rfl rfl ?_
                      refine g_iaload 97 (gd rfl) rfl (n := 33) rfl (in_ix i9x9 rfl) (fun z96 e96 => ?_)
                      have q96 : z79x13 = z96 := (e79x13).trans e96.symm
                      subst q96
                      refine g_iload_n 98 (gd rfl) rfl rfl ?_
                      refine g_iadd 99 (gd rfl) rfl (fun z98 e98 => ?_)
                      have i98 := in_add 0 319 e98 i79x13 i82 rfl rfl
                      have i99 : In z98 0 159 := by (first | have a0 := oa9 i82 i42 i9x9 i9x9a ro_2_1 i1x5 i38b i38a i98 | ((first | have a0 := in_u i82 | (have a0 := i82; unfold In at a0)); (first | have a1 := in_u i42 | (have a1 := i42; unfold In at a1)); (first | have a2 := in_u i9x9 | (have a2 := i9x9; unfold In at a2)); (first | have a3 := in_u i9x9a | (have a3 := i9x9a; unfold In at a3)); (first | have a4 := in_u ro_2_1 | (have a4 := ro_2_1; unfold In at a4)); (first | have a5 := in_u i1x5 | (have a5 := i1x5; unfold In at a5)); (first | have a6 := in_u i38b | (have a6 := i38b; unfold In at a6)); (first | have a7 := in_u i38a | (have a7 := i38a; unfold In at a7)); (first | have a8 := in_u i98 | (have a8 := i98; unfold In at a8)))); have a9 := t_add e98 i79x13 i82 rfl; (first | have a10 := oa2 i79x13 i82a | ((first | have a10 := in_u i79x13 | (have a10 := i79x13; unfold In at a10)); (first | have a11 := in_u i82a | (have a11 := i82a; unfold In at a11)))); have a12 := t_sub e79x14 i79x7 i79x13 rfl; (first | have a13 := oa2 i79x7 i79x6 | ((first | have a13 := in_u i79x7 | (have a13 := i79x7; unfold In at a13)); (first | have a14 := in_u i79x6 | (have a14 := i79x6; unfold In at a14)))); have a15 := t_add e79x6 i9x9 (in_c 1 rfl) rfl; (first | have a16 := in_u ((in_c 1 rfl)) | (have a16 := (in_c 1 rfl); unfold In at a16)); exact ⟨by omega, by omega⟩
                      refine g_iaload 100 (gd rfl) rfl (n := 160) rfl (in_ix i99 rfl) (fun z99 e99 => ?_)
                      have i99a := inv_I hI38 (n := 160) (t := 0) 0 159 rfl (in_ix i99 rfl) rfl e99
                      refine g_goto 104 (gd rfl) rfl ?_
                      exact g_ireturn (gd rfl) rfl rfl (hP _ _ ⟨s38, hI38, (fr_tr rfl fr_rf hF38), z99, rfl, rfl, in_w (-1) 159 i99a rfl⟩)
                  · skip
                    have i42 := z_eq 0 0 c42 i21 rfl
                    refine g_iload_n 46 (gd rfl) rfl rfl ?_
                    refine g_aload 48 (gd rfl) rfl rfl ?_
                    refine g_iload_n 49 (gd rfl) rfl rfl ?_
                    refine g_callv (X := _) (As := [.int x1]) (r := [.int x3]) (b := A 32) (q := 32) 52 (gd rfl) rfl rfl rfl rfl rfl (ww_o rfl) (Nat.le_of_ble_eq_true rfl) (mc := 0) (ms := 0) (Nat.zero_le _) (Nat.zero_le _) (P := fun v u => _) ?_ (fun e u h => h) (fun v u h => h)
                    intro po49 xx49 hp49 hx49
                    refine g_enter2 (k := 103) (N := 300) (by first | exact dq1 hd rfl | exact dq0 hd rfl | exact dq2 hd rfl | exact dq3 hd rfl | omega) rfl (Nat.le_of_ble_eq_true rfl) ?_
                    refine g_aload_n 1 (gd rfl) rfl rfl ?_
                    refine g_getA (q2 := 42) 4 (gd rfl) rfl rfl rfl rfl ?_
                    refine g_iload_n 5 (gd rfl) rfl rfl ?_
                    refine g_iconst 1 6 (gd rfl) rfl rfl ?_
                    refine g_iadd 7 (gd rfl) rfl (fun z49x6 e49x6 => ?_)
                    have i49x6 := in_add 1 32 e49x6 i9x9 (in_c 1 rfl) rfl rfl
                    refine g_iaload 8 (gd rfl) rfl (n := 33) rfl (in_ix i49x6 rfl) (fun z49x7 e49x7 => ?_)
                    have i49x7 := inv_I hI38 (n := 33) (t := 0) 0 160 rfl (in_ix i49x6 rfl) rfl e49x7
                    refine g_aload_n 9 (gd rfl) rfl rfl ?_
                    refine g_getA (q2 := 42) 12 (gd rfl) rfl rfl rfl rfl ?_
                    refine g_iload_n 13 (gd rfl) rfl rfl ?_
                    refine g_iaload 14 (gd rfl) rfl (n := 33) rfl (in_ix i9x9 rfl) (fun z49x13 e49x13 => ?_)
                    have i49x13 := inv_I hI38 (n := 33) (t := 0) 0 160 rfl (in_ix i9x9 rfl) rfl e49x13
                    refine g_isub 15 (gd rfl) rfl (fun z49x14 e49x14 => ?_)
                    have i49x14 := in_sub (-160) 160 e49x14 i49x7 i49x13 rfl rfl
                    refine g_ireturn (gd rfl) rfl rfl (hp49 _ _ ?_)
                    show GG _ _ _ _ _ _ _ _ [.int z49x14, .int x3] _ _ _
                    refine g_cmp_ge 55 73 (gd rfl) rfl rfl (fun c52 => ?_) (fun c52 => ?_)
                    · skip
                      refine g_iconst (-1) 74 (gd rfl) rfl rfl ?_
                      exact g_ireturn (gd rfl) rfl rfl (hP _ _ ⟨s38, hI38, (fr_tr rfl fr_rf hF38), (Int32.ofInt (-1)), rfl, rfl, in_w (-1) 159 (in_c (-1) rfl) rfl⟩)
                    · skip
                      have i52 := r_lt1 0 159 c52 i25 i49x14 rfl
                      have i52a := r_lt2 1 160 c52 i25 i49x14 rfl
                      refine g_aload 57 (gd rfl) rfl rfl ?_
                      refine g_getA (q2 := 43) 60 (gd rfl) rfl rfl rfl rfl ?_
                      refine g_aload 62 (gd rfl) rfl rfl ?_
                      refine g_getA (q2 := 42) 65 (gd rfl) rfl rfl rfl rfl ?_
                      refine g_iload_n 66 (gd rfl) rfl rfl ?_
                      refine g_iaload 67 (gd rfl) rfl (n := 33) rfl (in_ix i9x9 rfl) (fun z66 e66 => ?_)
                      have q66 : z49x13 = z66 := (e49x13).trans e66.symm
                      subst q66
                      refine g_iload_n 68 (gd rfl) rfl rfl ?_
                      refine g_iadd 69 (gd rfl) rfl (fun z68 e68 => ?_)
                      have i68 := in_add 0 319 e68 i49x13 i52 rfl rfl
                      have i69 : In z68 0 159 := by (first | have a0 := oa9 i52 i42 i9x9 i9x9a ro_2_1 i1x5 i38b i38a i68 | ((first | have a0 := in_u i52 | (have a0 := i52; unfold In at a0)); (first | have a1 := in_u i42 | (have a1 := i42; unfold In at a1)); (first | have a2 := in_u i9x9 | (have a2 := i9x9; unfold In at a2)); (first | have a3 := in_u i9x9a | (have a3 := i9x9a; unfold In at a3)); (first | have a4 := in_u ro_2_1 | (have a4 := ro_2_1; unfold In at a4)); (first | have a5 := in_u i1x5 | (have a5 := i1x5; unfold In at a5)); (first | have a6 := in_u i38b | (have a6 := i38b; unfold In at a6)); (first | have a7 := in_u i38a | (have a7 := i38a; unfold In at a7)); (first | have a8 := in_u i68 | (have a8 := i68; unfold In at a8)))); have a9 := t_add e68 i49x13 i52 rfl; (first | have a10 := oa2 i49x13 i52a | ((first | have a10 := in_u i49x13 | (have a10 := i49x13; unfold In at a10)); (first | have a11 := in_u i52a | (have a11 := i52a; unfold In at a11)))); have a12 := t_sub e49x14 i49x7 i49x13 rfl; (first | have a13 := oa2 i49x7 i49x6 | ((first | have a13 := in_u i49x7 | (have a13 := i49x7; unfold In at a13)); (first | have a14 := in_u i49x6 | (have a14 := i49x6; unfold In at a14)))); have a15 := t_add e49x6 i9x9 (in_c 1 rfl) rfl; (first | have a16 := in_u ((in_c 1 rfl)) | (have a16 := (in_c 1 rfl); unfold In at a16)); exact ⟨by omega, by omega⟩
                      refine g_iaload 70 (gd rfl) rfl (n := 160) rfl (in_ix i69 rfl) (fun z69 e69 => ?_)
                      have i69a := inv_I hI38 (n := 160) (t := 0) 0 159 rfl (in_ix i69 rfl) rfl e69
                      refine g_goto 74 (gd rfl) rfl ?_
                      exact g_ireturn (gd rfl) rfl rfl (hP _ _ ⟨s38, hI38, (fr_tr rfl fr_rf hF38), z69, rfl, rfl, in_w (-1) 159 i69a rfl⟩)
                · skip
                  exact zn_eq c33 (in_c 1 rfl) rfl
  · skip
    have i1x5 := r_eq1 (-1) (-1) c1x5 ro_0_2 (in_c (-1) rfl) rfl
    refine g_aload_n 9 (gd rfl) rfl rfl ?_
    refine g_getA (q2 := 1) 12 (gd rfl) rfl rfl rfl rfl ?_
    refine g_getA (q2 := 2) 15 (gd rfl) rfl rfl rfl rfl ?_
    refine g_goto 22 (gd rfl) rfl ?_
    refine g_areturn (gd rfl) rfl (hp1 _ _ ?_)
    show GG _ _ _ _ _ _ _ _ [.ref (A 2)] _ _ _
    refine g_astore 6 (gd rfl) rfl (Nat.le_of_ble_eq_true rfl) ?_
    refine g_aload 8 (gd rfl) rfl rfl ?_
    refine g_iload_n 9 (gd rfl) rfl rfl ?_
    refine g_callv (X := _) (As := [.int x1]) (r := []) (b := A 2) (q := 2) 12 (gd rfl) rfl rfl rfl rfl rfl (ww_o rfl) (Nat.le_of_ble_eq_true rfl) (mc := 0) (ms := 0) (Nat.zero_le _) (Nat.zero_le _) (P := fun v u => _) ?_ (fun e u h => h) (fun v u h => h)
    intro po9 xx9 hp9 hx9
    refine g_enter2 (k := 94) (N := 300) (by first | exact dq1 hd rfl | exact dq0 hd rfl | exact dq2 hd rfl | exact dq3 hd rfl | omega) rfl (Nat.le_of_ble_eq_true rfl) ?_
    refine g_iload_n 1 (gd rfl) rfl rfl ?_
    refine g_if_lt 4 16 (gd rfl) rfl rfl (fun c9x1 => ?_) (fun c9x1 => ?_)
    · skip
      have i9x1 := z_lt (-2147483648) (-1) c9x1 (i_rng x1) rfl
      refine g_iconst 0 17 (gd rfl) rfl rfl ?_
      refine g_ireturn (gd rfl) rfl (nb01 (in_w 0 1 (in_c 0 rfl) rfl)) (hp9 _ _ ?_)
      show GG _ _ _ _ _ _ _ _ [.int (Int32.ofInt 0)] _ _ _
      refine g_if_eq 15 32 (gd rfl) rfl rfl (fun c12 => ?_) (fun c12 => ?_)
      · skip
        exact gg_w (by first | exact Nat.le_of_ble_eq_true rfl | omega) (gg_f (gf_cons rfl (gf_cons rfl (gf_cons rfl (gf_cons rfl gf_nil)))) (ct32 s  hI fr_rf ))
      · skip
        exact zn_ne c12 (in_c 0 rfl) rfl
    · skip
      have i9x1 := z_ge 0 2147483647 c9x1 (i_rng x1) rfl
      refine g_iload_n 5 (gd rfl) rfl rfl ?_
      refine g_aload_n 6 (gd rfl) rfl rfl ?_
      refine g_getI 9 (gd rfl) rfl rfl rfl (fun z9x6 e9x6 => ?_)
      have q9x6 : u_2_1 = z9x6 := (e_2_1).trans e9x6.symm
      subst q9x6
      refine g_cmp_ge 12 16 (gd rfl) rfl rfl (fun c9x9 => ?_) (fun c9x9 => ?_)
      · skip
        refine g_iconst 0 17 (gd rfl) rfl rfl ?_
        refine g_ireturn (gd rfl) rfl (nb01 (in_w 0 1 (in_c 0 rfl) rfl)) (hp9 _ _ ?_)
        show GG _ _ _ _ _ _ _ _ [.int (Int32.ofInt 0)] _ _ _
        refine g_if_eq 15 32 (gd rfl) rfl rfl (fun c12 => ?_) (fun c12 => ?_)
        · skip
          exact gg_w (by first | exact Nat.le_of_ble_eq_true rfl | omega) (gg_f (gf_cons rfl (gf_cons rfl (gf_cons rfl (gf_cons rfl gf_nil)))) (ct32 s  hI fr_rf ))
        · skip
          exact zn_ne c12 (in_c 0 rfl) rfl
      · skip
        have i9x9 := r_lt1 0 31 c9x9 i9x1 ro_2_1 rfl
        have i9x9a := r_lt2 1 32 c9x9 i9x1 ro_2_1 rfl
        refine g_iconst 1 13 (gd rfl) rfl rfl ?_
        refine g_goto 17 (gd rfl) rfl ?_
        refine g_ireturn (gd rfl) rfl (nb01 (in_w 0 1 (in_c 1 rfl) rfl)) (hp9 _ _ ?_)
        show GG _ _ _ _ _ _ _ _ [.int (Int32.ofInt 1)] _ _ _
        refine g_if_eq 15 32 (gd rfl) rfl rfl (fun c12 => ?_) (fun c12 => ?_)
        · skip
          exact zn_eq c12 (in_c 1 rfl) rfl
        · skip
          refine g_iload_n 16 (gd rfl) rfl rfl ?_
          refine g_if_lt 19 32 (gd rfl) rfl rfl (fun c16 => ?_) (fun c16 => ?_)
          · skip
            have i16 := z_lt (-2147483648) (-1) c16 (i_rng x2) rfl
            exact gg_w (by first | exact Nat.le_of_ble_eq_true rfl | omega) (gg_f (gf_cons rfl (gf_cons rfl (gf_cons rfl (gf_cons rfl gf_nil)))) (ct32 s  hI fr_rf ))
          · skip
            have i16 := z_ge 0 2147483647 c16 (i_rng x2) rfl
            refine g_iload_n 20 (gd rfl) rfl rfl ?_
            refine g_iconst 1 21 (gd rfl) rfl rfl ?_
            refine g_cmp_gt 24 32 (gd rfl) rfl rfl (fun c21 => ?_) (fun c21 => ?_)
            · skip
              have i21 := r_lt2 2 2147483647 c21 (in_c 1 rfl) i16 rfl
              exact gg_w (by first | exact Nat.le_of_ble_eq_true rfl | omega) (gg_f (gf_cons rfl (gf_cons rfl (gf_cons rfl (gf_cons rfl gf_nil)))) (ct32 s  hI fr_rf ))
            · skip
              have i21 := r_le1 0 1 c21 i16 (in_c 1 rfl) rfl
              refine g_iload_n 25 (gd rfl) rfl rfl ?_
              refine g_if_lt 28 32 (gd rfl) rfl rfl (fun c25 => ?_) (fun c25 => ?_)
              · skip
                have i25 := z_lt (-2147483648) (-1) c25 (i_rng x3) rfl
                exact gg_w (by first | exact Nat.le_of_ble_eq_true rfl | omega) (gg_f (gf_cons rfl (gf_cons rfl (gf_cons rfl (gf_cons rfl gf_nil)))) (ct32 s  hI fr_rf ))
              · skip
                have i25 := z_ge 0 2147483647 c25 (i_rng x3) rfl
                refine g_iconst 1 29 (gd rfl) rfl rfl ?_
                refine g_goto 33 (gd rfl) rfl ?_
                refine g_thr (E := am_IA) (y := yX11_allow) 36 (gd rfl) rfl rfl (Or.inl ⟨rfl, rfl, rfl⟩) (by first | exact dq1 hd rfl | exact dq0 hd rfl | exact dq2 hd rfl | exact dq3 hd rfl | omega) (Nat.le_of_ble_eq_true rfl) (Nat.le_of_ble_eq_true rfl) (Nat.le_of_ble_eq_true rfl) (fun c33 => ?_) (fun c33 => ?_)
                · skip
                  refine g_aload 38 (gd rfl) rfl rfl ?_
                  refine g_callv (X := _) (As := []) (r := []) (b := A 2) (q := 2) 41 (gd rfl) rfl rfl rfl rfl rfl (ww_o rfl) (Nat.le_of_ble_eq_true rfl) (Nat.zero_le _) (Nat.zero_le _) (k_106_2 (by first | exact dq1 hd rfl | exact dq0 hd rfl | exact dq2 hd rfl | exact dq3 hd rfl | omega) hI ) (fun e u h => h) (fun v u h => ?_)
                  obtain ⟨s38, hI38, hF38, n38, rfl, rfl⟩ := h
                  obtain ⟨z38a, e38⟩ : ∃ w, w = s38.2.2.1 2 4 := ⟨_, rfl⟩
                  have i38a := inv_F hI38 (-1) 4000 rfl e38
                  obtain ⟨z38b, e38a⟩ : ∃ w, w = s38.2.2.1 2 0 := ⟨_, rfl⟩
                  have i38b := inv_F hI38 0 4000 rfl e38a
                  rw [← (show z38a = s38.2.2.1 2 4 from e38)] at n38
                  rw [← (show z38b = s38.2.2.1 2 0 from e38a)] at n38
                  show GG _ _ _ _ _ _ _ _ [] _ _ _
                  refine g_iload_n 42 (gd rfl) rfl rfl ?_
                  refine g_if_ne 45 75 (gd rfl) rfl rfl (fun c42 => ?_) (fun c42 => ?_)
                  · skip
                    have i42 := z_ne 1 1 c42 i21 rfl
                    refine g_iload_n 76 (gd rfl) rfl rfl ?_
                    refine g_aload 78 (gd rfl) rfl rfl ?_
                    refine g_iload_n 79 (gd rfl) rfl rfl ?_
                    refine g_callv (X := _) (As := [.int x1]) (r := [.int x3]) (b := A 2) (q := 2) 82 (gd rfl) rfl rfl rfl rfl rfl (ww_o rfl) (Nat.le_of_ble_eq_true rfl) (mc := 0) (ms := 0) (Nat.zero_le _) (Nat.zero_le _) (P := fun v u => _) ?_ (fun e u h => h) (fun v u h => h)
                    intro po79 xx79 hp79 hx79
                    refine g_enter2 (k := 104) (N := 300) (by first | exact dq1 hd rfl | exact dq0 hd rfl | exact dq2 hd rfl | exact dq3 hd rfl | omega) rfl (Nat.le_of_ble_eq_true rfl) ?_
                    refine g_aload_n 1 (gd rfl) rfl rfl ?_
                    refine g_getA (q2 := 14) 4 (gd rfl) rfl rfl rfl rfl ?_
                    refine g_iload_n 5 (gd rfl) rfl rfl ?_
                    refine g_iconst 1 6 (gd rfl) rfl rfl ?_
                    refine g_iadd 7 (gd rfl) rfl (fun z79x6 e79x6 => ?_)
                    have i79x6 := in_add 1 32 e79x6 i9x9 (in_c 1 rfl) rfl rfl
                    refine g_iaload 8 (gd rfl) rfl (n := 33) rfl (in_ix i79x6 rfl) (fun z79x7 e79x7 => ?_)
                    have i79x7 := inv_I hI38 (n := 33) (t := 0) 0 160 rfl (in_ix i79x6 rfl) rfl e79x7
                    refine g_aload_n 9 (gd rfl) rfl rfl ?_
                    refine g_getA (q2 := 14) 12 (gd rfl) rfl rfl rfl rfl ?_
                    refine g_iload_n 13 (gd rfl) rfl rfl ?_
                    refine g_iaload 14 (gd rfl) rfl (n := 33) rfl (in_ix i9x9 rfl) (fun z79x13 e79x13 => ?_)
                    have i79x13 := inv_I hI38 (n := 33) (t := 0) 0 160 rfl (in_ix i9x9 rfl) rfl e79x13
                    refine g_isub 15 (gd rfl) rfl (fun z79x14 e79x14 => ?_)
                    have i79x14 := in_sub (-160) 160 e79x14 i79x7 i79x13 rfl rfl
                    refine g_ireturn (gd rfl) rfl rfl (hp79 _ _ ?_)
                    show GG _ _ _ _ _ _ _ _ [.int z79x14, .int x3] _ _ _
                    refine g_cmp_ge 85 103 (gd rfl) rfl rfl (fun c82 => ?_) (fun c82 => ?_)
                    · skip
                      refine g_iconst (-1) 104 (gd rfl) rfl rfl ?_
                      exact g_ireturn (gd rfl) rfl rfl (hP _ _ ⟨s38, hI38, (fr_tr rfl fr_rf hF38), (Int32.ofInt (-1)), rfl, rfl, in_w (-1) 159 (in_c (-1) rfl) rfl⟩)
                    · skip
                      have i82 := r_lt1 0 159 c82 i25 i79x14 rfl
                      have i82a := r_lt2 1 160 c82 i25 i79x14 rfl
                      refine g_aload 87 (gd rfl) rfl rfl ?_
                      refine g_getA (q2 := 15) 90 (gd rfl) rfl rfl rfl rfl ?_
                      refine g_aload 92 (gd rfl) rfl rfl ?_
                      refine g_getA (q2 := 14) 95 (gd rfl) rfl rfl rfl rfl ?_
                      refine g_iload_n 96 (gd rfl) rfl rfl ?_
                      refine g_iaload 97 (gd rfl) rfl (n := 33) rfl (in_ix i9x9 rfl) (fun z96 e96 => ?_)
                      have q96 : z79x13 = z96 := (e79x13).trans e96.symm
                      subst q96
                      refine g_iload_n 98 (gd rfl) rfl rfl ?_
                      refine g_iadd 99 (gd rfl) rfl (fun z98 e98 => ?_)
                      have i98 := in_add 0 319 e98 i79x13 i82 rfl rfl
                      have i99 : In z98 0 159 := by (first | have a0 := oa9 i82 i42 i9x9 ro_32_1 i9x9a i1x5 i38b i38a i98 | ((first | have a0 := in_u i82 | (have a0 := i82; unfold In at a0)); (first | have a1 := in_u i42 | (have a1 := i42; unfold In at a1)); (first | have a2 := in_u i9x9 | (have a2 := i9x9; unfold In at a2)); (first | have a3 := in_u ro_32_1 | (have a3 := ro_32_1; unfold In at a3)); (first | have a4 := in_u i9x9a | (have a4 := i9x9a; unfold In at a4)); (first | have a5 := in_u i1x5 | (have a5 := i1x5; unfold In at a5)); (first | have a6 := in_u i38b | (have a6 := i38b; unfold In at a6)); (first | have a7 := in_u i38a | (have a7 := i38a; unfold In at a7)); (first | have a8 := in_u i98 | (have a8 := i98; unfold In at a8)))); have a9 := t_add e98 i79x13 i82 rfl; (first | have a10 := oa2 i79x13 i82a | ((first | have a10 := in_u i79x13 | (have a10 := i79x13; unfold In at a10)); (first | have a11 := in_u i82a | (have a11 := i82a; unfold In at a11)))); have a12 := t_sub e79x14 i79x7 i79x13 rfl; (first | have a13 := oa2 i79x7 i79x6 | ((first | have a13 := in_u i79x7 | (have a13 := i79x7; unfold In at a13)); (first | have a14 := in_u i79x6 | (have a14 := i79x6; unfold In at a14)))); have a15 := t_add e79x6 i9x9 (in_c 1 rfl) rfl; (first | have a16 := in_u ((in_c 1 rfl)) | (have a16 := (in_c 1 rfl); unfold In at a16)); exact ⟨by omega, by omega⟩
                      refine g_iaload 100 (gd rfl) rfl (n := 160) rfl (in_ix i99 rfl) (fun z99 e99 => ?_)
                      have i99a := inv_I hI38 (n := 160) (t := 0) 0 159 rfl (in_ix i99 rfl) rfl e99
                      refine g_goto 104 (gd rfl) rfl ?_
                      exact g_ireturn (gd rfl) rfl rfl (hP _ _ ⟨s38, hI38, (fr_tr rfl fr_rf hF38), z99, rfl, rfl, in_w (-1) 159 i99a rfl⟩)
                  · skip
                    have i42 := z_eq 0 0 c42 i21 rfl
                    refine g_iload_n 46 (gd rfl) rfl rfl ?_
                    refine g_aload 48 (gd rfl) rfl rfl ?_
                    refine g_iload_n 49 (gd rfl) rfl rfl ?_
                    refine g_callv (X := _) (As := [.int x1]) (r := [.int x3]) (b := A 2) (q := 2) 52 (gd rfl) rfl rfl rfl rfl rfl (ww_o rfl) (Nat.le_of_ble_eq_true rfl) (mc := 0) (ms := 0) (Nat.zero_le _) (Nat.zero_le _) (P := fun v u => _) ?_ (fun e u h => h) (fun v u h => h)
                    intro po49 xx49 hp49 hx49
                    refine g_enter2 (k := 103) (N := 300) (by first | exact dq1 hd rfl | exact dq0 hd rfl | exact dq2 hd rfl | exact dq3 hd rfl | omega) rfl (Nat.le_of_ble_eq_true rfl) ?_
                    refine g_aload_n 1 (gd rfl) rfl rfl ?_
                    refine g_getA (q2 := 12) 4 (gd rfl) rfl rfl rfl rfl ?_
                    refine g_iload_n 5 (gd rfl) rfl rfl ?_
                    refine g_iconst 1 6 (gd rfl) rfl rfl ?_
                    refine g_iadd 7 (gd rfl) rfl (fun z49x6 e49x6 => ?_)
                    have i49x6 := in_add 1 32 e49x6 i9x9 (in_c 1 rfl) rfl rfl
                    refine g_iaload 8 (gd rfl) rfl (n := 33) rfl (in_ix i49x6 rfl) (fun z49x7 e49x7 => ?_)
                    have i49x7 := inv_I hI38 (n := 33) (t := 0) 0 160 rfl (in_ix i49x6 rfl) rfl e49x7
                    refine g_aload_n 9 (gd rfl) rfl rfl ?_
                    refine g_getA (q2 := 12) 12 (gd rfl) rfl rfl rfl rfl ?_
                    refine g_iload_n 13 (gd rfl) rfl rfl ?_
                    refine g_iaload 14 (gd rfl) rfl (n := 33) rfl (in_ix i9x9 rfl) (fun z49x13 e49x13 => ?_)
                    have i49x13 := inv_I hI38 (n := 33) (t := 0) 0 160 rfl (in_ix i9x9 rfl) rfl e49x13
                    refine g_isub 15 (gd rfl) rfl (fun z49x14 e49x14 => ?_)
                    have i49x14 := in_sub (-160) 160 e49x14 i49x7 i49x13 rfl rfl
                    refine g_ireturn (gd rfl) rfl rfl (hp49 _ _ ?_)
                    show GG _ _ _ _ _ _ _ _ [.int z49x14, .int x3] _ _ _
                    refine g_cmp_ge 55 73 (gd rfl) rfl rfl (fun c52 => ?_) (fun c52 => ?_)
                    · skip
                      refine g_iconst (-1) 74 (gd rfl) rfl rfl ?_
                      exact g_ireturn (gd rfl) rfl rfl (hP _ _ ⟨s38, hI38, (fr_tr rfl fr_rf hF38), (Int32.ofInt (-1)), rfl, rfl, in_w (-1) 159 (in_c (-1) rfl) rfl⟩)
                    · skip
                      have i52 := r_lt1 0 159 c52 i25 i49x14 rfl
                      have i52a := r_lt2 1 160 c52 i25 i49x14 rfl
                      refine g_aload 57 (gd rfl) rfl rfl ?_
                      refine g_getA (q2 := 13) 60 (gd rfl) rfl rfl rfl rfl ?_
                      refine g_aload 62 (gd rfl) rfl rfl ?_
                      refine g_getA (q2 := 12) 65 (gd rfl) rfl rfl rfl rfl ?_
                      refine g_iload_n 66 (gd rfl) rfl rfl ?_
                      refine g_iaload 67 (gd rfl) rfl (n := 33) rfl (in_ix i9x9 rfl) (fun z66 e66 => ?_)
                      have q66 : z49x13 = z66 := (e49x13).trans e66.symm
                      subst q66
                      refine g_iload_n 68 (gd rfl) rfl rfl ?_
                      refine g_iadd 69 (gd rfl) rfl (fun z68 e68 => ?_)
                      have i68 := in_add 0 319 e68 i49x13 i52 rfl rfl
                      have i69 : In z68 0 159 := by (first | have a0 := oa9 i52 i42 i9x9 ro_32_1 i9x9a i1x5 i38b i38a i68 | ((first | have a0 := in_u i52 | (have a0 := i52; unfold In at a0)); (first | have a1 := in_u i42 | (have a1 := i42; unfold In at a1)); (first | have a2 := in_u i9x9 | (have a2 := i9x9; unfold In at a2)); (first | have a3 := in_u ro_32_1 | (have a3 := ro_32_1; unfold In at a3)); (first | have a4 := in_u i9x9a | (have a4 := i9x9a; unfold In at a4)); (first | have a5 := in_u i1x5 | (have a5 := i1x5; unfold In at a5)); (first | have a6 := in_u i38b | (have a6 := i38b; unfold In at a6)); (first | have a7 := in_u i38a | (have a7 := i38a; unfold In at a7)); (first | have a8 := in_u i68 | (have a8 := i68; unfold In at a8)))); have a9 := t_add e68 i49x13 i52 rfl; (first | have a10 := oa2 i49x13 i52a | ((first | have a10 := in_u i49x13 | (have a10 := i49x13; unfold In at a10)); (first | have a11 := in_u i52a | (have a11 := i52a; unfold In at a11)))); have a12 := t_sub e49x14 i49x7 i49x13 rfl; (first | have a13 := oa2 i49x7 i49x6 | ((first | have a13 := in_u i49x7 | (have a13 := i49x7; unfold In at a13)); (first | have a14 := in_u i49x6 | (have a14 := i49x6; unfold In at a14)))); have a15 := t_add e49x6 i9x9 (in_c 1 rfl) rfl; (first | have a16 := in_u ((in_c 1 rfl)) | (have a16 := (in_c 1 rfl); unfold In at a16)); exact ⟨by omega, by omega⟩
                      refine g_iaload 70 (gd rfl) rfl (n := 160) rfl (in_ix i69 rfl) (fun z69 e69 => ?_)
                      have i69a := inv_I hI38 (n := 160) (t := 0) 0 159 rfl (in_ix i69 rfl) rfl e69
                      refine g_goto 74 (gd rfl) rfl ?_
                      exact g_ireturn (gd rfl) rfl rfl (hP _ _ ⟨s38, hI38, (fr_tr rfl fr_rf hF38), z69, rfl, rfl, in_w (-1) 159 i69a rfl⟩)
                · skip
                  exact zn_eq c33 (in_c 1 rfl) rfl

def fm_223_0 : FM := ([47], [], [(46, 1)], [])
def fm_224_0 : FM := ([], [], [(46, 1)], [])
def fm_226_0 : FM := ([], [], [], [])
/-- GraphHouse.fault -/
theorem k_226_0 {Z : AmZ} {A : Nat → Nat} {s : GS} {ex : va_W} {d : Nat} {x1 : Int32} (hd : 7 ≤ d) (hI : Inv s)  : GC Z d 226 [.ref (A 0), .int x1] (WW Z A s ++ ex) 3 18 (fun v u => ∃ t : GS, Inv t ∧ Fr fm_226_0 s t ∧ ∃ z : Int32, v = some (.int z) ∧ u = WW Z A t ++ ex ∧ In z (-1) 1000) (gE1 Z A ex fm_226_0 s) := by
  intro post xp hP hX
  obtain ⟨u_46_6, e_46_6⟩ : ∃ w, w = s.2.2.1 46 6 := ⟨_, rfl⟩
  have ro_46_6 := inv_F hI (-1) 5 rfl e_46_6
  obtain ⟨u_46_7, e_46_7⟩ : ∃ w, w = s.2.2.1 46 7 := ⟨_, rfl⟩
  have ro_46_7 := inv_F hI (-1) 1000 rfl e_46_7
  refine g_enter2 (k := 226) (N := 900) (by first | exact dq1 hd rfl | exact dq0 hd rfl | exact dq2 hd rfl | exact dq3 hd rfl | omega) rfl (Nat.le_of_ble_eq_true rfl) ?_
  refine g_iload_n 1 (gd rfl) rfl rfl ?_
  refine g_if_lt 4 13 (gd rfl) rfl rfl (fun c1 => ?_) (fun c1 => ?_)
  · skip
    have i1 := z_lt (-2147483648) (-1) c1 (i_rng x1) rfl
    refine g_iconst 0 14 (gd rfl) rfl rfl ?_
    refine g_thr (E := am_IA) (y := yX11_allow) 17 (gd rfl) rfl rfl (Or.inl ⟨rfl, rfl, rfl⟩) (by first | exact dq1 hd rfl | exact dq0 hd rfl | exact dq2 hd rfl | exact dq3 hd rfl | omega) (Nat.le_of_ble_eq_true rfl) (Nat.le_of_ble_eq_true rfl) (Nat.le_of_ble_eq_true rfl) (fun c14 => ?_) (fun c14 => ?_)
    · skip
      exact zn_ne c14 (in_c 0 rfl) rfl
    · skip
      exact (hX _ _ ⟨rfl, s, hI, fr_rf, rfl⟩)
  · skip
    have i1 := z_ge 0 2147483647 c1 (i_rng x1) rfl
    refine g_iload_n 5 (gd rfl) rfl rfl ?_
    refine g_iconst 1 6 (gd rfl) rfl rfl ?_
    refine g_cmp_gt 9 13 (gd rfl) rfl rfl (fun c6 => ?_) (fun c6 => ?_)
    · skip
      have i6 := r_lt2 2 2147483647 c6 (in_c 1 rfl) i1 rfl
      refine g_iconst 0 14 (gd rfl) rfl rfl ?_
      refine g_thr (E := am_IA) (y := yX11_allow) 17 (gd rfl) rfl rfl (Or.inl ⟨rfl, rfl, rfl⟩) (by first | exact dq1 hd rfl | exact dq0 hd rfl | exact dq2 hd rfl | exact dq3 hd rfl | omega) (Nat.le_of_ble_eq_true rfl) (Nat.le_of_ble_eq_true rfl) (Nat.le_of_ble_eq_true rfl) (fun c14 => ?_) (fun c14 => ?_)
      · skip
        exact zn_ne c14 (in_c 0 rfl) rfl
      · skip
        exact (hX _ _ ⟨rfl, s, hI, fr_rf, rfl⟩)
    · skip
      have i6 := r_le1 0 1 c6 i1 (in_c 1 rfl) rfl
      refine g_iconst 1 10 (gd rfl) rfl rfl ?_
      refine g_goto 14 (gd rfl) rfl ?_
      refine g_thr (E := am_IA) (y := yX11_allow) 17 (gd rfl) rfl rfl (Or.inl ⟨rfl, rfl, rfl⟩) (by first | exact dq1 hd rfl | exact dq0 hd rfl | exact dq2 hd rfl | exact dq3 hd rfl | omega) (Nat.le_of_ble_eq_true rfl) (Nat.le_of_ble_eq_true rfl) (Nat.le_of_ble_eq_true rfl) (fun c14 => ?_) (fun c14 => ?_)
      · skip
        refine g_iload_n 18 (gd rfl) rfl rfl ?_
        refine g_if_ne 21 31 (gd rfl) rfl rfl (fun c18 => ?_) (fun c18 => ?_)
        · skip
          have i18 := z_ne 1 1 c18 i6 rfl
          refine g_aload_n 32 (gd rfl) rfl rfl ?_
          refine g_getA (q2 := 46) 35 (gd rfl) rfl rfl rfl rfl ?_
          refine g_getI 38 (gd rfl) rfl rfl rfl (fun z35 e35 => ?_)
          have q35 : u_46_7 = z35 := (e_46_7).trans e35.symm
          subst q35
          exact g_ireturn (gd rfl) rfl rfl (hP _ _ ⟨s, hI, fr_rf, u_46_7, rfl, rfl, in_w (-1) 1000 ro_46_7 rfl⟩)
        · skip
          have i18 := z_eq 0 0 c18 i6 rfl
          refine g_aload_n 22 (gd rfl) rfl rfl ?_
          refine g_getA (q2 := 46) 25 (gd rfl) rfl rfl rfl rfl ?_
          refine g_getI 28 (gd rfl) rfl rfl rfl (fun z25 e25 => ?_)
          have q25 : u_46_6 = z25 := (e_46_6).trans e25.symm
          subst q25
          refine g_goto 38 (gd rfl) rfl ?_
          exact g_ireturn (gd rfl) rfl rfl (hP _ _ ⟨s, hI, fr_rf, u_46_6, rfl, rfl, in_w (-1) 1000 ro_46_6 rfl⟩)
      · skip
        exact zn_eq c14 (in_c 1 rfl) rfl

def fm_228_0 : FM := ([], [], [], [])
/-- GraphHouse.printed -/
theorem k_228_0 {Z : AmZ} {A : Nat → Nat} {s : GS} {ex : va_W} {d : Nat} {x1 : Int32} (hd : 7 ≤ d) (hI : Inv s)  : GC Z d 228 [.ref (A 0), .int x1] (WW Z A s ++ ex) 3 18 (fun v u => ∃ t : GS, Inv t ∧ Fr fm_228_0 s t ∧ ∃ z : Int32, v = some (.int z) ∧ u = WW Z A t ++ ex ∧ In z 0 65535) (gE1 Z A ex fm_228_0 s) := by
  intro post xp hP hX
  obtain ⟨u_46_9, e_46_9⟩ : ∃ w, w = s.2.2.1 46 9 := ⟨_, rfl⟩
  have ro_46_9 := inv_F hI 0 4608 rfl e_46_9
  refine g_enter2 (k := 228) (N := 900) (by first | exact dq1 hd rfl | exact dq0 hd rfl | exact dq2 hd rfl | exact dq3 hd rfl | omega) rfl (Nat.le_of_ble_eq_true rfl) ?_
  refine g_iload_n 1 (gd rfl) rfl rfl ?_
  refine g_if_lt 4 19 (gd rfl) rfl rfl (fun c1 => ?_) (fun c1 => ?_)
  · skip
    have i1 := z_lt (-2147483648) (-1) c1 (i_rng x1) rfl
    refine g_iconst 0 20 (gd rfl) rfl rfl ?_
    refine g_thr (E := am_IA) (y := yX11_allow) 23 (gd rfl) rfl rfl (Or.inl ⟨rfl, rfl, rfl⟩) (by first | exact dq1 hd rfl | exact dq0 hd rfl | exact dq2 hd rfl | exact dq3 hd rfl | omega) (Nat.le_of_ble_eq_true rfl) (Nat.le_of_ble_eq_true rfl) (Nat.le_of_ble_eq_true rfl) (fun c20 => ?_) (fun c20 => ?_)
    · skip
      exact zn_ne c20 (in_c 0 rfl) rfl
    · skip
      exact (hX _ _ ⟨rfl, s, hI, fr_rf, rfl⟩)
  · skip
    have i1 := z_ge 0 2147483647 c1 (i_rng x1) rfl
    refine g_iload_n 5 (gd rfl) rfl rfl ?_
    refine g_aload_n 6 (gd rfl) rfl rfl ?_
    refine g_getA (q2 := 46) 9 (gd rfl) rfl rfl rfl rfl ?_
    refine g_getI 12 (gd rfl) rfl rfl rfl (fun z9 e9 => ?_)
    have q9 : u_46_9 = z9 := (e_46_9).trans e9.symm
    subst q9
    refine g_cmp_ge 15 19 (gd rfl) rfl rfl (fun c12 => ?_) (fun c12 => ?_)
    · skip
      refine g_iconst 0 20 (gd rfl) rfl rfl ?_
      refine g_thr (E := am_IA) (y := yX11_allow) 23 (gd rfl) rfl rfl (Or.inl ⟨rfl, rfl, rfl⟩) (by first | exact dq1 hd rfl | exact dq0 hd rfl | exact dq2 hd rfl | exact dq3 hd rfl | omega) (Nat.le_of_ble_eq_true rfl) (Nat.le_of_ble_eq_true rfl) (Nat.le_of_ble_eq_true rfl) (fun c20 => ?_) (fun c20 => ?_)
      · skip
        exact zn_ne c20 (in_c 0 rfl) rfl
      · skip
        exact (hX _ _ ⟨rfl, s, hI, fr_rf, rfl⟩)
    · skip
      have i12 := r_lt1 0 4607 c12 i1 ro_46_9 rfl
      have i12a := r_lt2 1 4608 c12 i1 ro_46_9 rfl
      refine g_iconst 1 16 (gd rfl) rfl rfl ?_
      refine g_goto 20 (gd rfl) rfl ?_
      refine g_thr (E := am_IA) (y := yX11_allow) 23 (gd rfl) rfl rfl (Or.inl ⟨rfl, rfl, rfl⟩) (by first | exact dq1 hd rfl | exact dq0 hd rfl | exact dq2 hd rfl | exact dq3 hd rfl | omega) (Nat.le_of_ble_eq_true rfl) (Nat.le_of_ble_eq_true rfl) (Nat.le_of_ble_eq_true rfl) (fun c20 => ?_) (fun c20 => ?_)
      · skip
        refine g_aload_n 24 (gd rfl) rfl rfl ?_
        refine g_getA (q2 := 46) 27 (gd rfl) rfl rfl rfl rfl ?_
        refine g_getA (q2 := 48) 30 (gd rfl) rfl rfl rfl rfl ?_
        refine g_iload_n 31 (gd rfl) rfl rfl ?_
        refine g_caload 32 (gd rfl) rfl (n := 4608) rfl (in_ix i12 rfl) (fun z31 e31 => ?_)
        have i31 := inv_I hI (n := 4608) (t := 2) 0 65535 rfl (in_ix i12 rfl) rfl e31
        exact g_ireturn (gd rfl) rfl rfl (hP _ _ ⟨s, hI, fr_rf, z31, rfl, rfl, in_w 0 65535 i31 rfl⟩)
      · skip
        exact zn_eq c20 (in_c 1 rfl) rfl

def fm_239_0 : FM := ([9, 10, 11, 12, 13, 14, 15, 39, 40, 41, 42, 43, 44, 45], [], [(2, 4), (32, 4), (60, 0), (60, 1)], [])
def fm_252_0 : FM := ([9, 10, 11, 12, 13, 14, 15, 39, 40, 41, 42, 43, 44, 45], [], [(2, 4), (32, 4)], [])
/-- GraphHouse.figures -/
theorem k_252_0 {Z : AmZ} {A : Nat → Nat} {s : GS} {ex : va_W} {d : Nat} {x1 : Int32} (hd : 7 ≤ d) (hI : Inv s)  : GC Z d 252 [.ref (A 0), .int x1] (WW Z A s ++ ex) 3 18 (fun v u => ∃ t : GS, Inv t ∧ Fr fm_252_0 s t ∧ ∃ z : Int64, v = some (.long z) ∧ u = WW Z A t ++ ex) (gE1 Z A ex fm_252_0 s) := by
  intro post xp hP hX
  obtain ⟨u_0_2, e_0_2⟩ : ∃ w, w = s.2.2.1 0 2 := ⟨_, rfl⟩
  have ro_0_2 := inv_F hI (-1) 4000 rfl e_0_2
  refine g_enter2 (k := 252) (N := 900) (by first | exact dq1 hd rfl | exact dq0 hd rfl | exact dq2 hd rfl | exact dq3 hd rfl | omega) rfl (Nat.le_of_ble_eq_true rfl) ?_
  refine g_iload_n 1 (gd rfl) rfl rfl ?_
  refine g_if_lt 4 13 (gd rfl) rfl rfl (fun c1 => ?_) (fun c1 => ?_)
  · skip
    have i1 := z_lt (-2147483648) (-1) c1 (i_rng x1) rfl
    refine g_iconst 0 14 (gd rfl) rfl rfl ?_
    refine g_thr (E := am_IA) (y := yX11_allow) 17 (gd rfl) rfl rfl (Or.inl ⟨rfl, rfl, rfl⟩) (by first | exact dq1 hd rfl | exact dq0 hd rfl | exact dq2 hd rfl | exact dq3 hd rfl | omega) (Nat.le_of_ble_eq_true rfl) (Nat.le_of_ble_eq_true rfl) (Nat.le_of_ble_eq_true rfl) (fun c14 => ?_) (fun c14 => ?_)
    · skip
      exact zn_ne c14 (in_c 0 rfl) rfl
    · skip
      exact (hX _ _ ⟨rfl, s, hI, fr_rf, rfl⟩)
  · skip
    have i1 := z_ge 0 2147483647 c1 (i_rng x1) rfl
    refine g_iload_n 5 (gd rfl) rfl rfl ?_
    refine g_iconst 1 6 (gd rfl) rfl rfl ?_
    refine g_cmp_gt 9 13 (gd rfl) rfl rfl (fun c6 => ?_) (fun c6 => ?_)
    · skip
      have i6 := r_lt2 2 2147483647 c6 (in_c 1 rfl) i1 rfl
      refine g_iconst 0 14 (gd rfl) rfl rfl ?_
      refine g_thr (E := am_IA) (y := yX11_allow) 17 (gd rfl) rfl rfl (Or.inl ⟨rfl, rfl, rfl⟩) (by first | exact dq1 hd rfl | exact dq0 hd rfl | exact dq2 hd rfl | exact dq3 hd rfl | omega) (Nat.le_of_ble_eq_true rfl) (Nat.le_of_ble_eq_true rfl) (Nat.le_of_ble_eq_true rfl) (fun c14 => ?_) (fun c14 => ?_)
      · skip
        exact zn_ne c14 (in_c 0 rfl) rfl
      · skip
        exact (hX _ _ ⟨rfl, s, hI, fr_rf, rfl⟩)
    · skip
      have i6 := r_le1 0 1 c6 i1 (in_c 1 rfl) rfl
      refine g_iconst 1 10 (gd rfl) rfl rfl ?_
      refine g_goto 14 (gd rfl) rfl ?_
      refine g_thr (E := am_IA) (y := yX11_allow) 17 (gd rfl) rfl rfl (Or.inl ⟨rfl, rfl, rfl⟩) (by first | exact dq1 hd rfl | exact dq0 hd rfl | exact dq2 hd rfl | exact dq3 hd rfl | omega) (Nat.le_of_ble_eq_true rfl) (Nat.le_of_ble_eq_true rfl) (Nat.le_of_ble_eq_true rfl) (fun c14 => ?_) (fun c14 => ?_)
      · skip
        refine g_iload_n 18 (gd rfl) rfl rfl ?_
        refine g_if_ne 21 35 (gd rfl) rfl rfl (fun c18 => ?_) (fun c18 => ?_)
        · skip
          have i18 := z_ne 1 1 c18 i6 rfl
          refine g_aload_n 36 (gd rfl) rfl rfl ?_
          refine g_getA (q2 := 56) 39 (gd rfl) rfl rfl rfl rfl ?_
          refine g_aload_n 40 (gd rfl) rfl rfl ?_
          refine g_callv (X := _) (As := []) (r := [.ref (A 56)]) (b := A 0) (q := 0) 43 (gd rfl) rfl rfl rfl rfl rfl (ww_o rfl) (Nat.le_of_ble_eq_true rfl) (mc := 0) (ms := 0) (Nat.zero_le _) (Nat.zero_le _) (P := fun v u => _) ?_ (fun e u h => h) (fun v u h => h)
          intro po40 xx40 hp40 hx40
          refine g_enter2 (k := 259) (N := 300) (by first | exact dq1 hd rfl | exact dq0 hd rfl | exact dq2 hd rfl | exact dq3 hd rfl | omega) rfl (Nat.le_of_ble_eq_true rfl) ?_
          refine g_aload_n 1 (gd rfl) rfl rfl ?_
          refine g_getI 4 (gd rfl) rfl rfl rfl (fun z40x1 e40x1 => ?_)
          have q40x1 : u_0_2 = z40x1 := (e_0_2).trans e40x1.symm
          subst q40x1
          refine g_iconst (-1) 5 (gd rfl) rfl rfl ?_
          refine g_cmp_ne 8 18 (gd rfl) rfl rfl (fun c40x5 => ?_) (fun c40x5 => ?_)
          · skip
            have i40x5 := r_ne1 0 4000 c40x5 ro_0_2 (in_c (-1) rfl) rfl
            refine g_aload_n 19 (gd rfl) rfl rfl ?_
            refine g_getA (q2 := 32) 22 (gd rfl) rfl rfl rfl rfl ?_
            refine g_areturn (gd rfl) rfl (hp40 _ _ ?_)
            show GG _ _ _ _ _ _ _ _ [.ref (A 32), .ref (A 56)] _ _ _
            refine g_callv (X := _) (As := [.ref (A 32)]) (r := []) (b := A 56) (q := 56) 46 (gd rfl) rfl rfl rfl rfl rfl (ww_o rfl) (Nat.le_of_ble_eq_true rfl) (Nat.zero_le _) (Nat.zero_le _) (k_152_56_32 (by first | exact dq1 hd rfl | exact dq0 hd rfl | exact dq2 hd rfl | exact dq3 hd rfl | omega) hI ) (fun e u h => h) (fun v u h => ?_)
            obtain ⟨s43, hI43, hF43, z43, rfl, rfl⟩ := h
            show GG _ _ _ _ _ _ _ _ [.long z43] _ _ _
            exact g_lreturn (gd rfl) rfl (hP _ _ ⟨s43, hI43, (fr_tr rfl fr_rf hF43), z43, rfl, rfl⟩)
          · skip
            have i40x5 := r_eq1 (-1) (-1) c40x5 ro_0_2 (in_c (-1) rfl) rfl
            refine g_aload_n 9 (gd rfl) rfl rfl ?_
            refine g_getA (q2 := 1) 12 (gd rfl) rfl rfl rfl rfl ?_
            refine g_getA (q2 := 2) 15 (gd rfl) rfl rfl rfl rfl ?_
            refine g_goto 22 (gd rfl) rfl ?_
            refine g_areturn (gd rfl) rfl (hp40 _ _ ?_)
            show GG _ _ _ _ _ _ _ _ [.ref (A 2), .ref (A 56)] _ _ _
            refine g_callv (X := _) (As := [.ref (A 2)]) (r := []) (b := A 56) (q := 56) 46 (gd rfl) rfl rfl rfl rfl rfl (ww_o rfl) (Nat.le_of_ble_eq_true rfl) (Nat.zero_le _) (Nat.zero_le _) (k_152_56_2 (by first | exact dq1 hd rfl | exact dq0 hd rfl | exact dq2 hd rfl | exact dq3 hd rfl | omega) hI ) (fun e u h => h) (fun v u h => ?_)
            obtain ⟨s43, hI43, hF43, z43, rfl, rfl⟩ := h
            show GG _ _ _ _ _ _ _ _ [.long z43] _ _ _
            exact g_lreturn (gd rfl) rfl (hP _ _ ⟨s43, hI43, (fr_tr rfl fr_rf hF43), z43, rfl, rfl⟩)
        · skip
          have i18 := z_eq 0 0 c18 i6 rfl
          refine g_aload_n 22 (gd rfl) rfl rfl ?_
          refine g_getA (q2 := 56) 25 (gd rfl) rfl rfl rfl rfl ?_
          refine g_aload_n 26 (gd rfl) rfl rfl ?_
          refine g_callv (X := _) (As := []) (r := [.ref (A 56)]) (b := A 0) (q := 0) 29 (gd rfl) rfl rfl rfl rfl rfl (ww_o rfl) (Nat.le_of_ble_eq_true rfl) (mc := 0) (ms := 0) (Nat.zero_le _) (Nat.zero_le _) (P := fun v u => _) ?_ (fun e u h => h) (fun v u h => h)
          intro po26 xx26 hp26 hx26
          refine g_enter2 (k := 259) (N := 300) (by first | exact dq1 hd rfl | exact dq0 hd rfl | exact dq2 hd rfl | exact dq3 hd rfl | omega) rfl (Nat.le_of_ble_eq_true rfl) ?_
          refine g_aload_n 1 (gd rfl) rfl rfl ?_
          refine g_getI 4 (gd rfl) rfl rfl rfl (fun z26x1 e26x1 => ?_)
          have q26x1 : u_0_2 = z26x1 := (e_0_2).trans e26x1.symm
          subst q26x1
          refine g_iconst (-1) 5 (gd rfl) rfl rfl ?_
          refine g_cmp_ne 8 18 (gd rfl) rfl rfl (fun c26x5 => ?_) (fun c26x5 => ?_)
          · skip
            have i26x5 := r_ne1 0 4000 c26x5 ro_0_2 (in_c (-1) rfl) rfl
            refine g_aload_n 19 (gd rfl) rfl rfl ?_
            refine g_getA (q2 := 32) 22 (gd rfl) rfl rfl rfl rfl ?_
            refine g_areturn (gd rfl) rfl (hp26 _ _ ?_)
            show GG _ _ _ _ _ _ _ _ [.ref (A 32), .ref (A 56)] _ _ _
            refine g_callv (X := _) (As := [.ref (A 32)]) (r := []) (b := A 56) (q := 56) 32 (gd rfl) rfl rfl rfl rfl rfl (ww_o rfl) (Nat.le_of_ble_eq_true rfl) (Nat.zero_le _) (Nat.zero_le _) (k_151_56_32 (by first | exact dq1 hd rfl | exact dq0 hd rfl | exact dq2 hd rfl | exact dq3 hd rfl | omega) hI ) (fun e u h => h) (fun v u h => ?_)
            obtain ⟨s29, hI29, hF29, z29, rfl, rfl⟩ := h
            show GG _ _ _ _ _ _ _ _ [.long z29] _ _ _
            refine g_goto 46 (gd rfl) rfl ?_
            exact g_lreturn (gd rfl) rfl (hP _ _ ⟨s29, hI29, (fr_tr rfl fr_rf hF29), z29, rfl, rfl⟩)
          · skip
            have i26x5 := r_eq1 (-1) (-1) c26x5 ro_0_2 (in_c (-1) rfl) rfl
            refine g_aload_n 9 (gd rfl) rfl rfl ?_
            refine g_getA (q2 := 1) 12 (gd rfl) rfl rfl rfl rfl ?_
            refine g_getA (q2 := 2) 15 (gd rfl) rfl rfl rfl rfl ?_
            refine g_goto 22 (gd rfl) rfl ?_
            refine g_areturn (gd rfl) rfl (hp26 _ _ ?_)
            show GG _ _ _ _ _ _ _ _ [.ref (A 2), .ref (A 56)] _ _ _
            refine g_callv (X := _) (As := [.ref (A 2)]) (r := []) (b := A 56) (q := 56) 32 (gd rfl) rfl rfl rfl rfl rfl (ww_o rfl) (Nat.le_of_ble_eq_true rfl) (Nat.zero_le _) (Nat.zero_le _) (k_151_56_2 (by first | exact dq1 hd rfl | exact dq0 hd rfl | exact dq2 hd rfl | exact dq3 hd rfl | omega) hI ) (fun e u h => h) (fun v u h => ?_)
            obtain ⟨s29, hI29, hF29, z29, rfl, rfl⟩ := h
            show GG _ _ _ _ _ _ _ _ [.long z29] _ _ _
            refine g_goto 46 (gd rfl) rfl ?_
            exact g_lreturn (gd rfl) rfl (hP _ _ ⟨s29, hI29, (fr_tr rfl fr_rf hF29), z29, rfl, rfl⟩)
      · skip
        exact zn_eq c14 (in_c 1 rfl) rfl

def fm_257_0 : FM := ([], [], [], [])
/-- GraphHouse.state -/
theorem k_257_0 {Z : AmZ} {A : Nat → Nat} {s : GS} {ex : va_W} {d : Nat} {x1 : Int32} (hd : 7 ≤ d) (hI : Inv s)  : GC Z d 257 [.ref (A 0), .int x1] (WW Z A s ++ ex) 3 18 (fun v u => ∃ t : GS, Inv t ∧ Fr fm_257_0 s t ∧ ∃ z : Int64, v = some (.long z) ∧ u = WW Z A t ++ ex) (gE1 Z A ex fm_257_0 s) := by
  intro post xp hP hX
  obtain ⟨u_102_9, e_102_9⟩ : ∃ w, w = s.2.2.1 102 9 := ⟨_, rfl⟩
  have ro_102_9 := inv_F hI 0 32 rfl e_102_9
  refine g_enter2 (k := 257) (N := 900) (by first | exact dq1 hd rfl | exact dq0 hd rfl | exact dq2 hd rfl | exact dq3 hd rfl | omega) rfl (Nat.le_of_ble_eq_true rfl) ?_
  refine g_iload_n 1 (gd rfl) rfl rfl ?_
  refine g_if_lt 4 19 (gd rfl) rfl rfl (fun c1 => ?_) (fun c1 => ?_)
  · skip
    have i1 := z_lt (-2147483648) (-1) c1 (i_rng x1) rfl
    refine g_iconst 0 20 (gd rfl) rfl rfl ?_
    refine g_thr (E := am_IA) (y := yX11_allow) 23 (gd rfl) rfl rfl (Or.inl ⟨rfl, rfl, rfl⟩) (by first | exact dq1 hd rfl | exact dq0 hd rfl | exact dq2 hd rfl | exact dq3 hd rfl | omega) (Nat.le_of_ble_eq_true rfl) (Nat.le_of_ble_eq_true rfl) (Nat.le_of_ble_eq_true rfl) (fun c20 => ?_) (fun c20 => ?_)
    · skip
      exact zn_ne c20 (in_c 0 rfl) rfl
    · skip
      exact (hX _ _ ⟨rfl, s, hI, fr_rf, rfl⟩)
  · skip
    have i1 := z_ge 0 2147483647 c1 (i_rng x1) rfl
    refine g_iload_n 5 (gd rfl) rfl rfl ?_
    refine g_aload_n 6 (gd rfl) rfl rfl ?_
    refine g_getA (q2 := 102) 9 (gd rfl) rfl rfl rfl rfl ?_
    refine g_getI 12 (gd rfl) rfl rfl rfl (fun z9 e9 => ?_)
    have q9 : u_102_9 = z9 := (e_102_9).trans e9.symm
    subst q9
    refine g_cmp_ge 15 19 (gd rfl) rfl rfl (fun c12 => ?_) (fun c12 => ?_)
    · skip
      refine g_iconst 0 20 (gd rfl) rfl rfl ?_
      refine g_thr (E := am_IA) (y := yX11_allow) 23 (gd rfl) rfl rfl (Or.inl ⟨rfl, rfl, rfl⟩) (by first | exact dq1 hd rfl | exact dq0 hd rfl | exact dq2 hd rfl | exact dq3 hd rfl | omega) (Nat.le_of_ble_eq_true rfl) (Nat.le_of_ble_eq_true rfl) (Nat.le_of_ble_eq_true rfl) (fun c20 => ?_) (fun c20 => ?_)
      · skip
        exact zn_ne c20 (in_c 0 rfl) rfl
      · skip
        exact (hX _ _ ⟨rfl, s, hI, fr_rf, rfl⟩)
    · skip
      have i12 := r_lt1 0 31 c12 i1 ro_102_9 rfl
      have i12a := r_lt2 1 32 c12 i1 ro_102_9 rfl
      refine g_iconst 1 16 (gd rfl) rfl rfl ?_
      refine g_goto 20 (gd rfl) rfl ?_
      refine g_thr (E := am_IA) (y := yX11_allow) 23 (gd rfl) rfl rfl (Or.inl ⟨rfl, rfl, rfl⟩) (by first | exact dq1 hd rfl | exact dq0 hd rfl | exact dq2 hd rfl | exact dq3 hd rfl | omega) (Nat.le_of_ble_eq_true rfl) (Nat.le_of_ble_eq_true rfl) (Nat.le_of_ble_eq_true rfl) (fun c20 => ?_) (fun c20 => ?_)
      · skip
        refine g_aload_n 24 (gd rfl) rfl rfl ?_
        refine g_getA (q2 := 102) 27 (gd rfl) rfl rfl rfl rfl ?_
        refine g_getA (q2 := 107) 30 (gd rfl) rfl rfl rfl rfl ?_
        refine g_iload_n 31 (gd rfl) rfl rfl ?_
        refine g_laload 32 (gd rfl) rfl (n := 32) rfl (in_ix i12 rfl) (fun z31 e31 => ?_)
        exact g_lreturn (gd rfl) rfl (hP _ _ ⟨s, hI, fr_rf, z31, rfl, rfl⟩)
      · skip
        exact zn_eq c20 (in_c 1 rfl) rfl

def fm_258_0 : FM := ([], [], [], [])
/-- GraphHouse.letters -/
theorem k_258_0 {Z : AmZ} {A : Nat → Nat} {s : GS} {ex : va_W} {d : Nat} {x1 : Int32} (hd : 7 ≤ d) (hI : Inv s)  : GC Z d 258 [.ref (A 0), .int x1] (WW Z A s ++ ex) 3 18 (fun v u => ∃ t : GS, Inv t ∧ Fr fm_258_0 s t ∧ ∃ z : Int32, v = some (.int z) ∧ u = WW Z A t ++ ex ∧ In z (-2147483648) 2147483647) (gE1 Z A ex fm_258_0 s) := by
  intro post xp hP hX
  obtain ⟨u_102_10, e_102_10⟩ : ∃ w, w = s.2.2.1 102 10 := ⟨_, rfl⟩
  obtain ⟨u_102_11, e_102_11⟩ : ∃ w, w = s.2.2.1 102 11 := ⟨_, rfl⟩
  obtain ⟨u_102_12, e_102_12⟩ : ∃ w, w = s.2.2.1 102 12 := ⟨_, rfl⟩
  refine g_enter2 (k := 258) (N := 900) (by first | exact dq1 hd rfl | exact dq0 hd rfl | exact dq2 hd rfl | exact dq3 hd rfl | omega) rfl (Nat.le_of_ble_eq_true rfl) ?_
  refine g_iload_n 1 (gd rfl) rfl rfl ?_
  refine g_if_lt 4 13 (gd rfl) rfl rfl (fun c1 => ?_) (fun c1 => ?_)
  · skip
    have i1 := z_lt (-2147483648) (-1) c1 (i_rng x1) rfl
    refine g_iconst 0 14 (gd rfl) rfl rfl ?_
    refine g_thr (E := am_IA) (y := yX11_allow) 17 (gd rfl) rfl rfl (Or.inl ⟨rfl, rfl, rfl⟩) (by first | exact dq1 hd rfl | exact dq0 hd rfl | exact dq2 hd rfl | exact dq3 hd rfl | omega) (Nat.le_of_ble_eq_true rfl) (Nat.le_of_ble_eq_true rfl) (Nat.le_of_ble_eq_true rfl) (fun c14 => ?_) (fun c14 => ?_)
    · skip
      exact zn_ne c14 (in_c 0 rfl) rfl
    · skip
      exact (hX _ _ ⟨rfl, s, hI, fr_rf, rfl⟩)
  · skip
    have i1 := z_ge 0 2147483647 c1 (i_rng x1) rfl
    refine g_iload_n 5 (gd rfl) rfl rfl ?_
    refine g_iconst 2 6 (gd rfl) rfl rfl ?_
    refine g_cmp_gt 9 13 (gd rfl) rfl rfl (fun c6 => ?_) (fun c6 => ?_)
    · skip
      have i6 := r_lt2 3 2147483647 c6 (in_c 2 rfl) i1 rfl
      refine g_iconst 0 14 (gd rfl) rfl rfl ?_
      refine g_thr (E := am_IA) (y := yX11_allow) 17 (gd rfl) rfl rfl (Or.inl ⟨rfl, rfl, rfl⟩) (by first | exact dq1 hd rfl | exact dq0 hd rfl | exact dq2 hd rfl | exact dq3 hd rfl | omega) (Nat.le_of_ble_eq_true rfl) (Nat.le_of_ble_eq_true rfl) (Nat.le_of_ble_eq_true rfl) (fun c14 => ?_) (fun c14 => ?_)
      · skip
        exact zn_ne c14 (in_c 0 rfl) rfl
      · skip
        exact (hX _ _ ⟨rfl, s, hI, fr_rf, rfl⟩)
    · skip
      have i6 := r_le1 0 2 c6 i1 (in_c 2 rfl) rfl
      refine g_iconst 1 10 (gd rfl) rfl rfl ?_
      refine g_goto 14 (gd rfl) rfl ?_
      refine g_thr (E := am_IA) (y := yX11_allow) 17 (gd rfl) rfl rfl (Or.inl ⟨rfl, rfl, rfl⟩) (by first | exact dq1 hd rfl | exact dq0 hd rfl | exact dq2 hd rfl | exact dq3 hd rfl | omega) (Nat.le_of_ble_eq_true rfl) (Nat.le_of_ble_eq_true rfl) (Nat.le_of_ble_eq_true rfl) (fun c14 => ?_) (fun c14 => ?_)
      · skip
        refine g_iload_n 18 (gd rfl) rfl rfl ?_
        refine g_if_ne 21 29 (gd rfl) rfl rfl (fun c18 => ?_) (fun c18 => ?_)
        · skip
          have i18 := z_ne 1 2 c18 i6 rfl
          refine g_iload_n 30 (gd rfl) rfl rfl ?_
          refine g_iconst 1 31 (gd rfl) rfl rfl ?_
          refine g_cmp_ne 34 44 (gd rfl) rfl rfl (fun c31 => ?_) (fun c31 => ?_)
          · skip
            have i31 := r_ne1 2 2 c31 i18 (in_c 1 rfl) rfl
            refine g_aload_n 45 (gd rfl) rfl rfl ?_
            refine g_getA (q2 := 102) 48 (gd rfl) rfl rfl rfl rfl ?_
            refine g_getI 51 (gd rfl) rfl rfl rfl (fun z48 e48 => ?_)
            have q48 : u_102_12 = z48 := (e_102_12).trans e48.symm
            subst q48
            exact g_ireturn (gd rfl) rfl rfl (hP _ _ ⟨s, hI, fr_rf, u_102_12, rfl, rfl, in_w (-2147483648) 2147483647 (i_rng u_102_12) rfl⟩)
          · skip
            have i31 := r_eq1 1 1 c31 i18 (in_c 1 rfl) rfl
            refine g_aload_n 35 (gd rfl) rfl rfl ?_
            refine g_getA (q2 := 102) 38 (gd rfl) rfl rfl rfl rfl ?_
            refine g_getI 41 (gd rfl) rfl rfl rfl (fun z38 e38 => ?_)
            have q38 : u_102_11 = z38 := (e_102_11).trans e38.symm
            subst q38
            refine g_goto 51 (gd rfl) rfl ?_
            exact g_ireturn (gd rfl) rfl rfl (hP _ _ ⟨s, hI, fr_rf, u_102_11, rfl, rfl, in_w (-2147483648) 2147483647 (i_rng u_102_11) rfl⟩)
        · skip
          have i18 := z_eq 0 0 c18 i6 rfl
          refine g_aload_n 22 (gd rfl) rfl rfl ?_
          refine g_getA (q2 := 102) 25 (gd rfl) rfl rfl rfl rfl ?_
          refine g_getI 28 (gd rfl) rfl rfl rfl (fun z25 e25 => ?_)
          have q25 : u_102_10 = z25 := (e_102_10).trans e25.symm
          subst q25
          exact g_ireturn (gd rfl) rfl rfl (hP _ _ ⟨s, hI, fr_rf, u_102_10, rfl, rfl, in_w (-2147483648) 2147483647 (i_rng u_102_10) rfl⟩)
      · skip
        exact zn_eq c14 (in_c 1 rfl) rfl

/-- GraphHouse.flood -/
theorem k_266_9 {Z : AmZ} {A : Nat → Nat} {s : GS} {ex : va_W} {d : Nat} {X : AmX} {x1 : Int32} {x2 : Int32} (hd : 4 ≤ d) (hI : Inv s)  : GC Z d 266 [.ref (A 9), .int x1, .int x2] (WW Z A s ++ ex) 0 0 (fun v u => ∃ z : Int32, v = some (.int z) ∧ u = WW Z A s ++ ex ∧ In z (-2147483648) 2147483647 ∧ (∀ k, bt x1 k = true → bt z k = true)) X := by
  intro post xp hP hX
  have ct8 : ∀ (k8 : Nat) (y8_3 : Int32) (y8_4 : Int32) (y8_5 : Int32), (In y8_5 0 32) → (∀ k, bt x1 k = true → bt y8_3 k = true) → 32 - (y8_5).toInt < (k8 : Int) → GG Z (d - 1) 266 post (gx xp) (1 + k8 * 900) 8 (fun j => xlook j [(0, .ref (A 9)), (1, .int x1), (2, .int x2), (3, .int y8_3), (4, .int y8_4), (5, .int y8_5)]) [] (WW Z A s ++ ex) 0 0 := by
    intro k8
    induction k8 with
    | zero => intro y8_3 y8_4 y8_5 j8_5 g8_0 mm8; exact m_no mm8 j8_5 rfl
    | succ k8 ih8 =>
      intro y8_3 y8_4 y8_5 j8_5 g8_0 mm8
      refine gg_w (M := 1 + k8 * 900 + 900) gws ?_
      refine g_iload 10 (gd rfl) rfl rfl ?_
      refine g_bipush 32 12 (gd rfl) rfl rfl ?_
      refine g_cmp_ge 15 62 (gd rfl) rfl rfl (fun c12 => ?_) (fun c12 => ?_)
      · skip
        have i12 := r_le2 32 32 c12 (in_c 32 rfl) j8_5 rfl
        refine g_iload_n 63 (gd rfl) rfl rfl ?_
        have n63 : ∀ k, bt x1 k = true → bt y8_3 k = true := by exact g8_0
        exact g_ireturn (gd rfl) rfl rfl (hP _ _ ⟨y8_3, rfl, rfl, in_w (-2147483648) 2147483647 (i_rng y8_3) rfl, n63⟩)
      · skip
        have i12 := r_lt1 0 31 c12 j8_5 (in_c 32 rfl) rfl
        refine g_iload 17 (gd rfl) rfl rfl ?_
        refine g_if_eq 20 62 (gd rfl) rfl rfl (fun c17 => ?_) (fun c17 => ?_)
        · skip
          have i17 := z_eq 0 0 c17 (i_rng y8_4) rfl
          refine g_iload_n 63 (gd rfl) rfl rfl ?_
          have n63 : ∀ k, bt x1 k = true → bt y8_3 k = true := by exact g8_0
          exact g_ireturn (gd rfl) rfl rfl (hP _ _ ⟨y8_3, rfl, rfl, in_w (-2147483648) 2147483647 (i_rng y8_3) rfl, n63⟩)
        · skip
          refine g_aload_n 21 (gd rfl) rfl rfl ?_
          refine g_iload 23 (gd rfl) rfl rfl ?_
          refine g_calls (As := [.int y8_4]) (r := [.ref (A 9)]) 26 (gd rfl) rfl rfl rfl rfl rfl (Nat.le_of_ble_eq_true rfl) (Nat.zero_le _) (Nat.zero_le _) (k_264n (by first | exact dq1 hd rfl | exact dq0 hd rfl | exact dq2 hd rfl | exact dq3 hd rfl | omega) c17) (fun v u h => ?_)
          obtain ⟨z23, rfl, rfl, i23, hb23, hl23⟩ := h
          show GG _ _ _ _ _ _ _ _ [.int z23, .ref (A 9)] _ _ _
          refine g_iaload 27 (gd rfl) rfl (n := 32) rfl (in_ix i23 rfl) (fun z26 e26 => ?_)
          refine g_iload_n 28 (gd rfl) rfl rfl ?_
          refine g_iand 29 (gd rfl) rfl (fun z28 e28 => ?_)
          refine g_iload_n 30 (gd rfl) rfl rfl ?_
          refine g_iconst (-1) 31 (gd rfl) rfl rfl ?_
          refine g_ixor 32 (gd rfl) rfl (fun z31 e31 => ?_)
          refine g_iand 33 (gd rfl) rfl (fun z32 e32 => ?_)
          refine g_istore 35 (gd rfl) rfl (Nat.le_of_ble_eq_true rfl) ?_
          refine g_iload 37 (gd rfl) rfl rfl ?_
          refine g_iload 39 (gd rfl) rfl rfl ?_
          refine g_iconst 1 40 (gd rfl) rfl rfl ?_
          refine g_isub 41 (gd rfl) rfl (fun z40 e40 => ?_)
          refine g_iand 42 (gd rfl) rfl (fun z41 e41 => ?_)
          refine g_istore 44 (gd rfl) rfl (Nat.le_of_ble_eq_true rfl) ?_
          refine g_iload 46 (gd rfl) rfl rfl ?_
          refine g_iload 48 (gd rfl) rfl rfl ?_
          refine g_ior 49 (gd rfl) rfl (fun z48 e48 => ?_)
          refine g_istore 51 (gd rfl) rfl (Nat.le_of_ble_eq_true rfl) ?_
          refine g_iload_n 52 (gd rfl) rfl rfl ?_
          refine g_iload 54 (gd rfl) rfl rfl ?_
          refine g_ior 55 (gd rfl) rfl (fun z54 e54 => ?_)
          refine g_istore_n 56 (gd rfl) rfl (Nat.le_of_ble_eq_true rfl) ?_
          refine g_iinc 59 (gd rfl) rfl rfl (Nat.le_of_ble_eq_true rfl) (fun z56 e56 => ?_)
          have i56 := in_add 1 32 e56 i12 (in_c 1 rfl) rfl rfl
          refine g_goto 8 (gd rfl) rfl ?_
          have n8 : ∀ k, bt x1 k = true → bt z54 k = true := by first | exact fun k h => h | exact fun k h => bt_orl e54 (g8_0 k h)
          exact gg_w (by first | exact Nat.le_add_right _ _ | exact gw2 | exact gw3 | exact gwe rfl | exact gwf rfl | exact gwg rfl | exact gwh rfl | omega) (gg_f (gf_cons rfl (gf_cons rfl (gf_cons rfl (gf_cons rfl (gf_cons rfl (gf_cons rfl gf_nil)))))) (ih8  z54 z48 z56  (in_w 0 32 i56 rfl) n8 (m_up mm8 (t_add e56 i12 (in_c 1 rfl) rfl) (in_w 1 1 (in_c 1 rfl) rfl))))
  refine g_enter2 (k := 266) (N := 30601) (by first | exact dq1 hd rfl | exact dq0 hd rfl | exact dq2 hd rfl | exact dq3 hd rfl | omega) rfl (Nat.le_of_ble_eq_true rfl) ?_
  refine g_iload_n 1 (gd rfl) rfl rfl ?_
  refine g_istore_n 2 (gd rfl) rfl (Nat.le_of_ble_eq_true rfl) ?_
  refine g_iload_n 3 (gd rfl) rfl rfl ?_
  refine g_istore 5 (gd rfl) rfl (Nat.le_of_ble_eq_true rfl) ?_
  refine g_iconst 0 6 (gd rfl) rfl rfl ?_
  refine g_istore 8 (gd rfl) rfl (Nat.le_of_ble_eq_true rfl) ?_
  have n8 : ∀ k, bt x1 k = true → bt x1 k = true := by first | exact fun k h => h | exact fun k h => bt_orl e54 (g8_0 k h)
  exact gg_w (by first | exact Nat.le_of_ble_eq_true rfl | omega) (gg_f (gf_cons rfl (gf_cons rfl (gf_cons rfl (gf_cons rfl (gf_cons rfl (gf_cons rfl gf_nil)))))) (ct8 33  x1 x1 (Int32.ofInt 0)  (in_w 0 32 (in_c 0 rfl) rfl) n8 (m_in 33 (in_w 0 32 (in_c 0 rfl) rfl) rfl)))

/-- GraphHouse.flood -/
theorem k_266_10 {Z : AmZ} {A : Nat → Nat} {s : GS} {ex : va_W} {d : Nat} {X : AmX} {x1 : Int32} {x2 : Int32} (hd : 4 ≤ d) (hI : Inv s) (h2 : In x2 (-1) (-1)) : GC Z d 266 [.ref (A 10), .int x1, .int x2] (WW Z A s ++ ex) 0 0 (fun v u => ∃ z : Int32, v = some (.int z) ∧ u = WW Z A s ++ ex ∧ In z (-2147483648) 2147483647 ∧ (∀ k, bt x1 k = true → bt z k = true)) X := by
  intro post xp hP hX
  have ct8 : ∀ (k8 : Nat) (y8_3 : Int32) (y8_4 : Int32) (y8_5 : Int32), (In y8_5 0 32) → (∀ k, bt x1 k = true → bt y8_3 k = true) → 32 - (y8_5).toInt < (k8 : Int) → GG Z (d - 1) 266 post (gx xp) (1 + k8 * 900) 8 (fun j => xlook j [(0, .ref (A 10)), (1, .int x1), (2, .int x2), (3, .int y8_3), (4, .int y8_4), (5, .int y8_5)]) [] (WW Z A s ++ ex) 0 0 := by
    intro k8
    induction k8 with
    | zero => intro y8_3 y8_4 y8_5 j8_5 g8_0 mm8; exact m_no mm8 j8_5 rfl
    | succ k8 ih8 =>
      intro y8_3 y8_4 y8_5 j8_5 g8_0 mm8
      refine gg_w (M := 1 + k8 * 900 + 900) gws ?_
      refine g_iload 10 (gd rfl) rfl rfl ?_
      refine g_bipush 32 12 (gd rfl) rfl rfl ?_
      refine g_cmp_ge 15 62 (gd rfl) rfl rfl (fun c12 => ?_) (fun c12 => ?_)
      · skip
        have i12 := r_le2 32 32 c12 (in_c 32 rfl) j8_5 rfl
        refine g_iload_n 63 (gd rfl) rfl rfl ?_
        have n63 : ∀ k, bt x1 k = true → bt y8_3 k = true := by exact g8_0
        exact g_ireturn (gd rfl) rfl rfl (hP _ _ ⟨y8_3, rfl, rfl, in_w (-2147483648) 2147483647 (i_rng y8_3) rfl, n63⟩)
      · skip
        have i12 := r_lt1 0 31 c12 j8_5 (in_c 32 rfl) rfl
        refine g_iload 17 (gd rfl) rfl rfl ?_
        refine g_if_eq 20 62 (gd rfl) rfl rfl (fun c17 => ?_) (fun c17 => ?_)
        · skip
          have i17 := z_eq 0 0 c17 (i_rng y8_4) rfl
          refine g_iload_n 63 (gd rfl) rfl rfl ?_
          have n63 : ∀ k, bt x1 k = true → bt y8_3 k = true := by exact g8_0
          exact g_ireturn (gd rfl) rfl rfl (hP _ _ ⟨y8_3, rfl, rfl, in_w (-2147483648) 2147483647 (i_rng y8_3) rfl, n63⟩)
        · skip
          refine g_aload_n 21 (gd rfl) rfl rfl ?_
          refine g_iload 23 (gd rfl) rfl rfl ?_
          refine g_calls (As := [.int y8_4]) (r := [.ref (A 10)]) 26 (gd rfl) rfl rfl rfl rfl rfl (Nat.le_of_ble_eq_true rfl) (Nat.zero_le _) (Nat.zero_le _) (k_264n (by first | exact dq1 hd rfl | exact dq0 hd rfl | exact dq2 hd rfl | exact dq3 hd rfl | omega) c17) (fun v u h => ?_)
          obtain ⟨z23, rfl, rfl, i23, hb23, hl23⟩ := h
          show GG _ _ _ _ _ _ _ _ [.int z23, .ref (A 10)] _ _ _
          refine g_iaload 27 (gd rfl) rfl (n := 32) rfl (in_ix i23 rfl) (fun z26 e26 => ?_)
          refine g_iload_n 28 (gd rfl) rfl rfl ?_
          refine g_iand 29 (gd rfl) rfl (fun z28 e28 => ?_)
          refine g_iload_n 30 (gd rfl) rfl rfl ?_
          refine g_iconst (-1) 31 (gd rfl) rfl rfl ?_
          refine g_ixor 32 (gd rfl) rfl (fun z31 e31 => ?_)
          refine g_iand 33 (gd rfl) rfl (fun z32 e32 => ?_)
          refine g_istore 35 (gd rfl) rfl (Nat.le_of_ble_eq_true rfl) ?_
          refine g_iload 37 (gd rfl) rfl rfl ?_
          refine g_iload 39 (gd rfl) rfl rfl ?_
          refine g_iconst 1 40 (gd rfl) rfl rfl ?_
          refine g_isub 41 (gd rfl) rfl (fun z40 e40 => ?_)
          refine g_iand 42 (gd rfl) rfl (fun z41 e41 => ?_)
          refine g_istore 44 (gd rfl) rfl (Nat.le_of_ble_eq_true rfl) ?_
          refine g_iload 46 (gd rfl) rfl rfl ?_
          refine g_iload 48 (gd rfl) rfl rfl ?_
          refine g_ior 49 (gd rfl) rfl (fun z48 e48 => ?_)
          refine g_istore 51 (gd rfl) rfl (Nat.le_of_ble_eq_true rfl) ?_
          refine g_iload_n 52 (gd rfl) rfl rfl ?_
          refine g_iload 54 (gd rfl) rfl rfl ?_
          refine g_ior 55 (gd rfl) rfl (fun z54 e54 => ?_)
          refine g_istore_n 56 (gd rfl) rfl (Nat.le_of_ble_eq_true rfl) ?_
          refine g_iinc 59 (gd rfl) rfl rfl (Nat.le_of_ble_eq_true rfl) (fun z56 e56 => ?_)
          have i56 := in_add 1 32 e56 i12 (in_c 1 rfl) rfl rfl
          refine g_goto 8 (gd rfl) rfl ?_
          have n8 : ∀ k, bt x1 k = true → bt z54 k = true := by first | exact fun k h => h | exact fun k h => bt_orl e54 (g8_0 k h)
          exact gg_w (by first | exact Nat.le_add_right _ _ | exact gw2 | exact gw3 | exact gwe rfl | exact gwf rfl | exact gwg rfl | exact gwh rfl | omega) (gg_f (gf_cons rfl (gf_cons rfl (gf_cons rfl (gf_cons rfl (gf_cons rfl (gf_cons rfl gf_nil)))))) (ih8  z54 z48 z56  (in_w 0 32 i56 rfl) n8 (m_up mm8 (t_add e56 i12 (in_c 1 rfl) rfl) (in_w 1 1 (in_c 1 rfl) rfl))))
  refine g_enter2 (k := 266) (N := 30601) (by first | exact dq1 hd rfl | exact dq0 hd rfl | exact dq2 hd rfl | exact dq3 hd rfl | omega) rfl (Nat.le_of_ble_eq_true rfl) ?_
  refine g_iload_n 1 (gd rfl) rfl rfl ?_
  refine g_istore_n 2 (gd rfl) rfl (Nat.le_of_ble_eq_true rfl) ?_
  refine g_iload_n 3 (gd rfl) rfl rfl ?_
  refine g_istore 5 (gd rfl) rfl (Nat.le_of_ble_eq_true rfl) ?_
  refine g_iconst 0 6 (gd rfl) rfl rfl ?_
  refine g_istore 8 (gd rfl) rfl (Nat.le_of_ble_eq_true rfl) ?_
  have n8 : ∀ k, bt x1 k = true → bt x1 k = true := by first | exact fun k h => h | exact fun k h => bt_orl e54 (g8_0 k h)
  exact gg_w (by first | exact Nat.le_of_ble_eq_true rfl | omega) (gg_f (gf_cons rfl (gf_cons rfl (gf_cons rfl (gf_cons rfl (gf_cons rfl (gf_cons rfl gf_nil)))))) (ct8 33  x1 x1 (Int32.ofInt 0)  (in_w 0 32 (in_c 0 rfl) rfl) n8 (m_in 33 (in_w 0 32 (in_c 0 rfl) rfl) rfl)))

/-- GraphHouse.flood -/
theorem k_266_11 {Z : AmZ} {A : Nat → Nat} {s : GS} {ex : va_W} {d : Nat} {X : AmX} {x1 : Int32} {x2 : Int32} (hd : 4 ≤ d) (hI : Inv s) (h2 : In x2 (-1) (-1)) : GC Z d 266 [.ref (A 11), .int x1, .int x2] (WW Z A s ++ ex) 0 0 (fun v u => ∃ z : Int32, v = some (.int z) ∧ u = WW Z A s ++ ex ∧ In z (-2147483648) 2147483647 ∧ (∀ k, bt x1 k = true → bt z k = true)) X := by
  intro post xp hP hX
  have ct8 : ∀ (k8 : Nat) (y8_3 : Int32) (y8_4 : Int32) (y8_5 : Int32), (In y8_5 0 32) → (∀ k, bt x1 k = true → bt y8_3 k = true) → 32 - (y8_5).toInt < (k8 : Int) → GG Z (d - 1) 266 post (gx xp) (1 + k8 * 900) 8 (fun j => xlook j [(0, .ref (A 11)), (1, .int x1), (2, .int x2), (3, .int y8_3), (4, .int y8_4), (5, .int y8_5)]) [] (WW Z A s ++ ex) 0 0 := by
    intro k8
    induction k8 with
    | zero => intro y8_3 y8_4 y8_5 j8_5 g8_0 mm8; exact m_no mm8 j8_5 rfl
    | succ k8 ih8 =>
      intro y8_3 y8_4 y8_5 j8_5 g8_0 mm8
      refine gg_w (M := 1 + k8 * 900 + 900) gws ?_
      refine g_iload 10 (gd rfl) rfl rfl ?_
      refine g_bipush 32 12 (gd rfl) rfl rfl ?_
      refine g_cmp_ge 15 62 (gd rfl) rfl rfl (fun c12 => ?_) (fun c12 => ?_)
      · skip
        have i12 := r_le2 32 32 c12 (in_c 32 rfl) j8_5 rfl
        refine g_iload_n 63 (gd rfl) rfl rfl ?_
        have n63 : ∀ k, bt x1 k = true → bt y8_3 k = true := by exact g8_0
        exact g_ireturn (gd rfl) rfl rfl (hP _ _ ⟨y8_3, rfl, rfl, in_w (-2147483648) 2147483647 (i_rng y8_3) rfl, n63⟩)
      · skip
        have i12 := r_lt1 0 31 c12 j8_5 (in_c 32 rfl) rfl
        refine g_iload 17 (gd rfl) rfl rfl ?_
        refine g_if_eq 20 62 (gd rfl) rfl rfl (fun c17 => ?_) (fun c17 => ?_)
        · skip
          have i17 := z_eq 0 0 c17 (i_rng y8_4) rfl
          refine g_iload_n 63 (gd rfl) rfl rfl ?_
          have n63 : ∀ k, bt x1 k = true → bt y8_3 k = true := by exact g8_0
          exact g_ireturn (gd rfl) rfl rfl (hP _ _ ⟨y8_3, rfl, rfl, in_w (-2147483648) 2147483647 (i_rng y8_3) rfl, n63⟩)
        · skip
          refine g_aload_n 21 (gd rfl) rfl rfl ?_
          refine g_iload 23 (gd rfl) rfl rfl ?_
          refine g_calls (As := [.int y8_4]) (r := [.ref (A 11)]) 26 (gd rfl) rfl rfl rfl rfl rfl (Nat.le_of_ble_eq_true rfl) (Nat.zero_le _) (Nat.zero_le _) (k_264n (by first | exact dq1 hd rfl | exact dq0 hd rfl | exact dq2 hd rfl | exact dq3 hd rfl | omega) c17) (fun v u h => ?_)
          obtain ⟨z23, rfl, rfl, i23, hb23, hl23⟩ := h
          show GG _ _ _ _ _ _ _ _ [.int z23, .ref (A 11)] _ _ _
          refine g_iaload 27 (gd rfl) rfl (n := 32) rfl (in_ix i23 rfl) (fun z26 e26 => ?_)
          refine g_iload_n 28 (gd rfl) rfl rfl ?_
          refine g_iand 29 (gd rfl) rfl (fun z28 e28 => ?_)
          refine g_iload_n 30 (gd rfl) rfl rfl ?_
          refine g_iconst (-1) 31 (gd rfl) rfl rfl ?_
          refine g_ixor 32 (gd rfl) rfl (fun z31 e31 => ?_)
          refine g_iand 33 (gd rfl) rfl (fun z32 e32 => ?_)
          refine g_istore 35 (gd rfl) rfl (Nat.le_of_ble_eq_true rfl) ?_
          refine g_iload 37 (gd rfl) rfl rfl ?_
          refine g_iload 39 (gd rfl) rfl rfl ?_
          refine g_iconst 1 40 (gd rfl) rfl rfl ?_
          refine g_isub 41 (gd rfl) rfl (fun z40 e40 => ?_)
          refine g_iand 42 (gd rfl) rfl (fun z41 e41 => ?_)
          refine g_istore 44 (gd rfl) rfl (Nat.le_of_ble_eq_true rfl) ?_
          refine g_iload 46 (gd rfl) rfl rfl ?_
          refine g_iload 48 (gd rfl) rfl rfl ?_
          refine g_ior 49 (gd rfl) rfl (fun z48 e48 => ?_)
          refine g_istore 51 (gd rfl) rfl (Nat.le_of_ble_eq_true rfl) ?_
          refine g_iload_n 52 (gd rfl) rfl rfl ?_
          refine g_iload 54 (gd rfl) rfl rfl ?_
          refine g_ior 55 (gd rfl) rfl (fun z54 e54 => ?_)
          refine g_istore_n 56 (gd rfl) rfl (Nat.le_of_ble_eq_true rfl) ?_
          refine g_iinc 59 (gd rfl) rfl rfl (Nat.le_of_ble_eq_true rfl) (fun z56 e56 => ?_)
          have i56 := in_add 1 32 e56 i12 (in_c 1 rfl) rfl rfl
          refine g_goto 8 (gd rfl) rfl ?_
          have n8 : ∀ k, bt x1 k = true → bt z54 k = true := by first | exact fun k h => h | exact fun k h => bt_orl e54 (g8_0 k h)
          exact gg_w (by first | exact Nat.le_add_right _ _ | exact gw2 | exact gw3 | exact gwe rfl | exact gwf rfl | exact gwg rfl | exact gwh rfl | omega) (gg_f (gf_cons rfl (gf_cons rfl (gf_cons rfl (gf_cons rfl (gf_cons rfl (gf_cons rfl gf_nil)))))) (ih8  z54 z48 z56  (in_w 0 32 i56 rfl) n8 (m_up mm8 (t_add e56 i12 (in_c 1 rfl) rfl) (in_w 1 1 (in_c 1 rfl) rfl))))
  refine g_enter2 (k := 266) (N := 30601) (by first | exact dq1 hd rfl | exact dq0 hd rfl | exact dq2 hd rfl | exact dq3 hd rfl | omega) rfl (Nat.le_of_ble_eq_true rfl) ?_
  refine g_iload_n 1 (gd rfl) rfl rfl ?_
  refine g_istore_n 2 (gd rfl) rfl (Nat.le_of_ble_eq_true rfl) ?_
  refine g_iload_n 3 (gd rfl) rfl rfl ?_
  refine g_istore 5 (gd rfl) rfl (Nat.le_of_ble_eq_true rfl) ?_
  refine g_iconst 0 6 (gd rfl) rfl rfl ?_
  refine g_istore 8 (gd rfl) rfl (Nat.le_of_ble_eq_true rfl) ?_
  have n8 : ∀ k, bt x1 k = true → bt x1 k = true := by first | exact fun k h => h | exact fun k h => bt_orl e54 (g8_0 k h)
  exact gg_w (by first | exact Nat.le_of_ble_eq_true rfl | omega) (gg_f (gf_cons rfl (gf_cons rfl (gf_cons rfl (gf_cons rfl (gf_cons rfl (gf_cons rfl gf_nil)))))) (ct8 33  x1 x1 (Int32.ofInt 0)  (in_w 0 32 (in_c 0 rfl) rfl) n8 (m_in 33 (in_w 0 32 (in_c 0 rfl) rfl) rfl)))

/-- GraphHouse.flood -/
theorem k_266_39 {Z : AmZ} {A : Nat → Nat} {s : GS} {ex : va_W} {d : Nat} {X : AmX} {x1 : Int32} {x2 : Int32} (hd : 4 ≤ d) (hI : Inv s)  : GC Z d 266 [.ref (A 39), .int x1, .int x2] (WW Z A s ++ ex) 0 0 (fun v u => ∃ z : Int32, v = some (.int z) ∧ u = WW Z A s ++ ex ∧ In z (-2147483648) 2147483647 ∧ (∀ k, bt x1 k = true → bt z k = true)) X := by
  intro post xp hP hX
  have ct8 : ∀ (k8 : Nat) (y8_3 : Int32) (y8_4 : Int32) (y8_5 : Int32), (In y8_5 0 32) → (∀ k, bt x1 k = true → bt y8_3 k = true) → 32 - (y8_5).toInt < (k8 : Int) → GG Z (d - 1) 266 post (gx xp) (1 + k8 * 900) 8 (fun j => xlook j [(0, .ref (A 39)), (1, .int x1), (2, .int x2), (3, .int y8_3), (4, .int y8_4), (5, .int y8_5)]) [] (WW Z A s ++ ex) 0 0 := by
    intro k8
    induction k8 with
    | zero => intro y8_3 y8_4 y8_5 j8_5 g8_0 mm8; exact m_no mm8 j8_5 rfl
    | succ k8 ih8 =>
      intro y8_3 y8_4 y8_5 j8_5 g8_0 mm8
      refine gg_w (M := 1 + k8 * 900 + 900) gws ?_
      refine g_iload 10 (gd rfl) rfl rfl ?_
      refine g_bipush 32 12 (gd rfl) rfl rfl ?_
      refine g_cmp_ge 15 62 (gd rfl) rfl rfl (fun c12 => ?_) (fun c12 => ?_)
      · skip
        have i12 := r_le2 32 32 c12 (in_c 32 rfl) j8_5 rfl
        refine g_iload_n 63 (gd rfl) rfl rfl ?_
        have n63 : ∀ k, bt x1 k = true → bt y8_3 k = true := by exact g8_0
        exact g_ireturn (gd rfl) rfl rfl (hP _ _ ⟨y8_3, rfl, rfl, in_w (-2147483648) 2147483647 (i_rng y8_3) rfl, n63⟩)
      · skip
        have i12 := r_lt1 0 31 c12 j8_5 (in_c 32 rfl) rfl
        refine g_iload 17 (gd rfl) rfl rfl ?_
        refine g_if_eq 20 62 (gd rfl) rfl rfl (fun c17 => ?_) (fun c17 => ?_)
        · skip
          have i17 := z_eq 0 0 c17 (i_rng y8_4) rfl
          refine g_iload_n 63 (gd rfl) rfl rfl ?_
          have n63 : ∀ k, bt x1 k = true → bt y8_3 k = true := by exact g8_0
          exact g_ireturn (gd rfl) rfl rfl (hP _ _ ⟨y8_3, rfl, rfl, in_w (-2147483648) 2147483647 (i_rng y8_3) rfl, n63⟩)
        · skip
          refine g_aload_n 21 (gd rfl) rfl rfl ?_
          refine g_iload 23 (gd rfl) rfl rfl ?_
          refine g_calls (As := [.int y8_4]) (r := [.ref (A 39)]) 26 (gd rfl) rfl rfl rfl rfl rfl (Nat.le_of_ble_eq_true rfl) (Nat.zero_le _) (Nat.zero_le _) (k_264n (by first | exact dq1 hd rfl | exact dq0 hd rfl | exact dq2 hd rfl | exact dq3 hd rfl | omega) c17) (fun v u h => ?_)
          obtain ⟨z23, rfl, rfl, i23, hb23, hl23⟩ := h
          show GG _ _ _ _ _ _ _ _ [.int z23, .ref (A 39)] _ _ _
          refine g_iaload 27 (gd rfl) rfl (n := 32) rfl (in_ix i23 rfl) (fun z26 e26 => ?_)
          refine g_iload_n 28 (gd rfl) rfl rfl ?_
          refine g_iand 29 (gd rfl) rfl (fun z28 e28 => ?_)
          refine g_iload_n 30 (gd rfl) rfl rfl ?_
          refine g_iconst (-1) 31 (gd rfl) rfl rfl ?_
          refine g_ixor 32 (gd rfl) rfl (fun z31 e31 => ?_)
          refine g_iand 33 (gd rfl) rfl (fun z32 e32 => ?_)
          refine g_istore 35 (gd rfl) rfl (Nat.le_of_ble_eq_true rfl) ?_
          refine g_iload 37 (gd rfl) rfl rfl ?_
          refine g_iload 39 (gd rfl) rfl rfl ?_
          refine g_iconst 1 40 (gd rfl) rfl rfl ?_
          refine g_isub 41 (gd rfl) rfl (fun z40 e40 => ?_)
          refine g_iand 42 (gd rfl) rfl (fun z41 e41 => ?_)
          refine g_istore 44 (gd rfl) rfl (Nat.le_of_ble_eq_true rfl) ?_
          refine g_iload 46 (gd rfl) rfl rfl ?_
          refine g_iload 48 (gd rfl) rfl rfl ?_
          refine g_ior 49 (gd rfl) rfl (fun z48 e48 => ?_)
          refine g_istore 51 (gd rfl) rfl (Nat.le_of_ble_eq_true rfl) ?_
          refine g_iload_n 52 (gd rfl) rfl rfl ?_
          refine g_iload 54 (gd rfl) rfl rfl ?_
          refine g_ior 55 (gd rfl) rfl (fun z54 e54 => ?_)
          refine g_istore_n 56 (gd rfl) rfl (Nat.le_of_ble_eq_true rfl) ?_
          refine g_iinc 59 (gd rfl) rfl rfl (Nat.le_of_ble_eq_true rfl) (fun z56 e56 => ?_)
          have i56 := in_add 1 32 e56 i12 (in_c 1 rfl) rfl rfl
          refine g_goto 8 (gd rfl) rfl ?_
          have n8 : ∀ k, bt x1 k = true → bt z54 k = true := by first | exact fun k h => h | exact fun k h => bt_orl e54 (g8_0 k h)
          exact gg_w (by first | exact Nat.le_add_right _ _ | exact gw2 | exact gw3 | exact gwe rfl | exact gwf rfl | exact gwg rfl | exact gwh rfl | omega) (gg_f (gf_cons rfl (gf_cons rfl (gf_cons rfl (gf_cons rfl (gf_cons rfl (gf_cons rfl gf_nil)))))) (ih8  z54 z48 z56  (in_w 0 32 i56 rfl) n8 (m_up mm8 (t_add e56 i12 (in_c 1 rfl) rfl) (in_w 1 1 (in_c 1 rfl) rfl))))
  refine g_enter2 (k := 266) (N := 30601) (by first | exact dq1 hd rfl | exact dq0 hd rfl | exact dq2 hd rfl | exact dq3 hd rfl | omega) rfl (Nat.le_of_ble_eq_true rfl) ?_
  refine g_iload_n 1 (gd rfl) rfl rfl ?_
  refine g_istore_n 2 (gd rfl) rfl (Nat.le_of_ble_eq_true rfl) ?_
  refine g_iload_n 3 (gd rfl) rfl rfl ?_
  refine g_istore 5 (gd rfl) rfl (Nat.le_of_ble_eq_true rfl) ?_
  refine g_iconst 0 6 (gd rfl) rfl rfl ?_
  refine g_istore 8 (gd rfl) rfl (Nat.le_of_ble_eq_true rfl) ?_
  have n8 : ∀ k, bt x1 k = true → bt x1 k = true := by first | exact fun k h => h | exact fun k h => bt_orl e54 (g8_0 k h)
  exact gg_w (by first | exact Nat.le_of_ble_eq_true rfl | omega) (gg_f (gf_cons rfl (gf_cons rfl (gf_cons rfl (gf_cons rfl (gf_cons rfl (gf_cons rfl gf_nil)))))) (ct8 33  x1 x1 (Int32.ofInt 0)  (in_w 0 32 (in_c 0 rfl) rfl) n8 (m_in 33 (in_w 0 32 (in_c 0 rfl) rfl) rfl)))

/-- GraphHouse.flood -/
theorem k_266_40 {Z : AmZ} {A : Nat → Nat} {s : GS} {ex : va_W} {d : Nat} {X : AmX} {x1 : Int32} {x2 : Int32} (hd : 4 ≤ d) (hI : Inv s) (h2 : In x2 (-1) (-1)) : GC Z d 266 [.ref (A 40), .int x1, .int x2] (WW Z A s ++ ex) 0 0 (fun v u => ∃ z : Int32, v = some (.int z) ∧ u = WW Z A s ++ ex ∧ In z (-2147483648) 2147483647 ∧ (∀ k, bt x1 k = true → bt z k = true)) X := by
  intro post xp hP hX
  have ct8 : ∀ (k8 : Nat) (y8_3 : Int32) (y8_4 : Int32) (y8_5 : Int32), (In y8_5 0 32) → (∀ k, bt x1 k = true → bt y8_3 k = true) → 32 - (y8_5).toInt < (k8 : Int) → GG Z (d - 1) 266 post (gx xp) (1 + k8 * 900) 8 (fun j => xlook j [(0, .ref (A 40)), (1, .int x1), (2, .int x2), (3, .int y8_3), (4, .int y8_4), (5, .int y8_5)]) [] (WW Z A s ++ ex) 0 0 := by
    intro k8
    induction k8 with
    | zero => intro y8_3 y8_4 y8_5 j8_5 g8_0 mm8; exact m_no mm8 j8_5 rfl
    | succ k8 ih8 =>
      intro y8_3 y8_4 y8_5 j8_5 g8_0 mm8
      refine gg_w (M := 1 + k8 * 900 + 900) gws ?_
      refine g_iload 10 (gd rfl) rfl rfl ?_
      refine g_bipush 32 12 (gd rfl) rfl rfl ?_
      refine g_cmp_ge 15 62 (gd rfl) rfl rfl (fun c12 => ?_) (fun c12 => ?_)
      · skip
        have i12 := r_le2 32 32 c12 (in_c 32 rfl) j8_5 rfl
        refine g_iload_n 63 (gd rfl) rfl rfl ?_
        have n63 : ∀ k, bt x1 k = true → bt y8_3 k = true := by exact g8_0
        exact g_ireturn (gd rfl) rfl rfl (hP _ _ ⟨y8_3, rfl, rfl, in_w (-2147483648) 2147483647 (i_rng y8_3) rfl, n63⟩)
      · skip
        have i12 := r_lt1 0 31 c12 j8_5 (in_c 32 rfl) rfl
        refine g_iload 17 (gd rfl) rfl rfl ?_
        refine g_if_eq 20 62 (gd rfl) rfl rfl (fun c17 => ?_) (fun c17 => ?_)
        · skip
          have i17 := z_eq 0 0 c17 (i_rng y8_4) rfl
          refine g_iload_n 63 (gd rfl) rfl rfl ?_
          have n63 : ∀ k, bt x1 k = true → bt y8_3 k = true := by exact g8_0
          exact g_ireturn (gd rfl) rfl rfl (hP _ _ ⟨y8_3, rfl, rfl, in_w (-2147483648) 2147483647 (i_rng y8_3) rfl, n63⟩)
        · skip
          refine g_aload_n 21 (gd rfl) rfl rfl ?_
          refine g_iload 23 (gd rfl) rfl rfl ?_
          refine g_calls (As := [.int y8_4]) (r := [.ref (A 40)]) 26 (gd rfl) rfl rfl rfl rfl rfl (Nat.le_of_ble_eq_true rfl) (Nat.zero_le _) (Nat.zero_le _) (k_264n (by first | exact dq1 hd rfl | exact dq0 hd rfl | exact dq2 hd rfl | exact dq3 hd rfl | omega) c17) (fun v u h => ?_)
          obtain ⟨z23, rfl, rfl, i23, hb23, hl23⟩ := h
          show GG _ _ _ _ _ _ _ _ [.int z23, .ref (A 40)] _ _ _
          refine g_iaload 27 (gd rfl) rfl (n := 32) rfl (in_ix i23 rfl) (fun z26 e26 => ?_)
          refine g_iload_n 28 (gd rfl) rfl rfl ?_
          refine g_iand 29 (gd rfl) rfl (fun z28 e28 => ?_)
          refine g_iload_n 30 (gd rfl) rfl rfl ?_
          refine g_iconst (-1) 31 (gd rfl) rfl rfl ?_
          refine g_ixor 32 (gd rfl) rfl (fun z31 e31 => ?_)
          refine g_iand 33 (gd rfl) rfl (fun z32 e32 => ?_)
          refine g_istore 35 (gd rfl) rfl (Nat.le_of_ble_eq_true rfl) ?_
          refine g_iload 37 (gd rfl) rfl rfl ?_
          refine g_iload 39 (gd rfl) rfl rfl ?_
          refine g_iconst 1 40 (gd rfl) rfl rfl ?_
          refine g_isub 41 (gd rfl) rfl (fun z40 e40 => ?_)
          refine g_iand 42 (gd rfl) rfl (fun z41 e41 => ?_)
          refine g_istore 44 (gd rfl) rfl (Nat.le_of_ble_eq_true rfl) ?_
          refine g_iload 46 (gd rfl) rfl rfl ?_
          refine g_iload 48 (gd rfl) rfl rfl ?_
          refine g_ior 49 (gd rfl) rfl (fun z48 e48 => ?_)
          refine g_istore 51 (gd rfl) rfl (Nat.le_of_ble_eq_true rfl) ?_
          refine g_iload_n 52 (gd rfl) rfl rfl ?_
          refine g_iload 54 (gd rfl) rfl rfl ?_
          refine g_ior 55 (gd rfl) rfl (fun z54 e54 => ?_)
          refine g_istore_n 56 (gd rfl) rfl (Nat.le_of_ble_eq_true rfl) ?_
          refine g_iinc 59 (gd rfl) rfl rfl (Nat.le_of_ble_eq_true rfl) (fun z56 e56 => ?_)
          have i56 := in_add 1 32 e56 i12 (in_c 1 rfl) rfl rfl
          refine g_goto 8 (gd rfl) rfl ?_
          have n8 : ∀ k, bt x1 k = true → bt z54 k = true := by first | exact fun k h => h | exact fun k h => bt_orl e54 (g8_0 k h)
          exact gg_w (by first | exact Nat.le_add_right _ _ | exact gw2 | exact gw3 | exact gwe rfl | exact gwf rfl | exact gwg rfl | exact gwh rfl | omega) (gg_f (gf_cons rfl (gf_cons rfl (gf_cons rfl (gf_cons rfl (gf_cons rfl (gf_cons rfl gf_nil)))))) (ih8  z54 z48 z56  (in_w 0 32 i56 rfl) n8 (m_up mm8 (t_add e56 i12 (in_c 1 rfl) rfl) (in_w 1 1 (in_c 1 rfl) rfl))))
  refine g_enter2 (k := 266) (N := 30601) (by first | exact dq1 hd rfl | exact dq0 hd rfl | exact dq2 hd rfl | exact dq3 hd rfl | omega) rfl (Nat.le_of_ble_eq_true rfl) ?_
  refine g_iload_n 1 (gd rfl) rfl rfl ?_
  refine g_istore_n 2 (gd rfl) rfl (Nat.le_of_ble_eq_true rfl) ?_
  refine g_iload_n 3 (gd rfl) rfl rfl ?_
  refine g_istore 5 (gd rfl) rfl (Nat.le_of_ble_eq_true rfl) ?_
  refine g_iconst 0 6 (gd rfl) rfl rfl ?_
  refine g_istore 8 (gd rfl) rfl (Nat.le_of_ble_eq_true rfl) ?_
  have n8 : ∀ k, bt x1 k = true → bt x1 k = true := by first | exact fun k h => h | exact fun k h => bt_orl e54 (g8_0 k h)
  exact gg_w (by first | exact Nat.le_of_ble_eq_true rfl | omega) (gg_f (gf_cons rfl (gf_cons rfl (gf_cons rfl (gf_cons rfl (gf_cons rfl (gf_cons rfl gf_nil)))))) (ct8 33  x1 x1 (Int32.ofInt 0)  (in_w 0 32 (in_c 0 rfl) rfl) n8 (m_in 33 (in_w 0 32 (in_c 0 rfl) rfl) rfl)))

/-- GraphHouse.flood -/
theorem k_266_41 {Z : AmZ} {A : Nat → Nat} {s : GS} {ex : va_W} {d : Nat} {X : AmX} {x1 : Int32} {x2 : Int32} (hd : 4 ≤ d) (hI : Inv s) (h2 : In x2 (-1) (-1)) : GC Z d 266 [.ref (A 41), .int x1, .int x2] (WW Z A s ++ ex) 0 0 (fun v u => ∃ z : Int32, v = some (.int z) ∧ u = WW Z A s ++ ex ∧ In z (-2147483648) 2147483647 ∧ (∀ k, bt x1 k = true → bt z k = true)) X := by
  intro post xp hP hX
  have ct8 : ∀ (k8 : Nat) (y8_3 : Int32) (y8_4 : Int32) (y8_5 : Int32), (In y8_5 0 32) → (∀ k, bt x1 k = true → bt y8_3 k = true) → 32 - (y8_5).toInt < (k8 : Int) → GG Z (d - 1) 266 post (gx xp) (1 + k8 * 900) 8 (fun j => xlook j [(0, .ref (A 41)), (1, .int x1), (2, .int x2), (3, .int y8_3), (4, .int y8_4), (5, .int y8_5)]) [] (WW Z A s ++ ex) 0 0 := by
    intro k8
    induction k8 with
    | zero => intro y8_3 y8_4 y8_5 j8_5 g8_0 mm8; exact m_no mm8 j8_5 rfl
    | succ k8 ih8 =>
      intro y8_3 y8_4 y8_5 j8_5 g8_0 mm8
      refine gg_w (M := 1 + k8 * 900 + 900) gws ?_
      refine g_iload 10 (gd rfl) rfl rfl ?_
      refine g_bipush 32 12 (gd rfl) rfl rfl ?_
      refine g_cmp_ge 15 62 (gd rfl) rfl rfl (fun c12 => ?_) (fun c12 => ?_)
      · skip
        have i12 := r_le2 32 32 c12 (in_c 32 rfl) j8_5 rfl
        refine g_iload_n 63 (gd rfl) rfl rfl ?_
        have n63 : ∀ k, bt x1 k = true → bt y8_3 k = true := by exact g8_0
        exact g_ireturn (gd rfl) rfl rfl (hP _ _ ⟨y8_3, rfl, rfl, in_w (-2147483648) 2147483647 (i_rng y8_3) rfl, n63⟩)
      · skip
        have i12 := r_lt1 0 31 c12 j8_5 (in_c 32 rfl) rfl
        refine g_iload 17 (gd rfl) rfl rfl ?_
        refine g_if_eq 20 62 (gd rfl) rfl rfl (fun c17 => ?_) (fun c17 => ?_)
        · skip
          have i17 := z_eq 0 0 c17 (i_rng y8_4) rfl
          refine g_iload_n 63 (gd rfl) rfl rfl ?_
          have n63 : ∀ k, bt x1 k = true → bt y8_3 k = true := by exact g8_0
          exact g_ireturn (gd rfl) rfl rfl (hP _ _ ⟨y8_3, rfl, rfl, in_w (-2147483648) 2147483647 (i_rng y8_3) rfl, n63⟩)
        · skip
          refine g_aload_n 21 (gd rfl) rfl rfl ?_
          refine g_iload 23 (gd rfl) rfl rfl ?_
          refine g_calls (As := [.int y8_4]) (r := [.ref (A 41)]) 26 (gd rfl) rfl rfl rfl rfl rfl (Nat.le_of_ble_eq_true rfl) (Nat.zero_le _) (Nat.zero_le _) (k_264n (by first | exact dq1 hd rfl | exact dq0 hd rfl | exact dq2 hd rfl | exact dq3 hd rfl | omega) c17) (fun v u h => ?_)
          obtain ⟨z23, rfl, rfl, i23, hb23, hl23⟩ := h
          show GG _ _ _ _ _ _ _ _ [.int z23, .ref (A 41)] _ _ _
          refine g_iaload 27 (gd rfl) rfl (n := 32) rfl (in_ix i23 rfl) (fun z26 e26 => ?_)
          refine g_iload_n 28 (gd rfl) rfl rfl ?_
          refine g_iand 29 (gd rfl) rfl (fun z28 e28 => ?_)
          refine g_iload_n 30 (gd rfl) rfl rfl ?_
          refine g_iconst (-1) 31 (gd rfl) rfl rfl ?_
          refine g_ixor 32 (gd rfl) rfl (fun z31 e31 => ?_)
          refine g_iand 33 (gd rfl) rfl (fun z32 e32 => ?_)
          refine g_istore 35 (gd rfl) rfl (Nat.le_of_ble_eq_true rfl) ?_
          refine g_iload 37 (gd rfl) rfl rfl ?_
          refine g_iload 39 (gd rfl) rfl rfl ?_
          refine g_iconst 1 40 (gd rfl) rfl rfl ?_
          refine g_isub 41 (gd rfl) rfl (fun z40 e40 => ?_)
          refine g_iand 42 (gd rfl) rfl (fun z41 e41 => ?_)
          refine g_istore 44 (gd rfl) rfl (Nat.le_of_ble_eq_true rfl) ?_
          refine g_iload 46 (gd rfl) rfl rfl ?_
          refine g_iload 48 (gd rfl) rfl rfl ?_
          refine g_ior 49 (gd rfl) rfl (fun z48 e48 => ?_)
          refine g_istore 51 (gd rfl) rfl (Nat.le_of_ble_eq_true rfl) ?_
          refine g_iload_n 52 (gd rfl) rfl rfl ?_
          refine g_iload 54 (gd rfl) rfl rfl ?_
          refine g_ior 55 (gd rfl) rfl (fun z54 e54 => ?_)
          refine g_istore_n 56 (gd rfl) rfl (Nat.le_of_ble_eq_true rfl) ?_
          refine g_iinc 59 (gd rfl) rfl rfl (Nat.le_of_ble_eq_true rfl) (fun z56 e56 => ?_)
          have i56 := in_add 1 32 e56 i12 (in_c 1 rfl) rfl rfl
          refine g_goto 8 (gd rfl) rfl ?_
          have n8 : ∀ k, bt x1 k = true → bt z54 k = true := by first | exact fun k h => h | exact fun k h => bt_orl e54 (g8_0 k h)
          exact gg_w (by first | exact Nat.le_add_right _ _ | exact gw2 | exact gw3 | exact gwe rfl | exact gwf rfl | exact gwg rfl | exact gwh rfl | omega) (gg_f (gf_cons rfl (gf_cons rfl (gf_cons rfl (gf_cons rfl (gf_cons rfl (gf_cons rfl gf_nil)))))) (ih8  z54 z48 z56  (in_w 0 32 i56 rfl) n8 (m_up mm8 (t_add e56 i12 (in_c 1 rfl) rfl) (in_w 1 1 (in_c 1 rfl) rfl))))
  refine g_enter2 (k := 266) (N := 30601) (by first | exact dq1 hd rfl | exact dq0 hd rfl | exact dq2 hd rfl | exact dq3 hd rfl | omega) rfl (Nat.le_of_ble_eq_true rfl) ?_
  refine g_iload_n 1 (gd rfl) rfl rfl ?_
  refine g_istore_n 2 (gd rfl) rfl (Nat.le_of_ble_eq_true rfl) ?_
  refine g_iload_n 3 (gd rfl) rfl rfl ?_
  refine g_istore 5 (gd rfl) rfl (Nat.le_of_ble_eq_true rfl) ?_
  refine g_iconst 0 6 (gd rfl) rfl rfl ?_
  refine g_istore 8 (gd rfl) rfl (Nat.le_of_ble_eq_true rfl) ?_
  have n8 : ∀ k, bt x1 k = true → bt x1 k = true := by first | exact fun k h => h | exact fun k h => bt_orl e54 (g8_0 k h)
  exact gg_w (by first | exact Nat.le_of_ble_eq_true rfl | omega) (gg_f (gf_cons rfl (gf_cons rfl (gf_cons rfl (gf_cons rfl (gf_cons rfl (gf_cons rfl gf_nil)))))) (ct8 33  x1 x1 (Int32.ofInt 0)  (in_w 0 32 (in_c 0 rfl) rfl) n8 (m_in 33 (in_w 0 32 (in_c 0 rfl) rfl) rfl)))

/-- GraphHouse.flood -/
theorem k_266_84 {Z : AmZ} {A : Nat → Nat} {s : GS} {ex : va_W} {d : Nat} {X : AmX} {x1 : Int32} {x2 : Int32} (hd : 4 ≤ d) (hI : Inv s) (h2 : In x2 (-1) (-1)) : GC Z d 266 [.ref (A 84), .int x1, .int x2] (WW Z A s ++ ex) 0 0 (fun v u => ∃ z : Int32, v = some (.int z) ∧ u = WW Z A s ++ ex ∧ In z (-2147483648) 2147483647 ∧ (∀ k, bt x1 k = true → bt z k = true)) X := by
  intro post xp hP hX
  have ct8 : ∀ (k8 : Nat) (y8_3 : Int32) (y8_4 : Int32) (y8_5 : Int32), (In y8_5 0 32) → (∀ k, bt x1 k = true → bt y8_3 k = true) → 32 - (y8_5).toInt < (k8 : Int) → GG Z (d - 1) 266 post (gx xp) (1 + k8 * 900) 8 (fun j => xlook j [(0, .ref (A 84)), (1, .int x1), (2, .int x2), (3, .int y8_3), (4, .int y8_4), (5, .int y8_5)]) [] (WW Z A s ++ ex) 0 0 := by
    intro k8
    induction k8 with
    | zero => intro y8_3 y8_4 y8_5 j8_5 g8_0 mm8; exact m_no mm8 j8_5 rfl
    | succ k8 ih8 =>
      intro y8_3 y8_4 y8_5 j8_5 g8_0 mm8
      refine gg_w (M := 1 + k8 * 900 + 900) gws ?_
      refine g_iload 10 (gd rfl) rfl rfl ?_
      refine g_bipush 32 12 (gd rfl) rfl rfl ?_
      refine g_cmp_ge 15 62 (gd rfl) rfl rfl (fun c12 => ?_) (fun c12 => ?_)
      · skip
        have i12 := r_le2 32 32 c12 (in_c 32 rfl) j8_5 rfl
        refine g_iload_n 63 (gd rfl) rfl rfl ?_
        have n63 : ∀ k, bt x1 k = true → bt y8_3 k = true := by exact g8_0
        exact g_ireturn (gd rfl) rfl rfl (hP _ _ ⟨y8_3, rfl, rfl, in_w (-2147483648) 2147483647 (i_rng y8_3) rfl, n63⟩)
      · skip
        have i12 := r_lt1 0 31 c12 j8_5 (in_c 32 rfl) rfl
        refine g_iload 17 (gd rfl) rfl rfl ?_
        refine g_if_eq 20 62 (gd rfl) rfl rfl (fun c17 => ?_) (fun c17 => ?_)
        · skip
          have i17 := z_eq 0 0 c17 (i_rng y8_4) rfl
          refine g_iload_n 63 (gd rfl) rfl rfl ?_
          have n63 : ∀ k, bt x1 k = true → bt y8_3 k = true := by exact g8_0
          exact g_ireturn (gd rfl) rfl rfl (hP _ _ ⟨y8_3, rfl, rfl, in_w (-2147483648) 2147483647 (i_rng y8_3) rfl, n63⟩)
        · skip
          refine g_aload_n 21 (gd rfl) rfl rfl ?_
          refine g_iload 23 (gd rfl) rfl rfl ?_
          refine g_calls (As := [.int y8_4]) (r := [.ref (A 84)]) 26 (gd rfl) rfl rfl rfl rfl rfl (Nat.le_of_ble_eq_true rfl) (Nat.zero_le _) (Nat.zero_le _) (k_264n (by first | exact dq1 hd rfl | exact dq0 hd rfl | exact dq2 hd rfl | exact dq3 hd rfl | omega) c17) (fun v u h => ?_)
          obtain ⟨z23, rfl, rfl, i23, hb23, hl23⟩ := h
          show GG _ _ _ _ _ _ _ _ [.int z23, .ref (A 84)] _ _ _
          refine g_iaload 27 (gd rfl) rfl (n := 32) rfl (in_ix i23 rfl) (fun z26 e26 => ?_)
          refine g_iload_n 28 (gd rfl) rfl rfl ?_
          refine g_iand 29 (gd rfl) rfl (fun z28 e28 => ?_)
          refine g_iload_n 30 (gd rfl) rfl rfl ?_
          refine g_iconst (-1) 31 (gd rfl) rfl rfl ?_
          refine g_ixor 32 (gd rfl) rfl (fun z31 e31 => ?_)
          refine g_iand 33 (gd rfl) rfl (fun z32 e32 => ?_)
          refine g_istore 35 (gd rfl) rfl (Nat.le_of_ble_eq_true rfl) ?_
          refine g_iload 37 (gd rfl) rfl rfl ?_
          refine g_iload 39 (gd rfl) rfl rfl ?_
          refine g_iconst 1 40 (gd rfl) rfl rfl ?_
          refine g_isub 41 (gd rfl) rfl (fun z40 e40 => ?_)
          refine g_iand 42 (gd rfl) rfl (fun z41 e41 => ?_)
          refine g_istore 44 (gd rfl) rfl (Nat.le_of_ble_eq_true rfl) ?_
          refine g_iload 46 (gd rfl) rfl rfl ?_
          refine g_iload 48 (gd rfl) rfl rfl ?_
          refine g_ior 49 (gd rfl) rfl (fun z48 e48 => ?_)
          refine g_istore 51 (gd rfl) rfl (Nat.le_of_ble_eq_true rfl) ?_
          refine g_iload_n 52 (gd rfl) rfl rfl ?_
          refine g_iload 54 (gd rfl) rfl rfl ?_
          refine g_ior 55 (gd rfl) rfl (fun z54 e54 => ?_)
          refine g_istore_n 56 (gd rfl) rfl (Nat.le_of_ble_eq_true rfl) ?_
          refine g_iinc 59 (gd rfl) rfl rfl (Nat.le_of_ble_eq_true rfl) (fun z56 e56 => ?_)
          have i56 := in_add 1 32 e56 i12 (in_c 1 rfl) rfl rfl
          refine g_goto 8 (gd rfl) rfl ?_
          have n8 : ∀ k, bt x1 k = true → bt z54 k = true := by first | exact fun k h => h | exact fun k h => bt_orl e54 (g8_0 k h)
          exact gg_w (by first | exact Nat.le_add_right _ _ | exact gw2 | exact gw3 | exact gwe rfl | exact gwf rfl | exact gwg rfl | exact gwh rfl | omega) (gg_f (gf_cons rfl (gf_cons rfl (gf_cons rfl (gf_cons rfl (gf_cons rfl (gf_cons rfl gf_nil)))))) (ih8  z54 z48 z56  (in_w 0 32 i56 rfl) n8 (m_up mm8 (t_add e56 i12 (in_c 1 rfl) rfl) (in_w 1 1 (in_c 1 rfl) rfl))))
  refine g_enter2 (k := 266) (N := 30601) (by first | exact dq1 hd rfl | exact dq0 hd rfl | exact dq2 hd rfl | exact dq3 hd rfl | omega) rfl (Nat.le_of_ble_eq_true rfl) ?_
  refine g_iload_n 1 (gd rfl) rfl rfl ?_
  refine g_istore_n 2 (gd rfl) rfl (Nat.le_of_ble_eq_true rfl) ?_
  refine g_iload_n 3 (gd rfl) rfl rfl ?_
  refine g_istore 5 (gd rfl) rfl (Nat.le_of_ble_eq_true rfl) ?_
  refine g_iconst 0 6 (gd rfl) rfl rfl ?_
  refine g_istore 8 (gd rfl) rfl (Nat.le_of_ble_eq_true rfl) ?_
  have n8 : ∀ k, bt x1 k = true → bt x1 k = true := by first | exact fun k h => h | exact fun k h => bt_orl e54 (g8_0 k h)
  exact gg_w (by first | exact Nat.le_of_ble_eq_true rfl | omega) (gg_f (gf_cons rfl (gf_cons rfl (gf_cons rfl (gf_cons rfl (gf_cons rfl (gf_cons rfl gf_nil)))))) (ct8 33  x1 x1 (Int32.ofInt 0)  (in_w 0 32 (in_c 0 rfl) rfl) n8 (m_in 33 (in_w 0 32 (in_c 0 rfl) rfl) rfl)))
end
section
/-! methods, by vc.py -/
def fm_275 : FM := ([110, 111, 112, 113, 114, 115, 116, 117], [], [], [])
def fm_276 : FM := ([], [], [(109, 18), (109, 19), (109, 20)], [])
/-- GraphHouseModel.freePlace -/
theorem k_280 {Z : AmZ} {A : Nat → Nat} {s : GS} {ex : va_W} {d : Nat} {X : AmX} {x1 : Int32} (hd : 1 ≤ d) (hI : Inv s) (h1 : In x1 0 2) : GC Z d 280 [.ref (A 109), .int x1] (WW Z A s ++ ex) 0 0 (fun v u => ∃ z : Int32, v = some (.int z) ∧ u = WW Z A s ++ ex ∧ In z 0 160 ∧ ((z).toNatClampNeg = fpl (thg s (160 * (x1).toNatClampNeg)))) X := by
  intro post xp hP hX
  have ct2 : ∀ (k2 : Nat) (y2_2 : Int32), (In y2_2 0 160) → (∀ i : Nat, (i : Int) < (y2_2).toInt → (s.1 112 (160 * (x1).toNatClampNeg + i)).toInt ≠ 0) → 160 - (y2_2).toInt < (k2 : Int) → GG Z (d - 1) 280 post (gx xp) (1 + k2 * 900) 2 (fun j => xlook j [(0, .ref (A 109)), (1, .int x1), (2, .int y2_2)]) [] (WW Z A s ++ ex) 0 0 := by
    intro k2
    induction k2 with
    | zero => intro y2_2 j2_2 g2_0 mm2; exact m_no mm2 j2_2 rfl
    | succ k2 ih2 =>
      intro y2_2 j2_2 g2_0 mm2
      refine gg_w (M := 1 + k2 * 900 + 900) gws ?_
      refine g_iload_n 3 (gd rfl) rfl rfl ?_
      refine g_sipush 160 6 (gd rfl) rfl rfl ?_
      refine g_cmp_ge 9 30 (gd rfl) rfl rfl (fun c6 => ?_) (fun c6 => ?_)
      · skip
        have i6 := r_le2 160 160 c6 (in_c 160 rfl) j2_2 rfl
        refine g_iload_n 31 (gd rfl) rfl rfl ?_
        have n31 : (y2_2).toNatClampNeg = fpl (thg s (160 * (x1).toNatClampNeg)) := by exact (fpl_eq (r := y2_2.toNatClampNeg) (by show y2_2.toInt.toNat ≤ 160; (first | have a0 := oa2 h1 i6 | ((first | have a0 := in_u h1 | (have a0 := h1; unfold In at a0)); (first | have a1 := in_u i6 | (have a1 := i6; unfold In at a1)))); (first | exact zt_u (by omega) | omega)) (fun i hi => decide_eq_true (g2_0 i (by have e2 : y2_2.toNatClampNeg = y2_2.toInt.toNat := rfl; (first | have a0 := oa2 h1 i6 | ((first | have a0 := in_u h1 | (have a0 := h1; unfold In at a0)); (first | have a1 := in_u i6 | (have a1 := i6; unfold In at a1)))); omega))) (fun hlt => by first | (exfalso; have e2 : y2_2.toNatClampNeg = y2_2.toInt.toNat := rfl; (first | have a0 := oa2 h1 i6 | ((first | have a0 := in_u h1 | (have a0 := h1; unfold In at a0)); (first | have a1 := in_u i6 | (have a1 := i6; unfold In at a1)))); omega) | (refine decide_eq_false (fun z => z ?_); rw [show 160 * x1.toNatClampNeg + y2_2.toNatClampNeg = z19.toNatClampNeg from (by show 160 * x1.toInt.toNat + y2_2.toInt.toNat = z19.toInt.toNat; (first | have a0 := oa2 h1 i6 | ((first | have a0 := in_u h1 | (have a0 := h1; unfold In at a0)); (first | have a1 := in_u i6 | (have a1 := i6; unfold In at a1)))); omega), ← e20]; exact c21))).symm
        exact g_ireturn (gd rfl) rfl rfl (hP _ _ ⟨y2_2, rfl, rfl, in_w 0 160 i6 rfl, n31⟩)
      · skip
        have i6 := r_lt1 0 159 c6 j2_2 (in_c 160 rfl) rfl
        refine g_aload_n 10 (gd rfl) rfl rfl ?_
        refine g_getA (q2 := 112) 13 (gd rfl) rfl rfl rfl rfl ?_
        refine g_sipush 160 16 (gd rfl) rfl rfl ?_
        refine g_iload_n 17 (gd rfl) rfl rfl ?_
        refine g_imul 18 (gd rfl) rfl (fun z17 e17 => ?_)
        have i17 := in_mulc 160 0 320 (Or.inl e17) h1 rfl rfl
        refine g_iload_n 19 (gd rfl) rfl rfl ?_
        refine g_iadd 20 (gd rfl) rfl (fun z19 e19 => ?_)
        have i19 := in_add 0 479 e19 i17 i6 rfl rfl
        refine g_baload 21 (gd rfl) rfl (n := 480) rfl (in_ix i19 rfl) (fun z20 e20 => ?_)
        have i20 := inv_I hI (n := 480) (t := 3) 0 1 rfl (in_ix i19 rfl) rfl e20
        refine g_if_eq 24 30 (gd rfl) rfl rfl (fun c21 => ?_) (fun c21 => ?_)
        · skip
          have i21 := z_eq 0 0 c21 i20 rfl
          refine g_iload_n 31 (gd rfl) rfl rfl ?_
          have n31 : (y2_2).toNatClampNeg = fpl (thg s (160 * (x1).toNatClampNeg)) := by exact (fpl_eq (r := y2_2.toNatClampNeg) (by show y2_2.toInt.toNat ≤ 160; (first | have a0 := oa3 h1 i6 i19 | ((first | have a0 := in_u h1 | (have a0 := h1; unfold In at a0)); (first | have a1 := in_u i6 | (have a1 := i6; unfold In at a1)); (first | have a2 := in_u i19 | (have a2 := i19; unfold In at a2)))); have a3 := t_add e19 i17 i6 rfl; (first | have a4 := in_u i17 | (have a4 := i17; unfold In at a4)); have a5 := (t_mulc 160 (Or.inl e17) h1 rfl).1; (first | exact zt_u (by omega) | omega)) (fun i hi => decide_eq_true (g2_0 i (by have e2 : y2_2.toNatClampNeg = y2_2.toInt.toNat := rfl; (first | have a0 := oa3 h1 i6 i19 | ((first | have a0 := in_u h1 | (have a0 := h1; unfold In at a0)); (first | have a1 := in_u i6 | (have a1 := i6; unfold In at a1)); (first | have a2 := in_u i19 | (have a2 := i19; unfold In at a2)))); have a3 := t_add e19 i17 i6 rfl; (first | have a4 := in_u i17 | (have a4 := i17; unfold In at a4)); have a5 := (t_mulc 160 (Or.inl e17) h1 rfl).1; omega))) (fun hlt => by first | (exfalso; have e2 : y2_2.toNatClampNeg = y2_2.toInt.toNat := rfl; (first | have a0 := oa3 h1 i6 i19 | ((first | have a0 := in_u h1 | (have a0 := h1; unfold In at a0)); (first | have a1 := in_u i6 | (have a1 := i6; unfold In at a1)); (first | have a2 := in_u i19 | (have a2 := i19; unfold In at a2)))); have a3 := t_add e19 i17 i6 rfl; (first | have a4 := in_u i17 | (have a4 := i17; unfold In at a4)); have a5 := (t_mulc 160 (Or.inl e17) h1 rfl).1; omega) | (refine decide_eq_false (fun z => z ?_); rw [show 160 * x1.toNatClampNeg + y2_2.toNatClampNeg = z19.toNatClampNeg from (by show 160 * x1.toInt.toNat + y2_2.toInt.toNat = z19.toInt.toNat; (first | have a0 := oa3 h1 i6 i19 | ((first | have a0 := in_u h1 | (have a0 := h1; unfold In at a0)); (first | have a1 := in_u i6 | (have a1 := i6; unfold In at a1)); (first | have a2 := in_u i19 | (have a2 := i19; unfold In at a2)))); have a3 := t_add e19 i17 i6 rfl; (first | have a4 := in_u i17 | (have a4 := i17; unfold In at a4)); have a5 := (t_mulc 160 (Or.inl e17) h1 rfl).1; omega), ← e20]; exact c21))).symm
          exact g_ireturn (gd rfl) rfl rfl (hP _ _ ⟨y2_2, rfl, rfl, in_w 0 160 i6 rfl, n31⟩)
        · skip
          have i21 := z_ne 1 1 c21 i20 rfl
          refine g_iinc 27 (gd rfl) rfl rfl (Nat.le_of_ble_eq_true rfl) (fun z24 e24 => ?_)
          have i24 := in_add 1 160 e24 i6 (in_c 1 rfl) rfl rfl
          refine g_goto 2 (gd rfl) rfl ?_
          have n2 : ∀ i : Nat, (i : Int) < (z24).toInt → (s.1 112 (160 * (x1).toNatClampNeg + i)).toInt ≠ 0 := by (intro i hi; have e2 : y2_2.toNatClampNeg = y2_2.toInt.toNat := rfl; by_cases c : i = y2_2.toNatClampNeg; (rw [c, show 160 * x1.toNatClampNeg + y2_2.toNatClampNeg = z19.toNatClampNeg from (by show 160 * x1.toInt.toNat + y2_2.toInt.toNat = z19.toInt.toNat; (first | have a0 := oa3 h1 i6 i24 | ((first | have a0 := in_u h1 | (have a0 := h1; unfold In at a0)); (first | have a1 := in_u i6 | (have a1 := i6; unfold In at a1)); (first | have a2 := in_u i24 | (have a2 := i24; unfold In at a2)))); have a3 := t_add e24 i6 (in_c 1 rfl) rfl; (first | have a4 := oa2 ((in_c 1 rfl)) i19 | ((first | have a4 := in_u ((in_c 1 rfl)) | (have a4 := (in_c 1 rfl); unfold In at a4)); (first | have a5 := in_u i19 | (have a5 := i19; unfold In at a5)))); have a6 := t_add e19 i17 i6 rfl; (first | have a7 := in_u i17 | (have a7 := i17; unfold In at a7)); have a8 := (t_mulc 160 (Or.inl e17) h1 rfl).1; omega), ← e20]; exact c21); exact g2_0 i (by (first | have a0 := oa3 h1 i6 i24 | ((first | have a0 := in_u h1 | (have a0 := h1; unfold In at a0)); (first | have a1 := in_u i6 | (have a1 := i6; unfold In at a1)); (first | have a2 := in_u i24 | (have a2 := i24; unfold In at a2)))); have a3 := t_add e24 i6 (in_c 1 rfl) rfl; (first | have a4 := oa2 ((in_c 1 rfl)) i19 | ((first | have a4 := in_u ((in_c 1 rfl)) | (have a4 := (in_c 1 rfl); unfold In at a4)); (first | have a5 := in_u i19 | (have a5 := i19; unfold In at a5)))); have a6 := t_add e19 i17 i6 rfl; (first | have a7 := in_u i17 | (have a7 := i17; unfold In at a7)); have a8 := (t_mulc 160 (Or.inl e17) h1 rfl).1; omega))
          exact gg_w (by first | exact Nat.le_add_right _ _ | exact gw2 | exact gw3 | exact gwe rfl | exact gwf rfl | exact gwg rfl | exact gwh rfl | omega) (gg_f (gf_cons rfl (gf_cons rfl (gf_cons rfl gf_nil))) (ih2  z24  (in_w 0 160 i24 rfl) n2 (m_up mm2 (t_add e24 i6 (in_c 1 rfl) rfl) (in_w 1 1 (in_c 1 rfl) rfl))))
  refine g_enter2 (k := 280) (N := 145801) (by first | exact dq1 hd rfl | exact dq0 hd rfl | exact dq2 hd rfl | exact dq3 hd rfl | omega) rfl (Nat.le_of_ble_eq_true rfl) ?_
  refine g_iconst 0 1 (gd rfl) rfl rfl ?_
  refine g_istore_n 2 (gd rfl) rfl (Nat.le_of_ble_eq_true rfl) ?_
  have n2 : ∀ i : Nat, (i : Int) < ((Int32.ofInt 0)).toInt → (s.1 112 (160 * (x1).toNatClampNeg + i)).toInt ≠ 0 := by (intro i hi; exfalso; have h0 : (Int32.ofInt 0).toInt = 0 := rfl; omega)
  exact gg_w (by first | exact Nat.le_of_ble_eq_true rfl | omega) (gg_f (gf_cons rfl (gf_cons rfl (gf_cons rfl gf_nil))) (ct2 161  (Int32.ofInt 0)  (in_w 0 160 (in_c 0 rfl) rfl) n2 (m_in 161 (in_w 0 160 (in_c 0 rfl) rfl) rfl)))

def fm_286 : FM := ([110, 111, 112, 113, 114, 115, 116, 117], [], [(109, 0), (109, 17), (109, 18), (109, 19), (109, 20)], [])
def fm_287 : FM := ([], [], [(109, 0)], [])
def fm_289 : FM := ([], [], [(109, 0)], [])
/-- GraphHouseModel.size -/
theorem k_289 {Z : AmZ} {A : Nat → Nat} {s : GS} {ex : va_W} {d : Nat} {X : AmX} {x1 : Int32} (hd : 4 ≤ d) (hI : Inv s)  : GC Z d 289 [.ref (A 109), .int x1] (WW Z A s ++ ex) 0 0 (fun v u => ∃ t : GS, Inv t ∧ Fr fm_289 s t ∧ ∃ z : Int32, v = some (.int z) ∧ u = WW Z A t ++ ex ∧ In z (-1) 160) X := by
  intro post xp hP hX
  obtain ⟨u_109_19, e_109_19⟩ : ∃ w, w = s.2.2.1 109 19 := ⟨_, rfl⟩
  have ro_109_19 := inv_F hI 0 160 rfl e_109_19
  obtain ⟨u_109_20, e_109_20⟩ : ∃ w, w = s.2.2.1 109 20 := ⟨_, rfl⟩
  have ro_109_20 := inv_F hI 0 32 rfl e_109_20
  have ct28 : ∀ (k28 : Nat) (sc28 : GS) (y28_2 : Int32) (y28_3 : Int32) (y28_4 : Int32) (y28_5 : Int32), Inv sc28 → Fr fm_289 s sc28 → (In x1 0 3) → (In y28_2 0 160) → (In y28_3 0 160) → (In y28_4 (-1) 159) → (In y28_5 0 160) → ((y28_2).toInt ≤ (y28_5).toInt + 0) → ((y28_3).toInt ≤ (y28_5).toInt + 0) → 160 - (y28_5).toInt < (k28 : Int) → GG Z (d - 1) 289 post (gx xp) (1 + k28 * 900) 28 (fun j => xlook j [(0, .ref (A 109)), (1, .int x1), (2, .int y28_2), (3, .int y28_3), (4, .int y28_4), (5, .int y28_5)]) [] (WW Z A sc28 ++ ex) 0 0 := by
    intro k28
    induction k28 with
    | zero => intro sc28 y28_2 y28_3 y28_4 y28_5 hIc28 hFc28 j28_1 j28_2 j28_3 j28_4 j28_5 l28_2 l28_3 mm28; exact m_no mm28 j28_5 rfl
    | succ k28 ih28 =>
      intro sc28 y28_2 y28_3 y28_4 y28_5 hIc28 hFc28 j28_1 j28_2 j28_3 j28_4 j28_5 l28_2 l28_3 mm28
      refine gg_w (M := 1 + k28 * 900 + 900) gws ?_
      refine g_iload 30 (gd rfl) rfl rfl ?_
      refine g_sipush 160 33 (gd rfl) rfl rfl ?_
      refine g_cmp_ge 36 106 (gd rfl) rfl rfl (fun c33 => ?_) (fun c33 => ?_)
      · skip
        have i33 := r_le2 160 160 c33 (in_c 160 rfl) j28_5 rfl
        refine g_iload_n 107 (gd rfl) rfl rfl ?_
        refine g_if_ne 110 117 (gd rfl) rfl rfl (fun c107 => ?_) (fun c107 => ?_)
        · skip
          have i107 := z_ne 1 3 c107 j28_1 rfl
          refine g_iload_n 118 (gd rfl) rfl rfl ?_
          refine g_iconst 1 119 (gd rfl) rfl rfl ?_
          refine g_cmp_ne 122 126 (gd rfl) rfl rfl (fun c119 => ?_) (fun c119 => ?_)
          · skip
            have i119 := r_ne1 2 3 c119 i107 (in_c 1 rfl) rfl
            refine g_iload_n 127 (gd rfl) rfl rfl ?_
            refine g_iconst 2 128 (gd rfl) rfl rfl ?_
            refine g_cmp_ne 131 135 (gd rfl) rfl rfl (fun c128 => ?_) (fun c128 => ?_)
            · skip
              have i128 := r_ne1 3 3 c128 i119 (in_c 2 rfl) rfl
              refine g_iload 137 (gd rfl) rfl rfl ?_
              exact g_ireturn (gd rfl) rfl rfl (hP _ _ ⟨sc28, hIc28, hFc28, y28_4, rfl, rfl, in_w (-1) 160 j28_4 rfl⟩)
            · skip
              have i128 := r_eq1 2 2 c128 i119 (in_c 2 rfl) rfl
              refine g_iload_n 132 (gd rfl) rfl rfl ?_
              refine g_goto 137 (gd rfl) rfl ?_
              exact g_ireturn (gd rfl) rfl rfl (hP _ _ ⟨sc28, hIc28, hFc28, y28_3, rfl, rfl, in_w (-1) 160 j28_3 rfl⟩)
          · skip
            have i119 := r_eq1 1 1 c119 i107 (in_c 1 rfl) rfl
            refine g_iload_n 123 (gd rfl) rfl rfl ?_
            refine g_goto 137 (gd rfl) rfl ?_
            exact g_ireturn (gd rfl) rfl rfl (hP _ _ ⟨sc28, hIc28, hFc28, y28_2, rfl, rfl, in_w (-1) 160 j28_2 rfl⟩)
        · skip
          have i107 := z_eq 0 0 c107 j28_1 rfl
          refine g_aload_n 111 (gd rfl) rfl rfl ?_
          refine g_getI 114 (gd rfl) rfl rfl rfl (fun z111 e111 => ?_)
          have q111 : u_109_20 = z111 := (fr_F e_109_20 hFc28 rfl).trans e111.symm
          subst q111
          refine g_goto 137 (gd rfl) rfl ?_
          exact g_ireturn (gd rfl) rfl rfl (hP _ _ ⟨sc28, hIc28, hFc28, u_109_20, rfl, rfl, in_w (-1) 160 ro_109_20 rfl⟩)
      · skip
        have i33 := r_lt1 0 159 c33 j28_5 (in_c 160 rfl) rfl
        refine g_iload_n 37 (gd rfl) rfl rfl ?_
        refine g_aload_n 38 (gd rfl) rfl rfl ?_
        refine g_getA (q2 := 112) 41 (gd rfl) rfl rfl rfl rfl ?_
        refine g_aload_n 42 (gd rfl) rfl rfl ?_
        refine g_getI 45 (gd rfl) rfl rfl rfl (fun z42 e42 => ?_)
        have q42 : u_109_19 = z42 := (fr_F e_109_19 hFc28 rfl).trans e42.symm
        subst q42
        refine g_iload 47 (gd rfl) rfl rfl ?_
        refine g_iadd 48 (gd rfl) rfl (fun z47 e47 => ?_)
        have i47 := in_add 0 319 e47 ro_109_19 i33 rfl rfl
        refine g_baload 49 (gd rfl) rfl (n := 480) rfl (in_ix i47 rfl) (fun z48 e48 => ?_)
        have i48 := inv_I hIc28 (n := 480) (t := 3) 0 1 rfl (in_ix i47 rfl) rfl e48
        refine g_if_eq 52 56 (gd rfl) rfl rfl (fun c49 => ?_) (fun c49 => ?_)
        · skip
          have i49 := z_eq 0 0 c49 i48 rfl
          refine g_iconst 0 57 (gd rfl) rfl rfl ?_
          refine g_iadd 58 (gd rfl) rfl (fun z57 e57 => ?_)
          have i57 := in_add 0 160 e57 j28_2 (in_c 0 rfl) rfl rfl
          refine g_istore_n 59 (gd rfl) rfl (Nat.le_of_ble_eq_true rfl) ?_
          refine g_iload_n 60 (gd rfl) rfl rfl ?_
          refine g_aload_n 61 (gd rfl) rfl rfl ?_
          refine g_iload 63 (gd rfl) rfl rfl ?_
          refine g_callv (X := _) (As := [.int y28_5]) (r := [.int y28_3]) (b := A 109) (q := 109) 66 (gd rfl) rfl rfl rfl rfl rfl (ww_o rfl) (Nat.le_of_ble_eq_true rfl) (mc := 0) (ms := 0) (Nat.zero_le _) (Nat.zero_le _) (P := fun v u => _) ?_ (fun e u h => h) (fun v u h => h)
          intro po63 xx63 hp63 hx63
          refine g_enter2 (k := 288) (N := 300) (by first | exact dq1 hd rfl | exact dq0 hd rfl | exact dq2 hd rfl | exact dq3 hd rfl | omega) rfl (Nat.le_of_ble_eq_true rfl) ?_
          refine g_aload_n 1 (gd rfl) rfl rfl ?_
          refine g_getA (q2 := 112) 4 (gd rfl) rfl rfl rfl rfl ?_
          refine g_aload_n 5 (gd rfl) rfl rfl ?_
          refine g_getI 8 (gd rfl) rfl rfl rfl (fun z63x5 e63x5 => ?_)
          have q63x5 : u_109_19 = z63x5 := (fr_F e_109_19 hFc28 rfl).trans e63x5.symm
          subst q63x5
          refine g_iload_n 9 (gd rfl) rfl rfl ?_
          refine g_iadd 10 (gd rfl) rfl (fun z63x9 e63x9 => ?_)
          have i63x9 := in_add 0 319 e63x9 ro_109_19 i33 rfl rfl
          refine g_baload 11 (gd rfl) rfl (n := 480) rfl (in_ix i63x9 rfl) (fun z63x10 e63x10 => ?_)
          have i63x10 := inv_I hIc28 (n := 480) (t := 3) 0 1 rfl (in_ix i63x9 rfl) rfl e63x10
          refine g_if_eq 14 43 (gd rfl) rfl rfl (fun c63x11 => ?_) (fun c63x11 => ?_)
          · skip
            have i63x11 := z_eq 0 0 c63x11 i63x10 rfl
            refine g_iconst 0 44 (gd rfl) rfl rfl ?_
            refine g_ireturn (gd rfl) rfl (nb01 (in_w 0 1 (in_c 0 rfl) rfl)) (hp63 _ _ ?_)
            show GG _ _ _ _ _ _ _ _ [.int (Int32.ofInt 0), .int y28_3] _ _ _
            refine g_if_eq 69 73 (gd rfl) rfl rfl (fun c66 => ?_) (fun c66 => ?_)
            · skip
              refine g_iconst 0 74 (gd rfl) rfl rfl ?_
              refine g_iadd 75 (gd rfl) rfl (fun z74 e74 => ?_)
              have i74 := in_add 0 160 e74 j28_3 (in_c 0 rfl) rfl rfl
              refine g_istore_n 76 (gd rfl) rfl (Nat.le_of_ble_eq_true rfl) ?_
              refine g_aload_n 77 (gd rfl) rfl rfl ?_
              refine g_getA (q2 := 112) 80 (gd rfl) rfl rfl rfl rfl ?_
              refine g_aload_n 81 (gd rfl) rfl rfl ?_
              refine g_getI 84 (gd rfl) rfl rfl rfl (fun z81 e81 => ?_)
              have q81 : u_109_19 = z81 := (fr_F e_109_19 hFc28 rfl).trans e81.symm
              subst q81
              refine g_iload 86 (gd rfl) rfl rfl ?_
              refine g_iadd 87 (gd rfl) rfl (fun z86 e86 => ?_)
              have i86 := in_add 0 319 e86 ro_109_19 i33 rfl rfl
              refine g_baload 88 (gd rfl) rfl (n := 480) rfl (in_ix i86 rfl) (fun z87 e87 => ?_)
              have i87 := inv_I hIc28 (n := 480) (t := 3) 0 1 rfl (in_ix i86 rfl) rfl e87
              refine g_if_eq 91 96 (gd rfl) rfl rfl (fun c88 => ?_) (fun c88 => ?_)
              · skip
                have i88 := z_eq 0 0 c88 i87 rfl
                refine g_iload 98 (gd rfl) rfl rfl ?_
                refine g_istore 100 (gd rfl) rfl (Nat.le_of_ble_eq_true rfl) ?_
                refine g_iinc 103 (gd rfl) rfl rfl (Nat.le_of_ble_eq_true rfl) (fun z100 e100 => ?_)
                have i100 := in_add 1 160 e100 i33 (in_c 1 rfl) rfl rfl
                refine g_goto 28 (gd rfl) rfl ?_
                have l28 := rl_1 l28_2 (t_add e57 j28_2 (in_c 0 rfl) rfl) (in_c 0 rfl) (t_add e100 i33 (in_c 1 rfl) rfl) (in_c 1 rfl) rfl
                have l28a := rl_1 l28_3 (t_add e74 j28_3 (in_c 0 rfl) rfl) (in_c 0 rfl) (t_add e100 i33 (in_c 1 rfl) rfl) (in_c 1 rfl) rfl
                exact gg_w (by first | exact Nat.le_add_right _ _ | exact gw2 | exact gw3 | exact gwe rfl | exact gwf rfl | exact gwg rfl | exact gwh rfl | omega) (gg_f (gf_cons rfl (gf_cons rfl (gf_cons rfl (gf_cons rfl (gf_cons rfl (gf_cons rfl gf_nil)))))) (ih28 sc28 z57 z74 y28_4 z100 hIc28 hFc28 (in_w 0 3 j28_1 rfl) (rl_w 0 160 l28 i57 (in_w 0 160 i100 rfl) rfl) (rl_w 0 160 l28a i74 (in_w 0 160 i100 rfl) rfl) (in_w (-1) 159 j28_4 rfl) (in_w 0 160 i100 rfl) l28 l28a (m_up mm28 (t_add e100 i33 (in_c 1 rfl) rfl) (in_w 1 1 (in_c 1 rfl) rfl))))
              · skip
                have i88 := z_ne 1 1 c88 i87 rfl
                refine g_iload 93 (gd rfl) rfl rfl ?_
                refine g_goto 98 (gd rfl) rfl ?_
                refine g_istore 100 (gd rfl) rfl (Nat.le_of_ble_eq_true rfl) ?_
                refine g_iinc 103 (gd rfl) rfl rfl (Nat.le_of_ble_eq_true rfl) (fun z100 e100 => ?_)
                have i100 := in_add 1 160 e100 i33 (in_c 1 rfl) rfl rfl
                refine g_goto 28 (gd rfl) rfl ?_
                have l28 := rl_1 l28_2 (t_add e57 j28_2 (in_c 0 rfl) rfl) (in_c 0 rfl) (t_add e100 i33 (in_c 1 rfl) rfl) (in_c 1 rfl) rfl
                have l28a := rl_1 l28_3 (t_add e74 j28_3 (in_c 0 rfl) rfl) (in_c 0 rfl) (t_add e100 i33 (in_c 1 rfl) rfl) (in_c 1 rfl) rfl
                exact gg_w (by first | exact Nat.le_add_right _ _ | exact gw2 | exact gw3 | exact gwe rfl | exact gwf rfl | exact gwg rfl | exact gwh rfl | omega) (gg_f (gf_cons rfl (gf_cons rfl (gf_cons rfl (gf_cons rfl (gf_cons rfl (gf_cons rfl gf_nil)))))) (ih28 sc28 z57 z74 y28_5 z100 hIc28 hFc28 (in_w 0 3 j28_1 rfl) (rl_w 0 160 l28 i57 (in_w 0 160 i100 rfl) rfl) (rl_w 0 160 l28a i74 (in_w 0 160 i100 rfl) rfl) (in_w (-1) 159 i33 rfl) (in_w 0 160 i100 rfl) l28 l28a (m_up mm28 (t_add e100 i33 (in_c 1 rfl) rfl) (in_w 1 1 (in_c 1 rfl) rfl))))
            · skip
              exact zn_ne c66 (in_c 0 rfl) rfl
          · skip
            have i63x11 := z_ne 1 1 c63x11 i63x10 rfl
            refine g_aload_n 15 (gd rfl) rfl rfl ?_
            refine g_getA (q2 := 113) 18 (gd rfl) rfl rfl rfl rfl ?_
            refine g_aload_n 19 (gd rfl) rfl rfl ?_
            refine g_getI 22 (gd rfl) rfl rfl rfl (fun z63x19 e63x19 => ?_)
            have q63x19 : u_109_19 = z63x19 := (fr_F e_109_19 hFc28 rfl).trans e63x19.symm
            subst q63x19
            refine g_iload_n 23 (gd rfl) rfl rfl ?_
            refine g_iadd 24 (gd rfl) rfl (fun z63x23 e63x23 => ?_)
            have i63x23 := in_add 0 319 e63x23 ro_109_19 i33 rfl rfl
            refine g_iaload 25 (gd rfl) rfl (n := 480) rfl (in_ix i63x23 rfl) (fun z63x24 e63x24 => ?_)
            have i63x24 := inv_I hIc28 (n := 480) (t := 0) 0 31 rfl (in_ix i63x23 rfl) rfl e63x24
            refine g_aload_n 26 (gd rfl) rfl rfl ?_
            refine g_getA (q2 := 114) 29 (gd rfl) rfl rfl rfl rfl ?_
            refine g_aload_n 30 (gd rfl) rfl rfl ?_
            refine g_getI 33 (gd rfl) rfl rfl rfl (fun z63x30 e63x30 => ?_)
            have q63x30 : u_109_19 = z63x30 := (fr_F e_109_19 hFc28 rfl).trans e63x30.symm
            subst q63x30
            refine g_iload_n 34 (gd rfl) rfl rfl ?_
            refine g_iadd 35 (gd rfl) rfl (fun z63x34 e63x34 => ?_)
            have i63x34 := in_add 0 319 e63x34 ro_109_19 i33 rfl rfl
            refine g_iaload 36 (gd rfl) rfl (n := 480) rfl (in_ix i63x34 rfl) (fun z63x35 e63x35 => ?_)
            have i63x35 := inv_I hIc28 (n := 480) (t := 0) 0 31 rfl (in_ix i63x34 rfl) rfl e63x35
            refine g_cmp_eq 39 43 (gd rfl) rfl rfl (fun c63x36 => ?_) (fun c63x36 => ?_)
            · skip
              refine g_iconst 0 44 (gd rfl) rfl rfl ?_
              refine g_ireturn (gd rfl) rfl (nb01 (in_w 0 1 (in_c 0 rfl) rfl)) (hp63 _ _ ?_)
              show GG _ _ _ _ _ _ _ _ [.int (Int32.ofInt 0), .int y28_3] _ _ _
              refine g_if_eq 69 73 (gd rfl) rfl rfl (fun c66 => ?_) (fun c66 => ?_)
              · skip
                refine g_iconst 0 74 (gd rfl) rfl rfl ?_
                refine g_iadd 75 (gd rfl) rfl (fun z74 e74 => ?_)
                have i74 := in_add 0 160 e74 j28_3 (in_c 0 rfl) rfl rfl
                refine g_istore_n 76 (gd rfl) rfl (Nat.le_of_ble_eq_true rfl) ?_
                refine g_aload_n 77 (gd rfl) rfl rfl ?_
                refine g_getA (q2 := 112) 80 (gd rfl) rfl rfl rfl rfl ?_
                refine g_aload_n 81 (gd rfl) rfl rfl ?_
                refine g_getI 84 (gd rfl) rfl rfl rfl (fun z81 e81 => ?_)
                have q81 : u_109_19 = z81 := (fr_F e_109_19 hFc28 rfl).trans e81.symm
                subst q81
                refine g_iload 86 (gd rfl) rfl rfl ?_
                refine g_iadd 87 (gd rfl) rfl (fun z86 e86 => ?_)
                have i86 := in_add 0 319 e86 ro_109_19 i33 rfl rfl
                refine g_baload 88 (gd rfl) rfl (n := 480) rfl (in_ix i86 rfl) (fun z87 e87 => ?_)
                have i87 := inv_I hIc28 (n := 480) (t := 3) 0 1 rfl (in_ix i86 rfl) rfl e87
                refine g_if_eq 91 96 (gd rfl) rfl rfl (fun c88 => ?_) (fun c88 => ?_)
                · skip
                  have i88 := z_eq 0 0 c88 i87 rfl
                  refine g_iload 98 (gd rfl) rfl rfl ?_
                  refine g_istore 100 (gd rfl) rfl (Nat.le_of_ble_eq_true rfl) ?_
                  refine g_iinc 103 (gd rfl) rfl rfl (Nat.le_of_ble_eq_true rfl) (fun z100 e100 => ?_)
                  have i100 := in_add 1 160 e100 i33 (in_c 1 rfl) rfl rfl
                  refine g_goto 28 (gd rfl) rfl ?_
                  have l28 := rl_1 l28_2 (t_add e57 j28_2 (in_c 0 rfl) rfl) (in_c 0 rfl) (t_add e100 i33 (in_c 1 rfl) rfl) (in_c 1 rfl) rfl
                  have l28a := rl_1 l28_3 (t_add e74 j28_3 (in_c 0 rfl) rfl) (in_c 0 rfl) (t_add e100 i33 (in_c 1 rfl) rfl) (in_c 1 rfl) rfl
                  exact gg_w (by first | exact Nat.le_add_right _ _ | exact gw2 | exact gw3 | exact gwe rfl | exact gwf rfl | exact gwg rfl | exact gwh rfl | omega) (gg_f (gf_cons rfl (gf_cons rfl (gf_cons rfl (gf_cons rfl (gf_cons rfl (gf_cons rfl gf_nil)))))) (ih28 sc28 z57 z74 y28_4 z100 hIc28 hFc28 (in_w 0 3 j28_1 rfl) (rl_w 0 160 l28 i57 (in_w 0 160 i100 rfl) rfl) (rl_w 0 160 l28a i74 (in_w 0 160 i100 rfl) rfl) (in_w (-1) 159 j28_4 rfl) (in_w 0 160 i100 rfl) l28 l28a (m_up mm28 (t_add e100 i33 (in_c 1 rfl) rfl) (in_w 1 1 (in_c 1 rfl) rfl))))
                · skip
                  have i88 := z_ne 1 1 c88 i87 rfl
                  refine g_iload 93 (gd rfl) rfl rfl ?_
                  refine g_goto 98 (gd rfl) rfl ?_
                  refine g_istore 100 (gd rfl) rfl (Nat.le_of_ble_eq_true rfl) ?_
                  refine g_iinc 103 (gd rfl) rfl rfl (Nat.le_of_ble_eq_true rfl) (fun z100 e100 => ?_)
                  have i100 := in_add 1 160 e100 i33 (in_c 1 rfl) rfl rfl
                  refine g_goto 28 (gd rfl) rfl ?_
                  have l28 := rl_1 l28_2 (t_add e57 j28_2 (in_c 0 rfl) rfl) (in_c 0 rfl) (t_add e100 i33 (in_c 1 rfl) rfl) (in_c 1 rfl) rfl
                  have l28a := rl_1 l28_3 (t_add e74 j28_3 (in_c 0 rfl) rfl) (in_c 0 rfl) (t_add e100 i33 (in_c 1 rfl) rfl) (in_c 1 rfl) rfl
                  exact gg_w (by first | exact Nat.le_add_right _ _ | exact gw2 | exact gw3 | exact gwe rfl | exact gwf rfl | exact gwg rfl | exact gwh rfl | omega) (gg_f (gf_cons rfl (gf_cons rfl (gf_cons rfl (gf_cons rfl (gf_cons rfl (gf_cons rfl gf_nil)))))) (ih28 sc28 z57 z74 y28_5 z100 hIc28 hFc28 (in_w 0 3 j28_1 rfl) (rl_w 0 160 l28 i57 (in_w 0 160 i100 rfl) rfl) (rl_w 0 160 l28a i74 (in_w 0 160 i100 rfl) rfl) (in_w (-1) 159 i33 rfl) (in_w 0 160 i100 rfl) l28 l28a (m_up mm28 (t_add e100 i33 (in_c 1 rfl) rfl) (in_w 1 1 (in_c 1 rfl) rfl))))
              · skip
                exact zn_ne c66 (in_c 0 rfl) rfl
            · skip
              refine g_iconst 1 40 (gd rfl) rfl rfl ?_
              refine g_goto 44 (gd rfl) rfl ?_
              refine g_ireturn (gd rfl) rfl (nb01 (in_w 0 1 (in_c 1 rfl) rfl)) (hp63 _ _ ?_)
              show GG _ _ _ _ _ _ _ _ [.int (Int32.ofInt 1), .int y28_3] _ _ _
              refine g_if_eq 69 73 (gd rfl) rfl rfl (fun c66 => ?_) (fun c66 => ?_)
              · skip
                exact zn_eq c66 (in_c 1 rfl) rfl
              · skip
                refine g_iconst 1 70 (gd rfl) rfl rfl ?_
                refine g_goto 74 (gd rfl) rfl ?_
                refine g_iadd 75 (gd rfl) rfl (fun z74 e74 => ?_)
                have i74 := in_add 1 161 e74 j28_3 (in_c 1 rfl) rfl rfl
                refine g_istore_n 76 (gd rfl) rfl (Nat.le_of_ble_eq_true rfl) ?_
                refine g_aload_n 77 (gd rfl) rfl rfl ?_
                refine g_getA (q2 := 112) 80 (gd rfl) rfl rfl rfl rfl ?_
                refine g_aload_n 81 (gd rfl) rfl rfl ?_
                refine g_getI 84 (gd rfl) rfl rfl rfl (fun z81 e81 => ?_)
                have q81 : u_109_19 = z81 := (fr_F e_109_19 hFc28 rfl).trans e81.symm
                subst q81
                refine g_iload 86 (gd rfl) rfl rfl ?_
                refine g_iadd 87 (gd rfl) rfl (fun z86 e86 => ?_)
                have i86 := in_add 0 319 e86 ro_109_19 i33 rfl rfl
                refine g_baload 88 (gd rfl) rfl (n := 480) rfl (in_ix i86 rfl) (fun z87 e87 => ?_)
                have i87 := inv_I hIc28 (n := 480) (t := 3) 0 1 rfl (in_ix i86 rfl) rfl e87
                refine g_if_eq 91 96 (gd rfl) rfl rfl (fun c88 => ?_) (fun c88 => ?_)
                · skip
                  have i88 := z_eq 0 0 c88 i87 rfl
                  refine g_iload 98 (gd rfl) rfl rfl ?_
                  refine g_istore 100 (gd rfl) rfl (Nat.le_of_ble_eq_true rfl) ?_
                  refine g_iinc 103 (gd rfl) rfl rfl (Nat.le_of_ble_eq_true rfl) (fun z100 e100 => ?_)
                  have i100 := in_add 1 160 e100 i33 (in_c 1 rfl) rfl rfl
                  refine g_goto 28 (gd rfl) rfl ?_
                  have l28 := rl_1 l28_2 (t_add e57 j28_2 (in_c 0 rfl) rfl) (in_c 0 rfl) (t_add e100 i33 (in_c 1 rfl) rfl) (in_c 1 rfl) rfl
                  have l28a := rl_1 l28_3 (t_add e74 j28_3 (in_c 1 rfl) rfl) (in_c 1 rfl) (t_add e100 i33 (in_c 1 rfl) rfl) (in_c 1 rfl) rfl
                  exact gg_w (by first | exact Nat.le_add_right _ _ | exact gw2 | exact gw3 | exact gwe rfl | exact gwf rfl | exact gwg rfl | exact gwh rfl | omega) (gg_f (gf_cons rfl (gf_cons rfl (gf_cons rfl (gf_cons rfl (gf_cons rfl (gf_cons rfl gf_nil)))))) (ih28 sc28 z57 z74 y28_4 z100 hIc28 hFc28 (in_w 0 3 j28_1 rfl) (rl_w 0 160 l28 i57 (in_w 0 160 i100 rfl) rfl) (rl_w 0 160 l28a i74 (in_w 0 160 i100 rfl) rfl) (in_w (-1) 159 j28_4 rfl) (in_w 0 160 i100 rfl) l28 l28a (m_up mm28 (t_add e100 i33 (in_c 1 rfl) rfl) (in_w 1 1 (in_c 1 rfl) rfl))))
                · skip
                  have i88 := z_ne 1 1 c88 i87 rfl
                  refine g_iload 93 (gd rfl) rfl rfl ?_
                  refine g_goto 98 (gd rfl) rfl ?_
                  refine g_istore 100 (gd rfl) rfl (Nat.le_of_ble_eq_true rfl) ?_
                  refine g_iinc 103 (gd rfl) rfl rfl (Nat.le_of_ble_eq_true rfl) (fun z100 e100 => ?_)
                  have i100 := in_add 1 160 e100 i33 (in_c 1 rfl) rfl rfl
                  refine g_goto 28 (gd rfl) rfl ?_
                  have l28 := rl_1 l28_2 (t_add e57 j28_2 (in_c 0 rfl) rfl) (in_c 0 rfl) (t_add e100 i33 (in_c 1 rfl) rfl) (in_c 1 rfl) rfl
                  have l28a := rl_1 l28_3 (t_add e74 j28_3 (in_c 1 rfl) rfl) (in_c 1 rfl) (t_add e100 i33 (in_c 1 rfl) rfl) (in_c 1 rfl) rfl
                  exact gg_w (by first | exact Nat.le_add_right _ _ | exact gw2 | exact gw3 | exact gwe rfl | exact gwf rfl | exact gwg rfl | exact gwh rfl | omega) (gg_f (gf_cons rfl (gf_cons rfl (gf_cons rfl (gf_cons rfl (gf_cons rfl (gf_cons rfl gf_nil)))))) (ih28 sc28 z57 z74 y28_5 z100 hIc28 hFc28 (in_w 0 3 j28_1 rfl) (rl_w 0 160 l28 i57 (in_w 0 160 i100 rfl) rfl) (rl_w 0 160 l28a i74 (in_w 0 160 i100 rfl) rfl) (in_w (-1) 159 i33 rfl) (in_w 0 160 i100 rfl) l28 l28a (m_up mm28 (t_add e100 i33 (in_c 1 rfl) rfl) (in_w 1 1 (in_c 1 rfl) rfl))))
        · skip
          have i49 := z_ne 1 1 c49 i48 rfl
          refine g_iconst 1 53 (gd rfl) rfl rfl ?_
          refine g_goto 57 (gd rfl) rfl ?_
          refine g_iadd 58 (gd rfl) rfl (fun z57 e57 => ?_)
          have i57 := in_add 1 161 e57 j28_2 (in_c 1 rfl) rfl rfl
          refine g_istore_n 59 (gd rfl) rfl (Nat.le_of_ble_eq_true rfl) ?_
          refine g_iload_n 60 (gd rfl) rfl rfl ?_
          refine g_aload_n 61 (gd rfl) rfl rfl ?_
          refine g_iload 63 (gd rfl) rfl rfl ?_
          refine g_callv (X := _) (As := [.int y28_5]) (r := [.int y28_3]) (b := A 109) (q := 109) 66 (gd rfl) rfl rfl rfl rfl rfl (ww_o rfl) (Nat.le_of_ble_eq_true rfl) (mc := 0) (ms := 0) (Nat.zero_le _) (Nat.zero_le _) (P := fun v u => _) ?_ (fun e u h => h) (fun v u h => h)
          intro po63 xx63 hp63 hx63
          refine g_enter2 (k := 288) (N := 300) (by first | exact dq1 hd rfl | exact dq0 hd rfl | exact dq2 hd rfl | exact dq3 hd rfl | omega) rfl (Nat.le_of_ble_eq_true rfl) ?_
          refine g_aload_n 1 (gd rfl) rfl rfl ?_
          refine g_getA (q2 := 112) 4 (gd rfl) rfl rfl rfl rfl ?_
          refine g_aload_n 5 (gd rfl) rfl rfl ?_
          refine g_getI 8 (gd rfl) rfl rfl rfl (fun z63x5 e63x5 => ?_)
          have q63x5 : u_109_19 = z63x5 := (fr_F e_109_19 hFc28 rfl).trans e63x5.symm
          subst q63x5
          refine g_iload_n 9 (gd rfl) rfl rfl ?_
          refine g_iadd 10 (gd rfl) rfl (fun z63x9 e63x9 => ?_)
          have i63x9 := in_add 0 319 e63x9 ro_109_19 i33 rfl rfl
          refine g_baload 11 (gd rfl) rfl (n := 480) rfl (in_ix i63x9 rfl) (fun z63x10 e63x10 => ?_)
          have i63x10 := inv_I hIc28 (n := 480) (t := 3) 0 1 rfl (in_ix i63x9 rfl) rfl e63x10
          refine g_if_eq 14 43 (gd rfl) rfl rfl (fun c63x11 => ?_) (fun c63x11 => ?_)
          · skip
            have i63x11 := z_eq 0 0 c63x11 i63x10 rfl
            refine g_iconst 0 44 (gd rfl) rfl rfl ?_
            refine g_ireturn (gd rfl) rfl (nb01 (in_w 0 1 (in_c 0 rfl) rfl)) (hp63 _ _ ?_)
            show GG _ _ _ _ _ _ _ _ [.int (Int32.ofInt 0), .int y28_3] _ _ _
            refine g_if_eq 69 73 (gd rfl) rfl rfl (fun c66 => ?_) (fun c66 => ?_)
            · skip
              refine g_iconst 0 74 (gd rfl) rfl rfl ?_
              refine g_iadd 75 (gd rfl) rfl (fun z74 e74 => ?_)
              have i74 := in_add 0 160 e74 j28_3 (in_c 0 rfl) rfl rfl
              refine g_istore_n 76 (gd rfl) rfl (Nat.le_of_ble_eq_true rfl) ?_
              refine g_aload_n 77 (gd rfl) rfl rfl ?_
              refine g_getA (q2 := 112) 80 (gd rfl) rfl rfl rfl rfl ?_
              refine g_aload_n 81 (gd rfl) rfl rfl ?_
              refine g_getI 84 (gd rfl) rfl rfl rfl (fun z81 e81 => ?_)
              have q81 : u_109_19 = z81 := (fr_F e_109_19 hFc28 rfl).trans e81.symm
              subst q81
              refine g_iload 86 (gd rfl) rfl rfl ?_
              refine g_iadd 87 (gd rfl) rfl (fun z86 e86 => ?_)
              have i86 := in_add 0 319 e86 ro_109_19 i33 rfl rfl
              refine g_baload 88 (gd rfl) rfl (n := 480) rfl (in_ix i86 rfl) (fun z87 e87 => ?_)
              have i87 := inv_I hIc28 (n := 480) (t := 3) 0 1 rfl (in_ix i86 rfl) rfl e87
              refine g_if_eq 91 96 (gd rfl) rfl rfl (fun c88 => ?_) (fun c88 => ?_)
              · skip
                have i88 := z_eq 0 0 c88 i87 rfl
                refine g_iload 98 (gd rfl) rfl rfl ?_
                refine g_istore 100 (gd rfl) rfl (Nat.le_of_ble_eq_true rfl) ?_
                refine g_iinc 103 (gd rfl) rfl rfl (Nat.le_of_ble_eq_true rfl) (fun z100 e100 => ?_)
                have i100 := in_add 1 160 e100 i33 (in_c 1 rfl) rfl rfl
                refine g_goto 28 (gd rfl) rfl ?_
                have l28 := rl_1 l28_2 (t_add e57 j28_2 (in_c 1 rfl) rfl) (in_c 1 rfl) (t_add e100 i33 (in_c 1 rfl) rfl) (in_c 1 rfl) rfl
                have l28a := rl_1 l28_3 (t_add e74 j28_3 (in_c 0 rfl) rfl) (in_c 0 rfl) (t_add e100 i33 (in_c 1 rfl) rfl) (in_c 1 rfl) rfl
                exact gg_w (by first | exact Nat.le_add_right _ _ | exact gw2 | exact gw3 | exact gwe rfl | exact gwf rfl | exact gwg rfl | exact gwh rfl | omega) (gg_f (gf_cons rfl (gf_cons rfl (gf_cons rfl (gf_cons rfl (gf_cons rfl (gf_cons rfl gf_nil)))))) (ih28 sc28 z57 z74 y28_4 z100 hIc28 hFc28 (in_w 0 3 j28_1 rfl) (rl_w 0 160 l28 i57 (in_w 0 160 i100 rfl) rfl) (rl_w 0 160 l28a i74 (in_w 0 160 i100 rfl) rfl) (in_w (-1) 159 j28_4 rfl) (in_w 0 160 i100 rfl) l28 l28a (m_up mm28 (t_add e100 i33 (in_c 1 rfl) rfl) (in_w 1 1 (in_c 1 rfl) rfl))))
              · skip
                have i88 := z_ne 1 1 c88 i87 rfl
                refine g_iload 93 (gd rfl) rfl rfl ?_
                refine g_goto 98 (gd rfl) rfl ?_
                refine g_istore 100 (gd rfl) rfl (Nat.le_of_ble_eq_true rfl) ?_
                refine g_iinc 103 (gd rfl) rfl rfl (Nat.le_of_ble_eq_true rfl) (fun z100 e100 => ?_)
                have i100 := in_add 1 160 e100 i33 (in_c 1 rfl) rfl rfl
                refine g_goto 28 (gd rfl) rfl ?_
                have l28 := rl_1 l28_2 (t_add e57 j28_2 (in_c 1 rfl) rfl) (in_c 1 rfl) (t_add e100 i33 (in_c 1 rfl) rfl) (in_c 1 rfl) rfl
                have l28a := rl_1 l28_3 (t_add e74 j28_3 (in_c 0 rfl) rfl) (in_c 0 rfl) (t_add e100 i33 (in_c 1 rfl) rfl) (in_c 1 rfl) rfl
                exact gg_w (by first | exact Nat.le_add_right _ _ | exact gw2 | exact gw3 | exact gwe rfl | exact gwf rfl | exact gwg rfl | exact gwh rfl | omega) (gg_f (gf_cons rfl (gf_cons rfl (gf_cons rfl (gf_cons rfl (gf_cons rfl (gf_cons rfl gf_nil)))))) (ih28 sc28 z57 z74 y28_5 z100 hIc28 hFc28 (in_w 0 3 j28_1 rfl) (rl_w 0 160 l28 i57 (in_w 0 160 i100 rfl) rfl) (rl_w 0 160 l28a i74 (in_w 0 160 i100 rfl) rfl) (in_w (-1) 159 i33 rfl) (in_w 0 160 i100 rfl) l28 l28a (m_up mm28 (t_add e100 i33 (in_c 1 rfl) rfl) (in_w 1 1 (in_c 1 rfl) rfl))))
            · skip
              exact zn_ne c66 (in_c 0 rfl) rfl
          · skip
            have i63x11 := z_ne 1 1 c63x11 i63x10 rfl
            refine g_aload_n 15 (gd rfl) rfl rfl ?_
            refine g_getA (q2 := 113) 18 (gd rfl) rfl rfl rfl rfl ?_
            refine g_aload_n 19 (gd rfl) rfl rfl ?_
            refine g_getI 22 (gd rfl) rfl rfl rfl (fun z63x19 e63x19 => ?_)
            have q63x19 : u_109_19 = z63x19 := (fr_F e_109_19 hFc28 rfl).trans e63x19.symm
            subst q63x19
            refine g_iload_n 23 (gd rfl) rfl rfl ?_
            refine g_iadd 24 (gd rfl) rfl (fun z63x23 e63x23 => ?_)
            have i63x23 := in_add 0 319 e63x23 ro_109_19 i33 rfl rfl
            refine g_iaload 25 (gd rfl) rfl (n := 480) rfl (in_ix i63x23 rfl) (fun z63x24 e63x24 => ?_)
            have i63x24 := inv_I hIc28 (n := 480) (t := 0) 0 31 rfl (in_ix i63x23 rfl) rfl e63x24
            refine g_aload_n 26 (gd rfl) rfl rfl ?_
            refine g_getA (q2 := 114) 29 (gd rfl) rfl rfl rfl rfl ?_
            refine g_aload_n 30 (gd rfl) rfl rfl ?_
            refine g_getI 33 (gd rfl) rfl rfl rfl (fun z63x30 e63x30 => ?_)
            have q63x30 : u_109_19 = z63x30 := (fr_F e_109_19 hFc28 rfl).trans e63x30.symm
            subst q63x30
            refine g_iload_n 34 (gd rfl) rfl rfl ?_
            refine g_iadd 35 (gd rfl) rfl (fun z63x34 e63x34 => ?_)
            have i63x34 := in_add 0 319 e63x34 ro_109_19 i33 rfl rfl
            refine g_iaload 36 (gd rfl) rfl (n := 480) rfl (in_ix i63x34 rfl) (fun z63x35 e63x35 => ?_)
            have i63x35 := inv_I hIc28 (n := 480) (t := 0) 0 31 rfl (in_ix i63x34 rfl) rfl e63x35
            refine g_cmp_eq 39 43 (gd rfl) rfl rfl (fun c63x36 => ?_) (fun c63x36 => ?_)
            · skip
              refine g_iconst 0 44 (gd rfl) rfl rfl ?_
              refine g_ireturn (gd rfl) rfl (nb01 (in_w 0 1 (in_c 0 rfl) rfl)) (hp63 _ _ ?_)
              show GG _ _ _ _ _ _ _ _ [.int (Int32.ofInt 0), .int y28_3] _ _ _
              refine g_if_eq 69 73 (gd rfl) rfl rfl (fun c66 => ?_) (fun c66 => ?_)
              · skip
                refine g_iconst 0 74 (gd rfl) rfl rfl ?_
                refine g_iadd 75 (gd rfl) rfl (fun z74 e74 => ?_)
                have i74 := in_add 0 160 e74 j28_3 (in_c 0 rfl) rfl rfl
                refine g_istore_n 76 (gd rfl) rfl (Nat.le_of_ble_eq_true rfl) ?_
                refine g_aload_n 77 (gd rfl) rfl rfl ?_
                refine g_getA (q2 := 112) 80 (gd rfl) rfl rfl rfl rfl ?_
                refine g_aload_n 81 (gd rfl) rfl rfl ?_
                refine g_getI 84 (gd rfl) rfl rfl rfl (fun z81 e81 => ?_)
                have q81 : u_109_19 = z81 := (fr_F e_109_19 hFc28 rfl).trans e81.symm
                subst q81
                refine g_iload 86 (gd rfl) rfl rfl ?_
                refine g_iadd 87 (gd rfl) rfl (fun z86 e86 => ?_)
                have i86 := in_add 0 319 e86 ro_109_19 i33 rfl rfl
                refine g_baload 88 (gd rfl) rfl (n := 480) rfl (in_ix i86 rfl) (fun z87 e87 => ?_)
                have i87 := inv_I hIc28 (n := 480) (t := 3) 0 1 rfl (in_ix i86 rfl) rfl e87
                refine g_if_eq 91 96 (gd rfl) rfl rfl (fun c88 => ?_) (fun c88 => ?_)
                · skip
                  have i88 := z_eq 0 0 c88 i87 rfl
                  refine g_iload 98 (gd rfl) rfl rfl ?_
                  refine g_istore 100 (gd rfl) rfl (Nat.le_of_ble_eq_true rfl) ?_
                  refine g_iinc 103 (gd rfl) rfl rfl (Nat.le_of_ble_eq_true rfl) (fun z100 e100 => ?_)
                  have i100 := in_add 1 160 e100 i33 (in_c 1 rfl) rfl rfl
                  refine g_goto 28 (gd rfl) rfl ?_
                  have l28 := rl_1 l28_2 (t_add e57 j28_2 (in_c 1 rfl) rfl) (in_c 1 rfl) (t_add e100 i33 (in_c 1 rfl) rfl) (in_c 1 rfl) rfl
                  have l28a := rl_1 l28_3 (t_add e74 j28_3 (in_c 0 rfl) rfl) (in_c 0 rfl) (t_add e100 i33 (in_c 1 rfl) rfl) (in_c 1 rfl) rfl
                  exact gg_w (by first | exact Nat.le_add_right _ _ | exact gw2 | exact gw3 | exact gwe rfl | exact gwf rfl | exact gwg rfl | exact gwh rfl | omega) (gg_f (gf_cons rfl (gf_cons rfl (gf_cons rfl (gf_cons rfl (gf_cons rfl (gf_cons rfl gf_nil)))))) (ih28 sc28 z57 z74 y28_4 z100 hIc28 hFc28 (in_w 0 3 j28_1 rfl) (rl_w 0 160 l28 i57 (in_w 0 160 i100 rfl) rfl) (rl_w 0 160 l28a i74 (in_w 0 160 i100 rfl) rfl) (in_w (-1) 159 j28_4 rfl) (in_w 0 160 i100 rfl) l28 l28a (m_up mm28 (t_add e100 i33 (in_c 1 rfl) rfl) (in_w 1 1 (in_c 1 rfl) rfl))))
                · skip
                  have i88 := z_ne 1 1 c88 i87 rfl
                  refine g_iload 93 (gd rfl) rfl rfl ?_
                  refine g_goto 98 (gd rfl) rfl ?_
                  refine g_istore 100 (gd rfl) rfl (Nat.le_of_ble_eq_true rfl) ?_
                  refine g_iinc 103 (gd rfl) rfl rfl (Nat.le_of_ble_eq_true rfl) (fun z100 e100 => ?_)
                  have i100 := in_add 1 160 e100 i33 (in_c 1 rfl) rfl rfl
                  refine g_goto 28 (gd rfl) rfl ?_
                  have l28 := rl_1 l28_2 (t_add e57 j28_2 (in_c 1 rfl) rfl) (in_c 1 rfl) (t_add e100 i33 (in_c 1 rfl) rfl) (in_c 1 rfl) rfl
                  have l28a := rl_1 l28_3 (t_add e74 j28_3 (in_c 0 rfl) rfl) (in_c 0 rfl) (t_add e100 i33 (in_c 1 rfl) rfl) (in_c 1 rfl) rfl
                  exact gg_w (by first | exact Nat.le_add_right _ _ | exact gw2 | exact gw3 | exact gwe rfl | exact gwf rfl | exact gwg rfl | exact gwh rfl | omega) (gg_f (gf_cons rfl (gf_cons rfl (gf_cons rfl (gf_cons rfl (gf_cons rfl (gf_cons rfl gf_nil)))))) (ih28 sc28 z57 z74 y28_5 z100 hIc28 hFc28 (in_w 0 3 j28_1 rfl) (rl_w 0 160 l28 i57 (in_w 0 160 i100 rfl) rfl) (rl_w 0 160 l28a i74 (in_w 0 160 i100 rfl) rfl) (in_w (-1) 159 i33 rfl) (in_w 0 160 i100 rfl) l28 l28a (m_up mm28 (t_add e100 i33 (in_c 1 rfl) rfl) (in_w 1 1 (in_c 1 rfl) rfl))))
              · skip
                exact zn_ne c66 (in_c 0 rfl) rfl
            · skip
              refine g_iconst 1 40 (gd rfl) rfl rfl ?_
              refine g_goto 44 (gd rfl) rfl ?_
              refine g_ireturn (gd rfl) rfl (nb01 (in_w 0 1 (in_c 1 rfl) rfl)) (hp63 _ _ ?_)
              show GG _ _ _ _ _ _ _ _ [.int (Int32.ofInt 1), .int y28_3] _ _ _
              refine g_if_eq 69 73 (gd rfl) rfl rfl (fun c66 => ?_) (fun c66 => ?_)
              · skip
                exact zn_eq c66 (in_c 1 rfl) rfl
              · skip
                refine g_iconst 1 70 (gd rfl) rfl rfl ?_
                refine g_goto 74 (gd rfl) rfl ?_
                refine g_iadd 75 (gd rfl) rfl (fun z74 e74 => ?_)
                have i74 := in_add 1 161 e74 j28_3 (in_c 1 rfl) rfl rfl
                refine g_istore_n 76 (gd rfl) rfl (Nat.le_of_ble_eq_true rfl) ?_
                refine g_aload_n 77 (gd rfl) rfl rfl ?_
                refine g_getA (q2 := 112) 80 (gd rfl) rfl rfl rfl rfl ?_
                refine g_aload_n 81 (gd rfl) rfl rfl ?_
                refine g_getI 84 (gd rfl) rfl rfl rfl (fun z81 e81 => ?_)
                have q81 : u_109_19 = z81 := (fr_F e_109_19 hFc28 rfl).trans e81.symm
                subst q81
                refine g_iload 86 (gd rfl) rfl rfl ?_
                refine g_iadd 87 (gd rfl) rfl (fun z86 e86 => ?_)
                have i86 := in_add 0 319 e86 ro_109_19 i33 rfl rfl
                refine g_baload 88 (gd rfl) rfl (n := 480) rfl (in_ix i86 rfl) (fun z87 e87 => ?_)
                have i87 := inv_I hIc28 (n := 480) (t := 3) 0 1 rfl (in_ix i86 rfl) rfl e87
                refine g_if_eq 91 96 (gd rfl) rfl rfl (fun c88 => ?_) (fun c88 => ?_)
                · skip
                  have i88 := z_eq 0 0 c88 i87 rfl
                  refine g_iload 98 (gd rfl) rfl rfl ?_
                  refine g_istore 100 (gd rfl) rfl (Nat.le_of_ble_eq_true rfl) ?_
                  refine g_iinc 103 (gd rfl) rfl rfl (Nat.le_of_ble_eq_true rfl) (fun z100 e100 => ?_)
                  have i100 := in_add 1 160 e100 i33 (in_c 1 rfl) rfl rfl
                  refine g_goto 28 (gd rfl) rfl ?_
                  have l28 := rl_1 l28_2 (t_add e57 j28_2 (in_c 1 rfl) rfl) (in_c 1 rfl) (t_add e100 i33 (in_c 1 rfl) rfl) (in_c 1 rfl) rfl
                  have l28a := rl_1 l28_3 (t_add e74 j28_3 (in_c 1 rfl) rfl) (in_c 1 rfl) (t_add e100 i33 (in_c 1 rfl) rfl) (in_c 1 rfl) rfl
                  exact gg_w (by first | exact Nat.le_add_right _ _ | exact gw2 | exact gw3 | exact gwe rfl | exact gwf rfl | exact gwg rfl | exact gwh rfl | omega) (gg_f (gf_cons rfl (gf_cons rfl (gf_cons rfl (gf_cons rfl (gf_cons rfl (gf_cons rfl gf_nil)))))) (ih28 sc28 z57 z74 y28_4 z100 hIc28 hFc28 (in_w 0 3 j28_1 rfl) (rl_w 0 160 l28 i57 (in_w 0 160 i100 rfl) rfl) (rl_w 0 160 l28a i74 (in_w 0 160 i100 rfl) rfl) (in_w (-1) 159 j28_4 rfl) (in_w 0 160 i100 rfl) l28 l28a (m_up mm28 (t_add e100 i33 (in_c 1 rfl) rfl) (in_w 1 1 (in_c 1 rfl) rfl))))
                · skip
                  have i88 := z_ne 1 1 c88 i87 rfl
                  refine g_iload 93 (gd rfl) rfl rfl ?_
                  refine g_goto 98 (gd rfl) rfl ?_
                  refine g_istore 100 (gd rfl) rfl (Nat.le_of_ble_eq_true rfl) ?_
                  refine g_iinc 103 (gd rfl) rfl rfl (Nat.le_of_ble_eq_true rfl) (fun z100 e100 => ?_)
                  have i100 := in_add 1 160 e100 i33 (in_c 1 rfl) rfl rfl
                  refine g_goto 28 (gd rfl) rfl ?_
                  have l28 := rl_1 l28_2 (t_add e57 j28_2 (in_c 1 rfl) rfl) (in_c 1 rfl) (t_add e100 i33 (in_c 1 rfl) rfl) (in_c 1 rfl) rfl
                  have l28a := rl_1 l28_3 (t_add e74 j28_3 (in_c 1 rfl) rfl) (in_c 1 rfl) (t_add e100 i33 (in_c 1 rfl) rfl) (in_c 1 rfl) rfl
                  exact gg_w (by first | exact Nat.le_add_right _ _ | exact gw2 | exact gw3 | exact gwe rfl | exact gwf rfl | exact gwg rfl | exact gwh rfl | omega) (gg_f (gf_cons rfl (gf_cons rfl (gf_cons rfl (gf_cons rfl (gf_cons rfl (gf_cons rfl gf_nil)))))) (ih28 sc28 z57 z74 y28_5 z100 hIc28 hFc28 (in_w 0 3 j28_1 rfl) (rl_w 0 160 l28 i57 (in_w 0 160 i100 rfl) rfl) (rl_w 0 160 l28a i74 (in_w 0 160 i100 rfl) rfl) (in_w (-1) 159 i33 rfl) (in_w 0 160 i100 rfl) l28 l28a (m_up mm28 (t_add e100 i33 (in_c 1 rfl) rfl) (in_w 1 1 (in_c 1 rfl) rfl))))
  refine g_enter2 (k := 289) (N := 145801) (by first | exact dq1 hd rfl | exact dq0 hd rfl | exact dq2 hd rfl | exact dq3 hd rfl | omega) rfl (Nat.le_of_ble_eq_true rfl) ?_
  refine g_aload_n 1 (gd rfl) rfl rfl ?_
  refine g_iload_n 2 (gd rfl) rfl rfl ?_
  refine g_i2l 3 (gd rfl) rfl (fun z2 e2 => ?_)
  have i2 := l_i e2 (i_rng x1)
  refine g_lconst 0 4 (gd rfl) rfl rfl ?_
  refine g_ldc2_w 3 7 (gd rfl) rfl rfl ?_
  refine g_calls (As := [.long z2, .long (Int64.ofInt 0), .long (Int64.ofInt 3)]) (r := [.ref (A 109)]) 10 (gd rfl) rfl rfl rfl rfl rfl (Nat.le_of_ble_eq_true rfl) (mc := 0) (ms := 0) (Nat.zero_le _) (Nat.zero_le _) (P := fun v u => _) ?_ (fun v u h => h)
  intro po7 xx7 hp7 hx7
  refine g_enter2 (k := 269) (N := 300) (by first | exact dq1 hd rfl | exact dq0 hd rfl | exact dq2 hd rfl | exact dq3 hd rfl | omega) rfl (Nat.le_of_ble_eq_true rfl) ?_
  refine g_lload_n 1 (gd rfl) rfl rfl ?_
  refine g_lload_n 2 (gd rfl) rfl rfl ?_
  refine g_lcmp 3 (gd rfl) rfl (fun z7x2 e7x2 => ?_)
  have i7x2 := lc_in e7x2
  refine g_if_lt 6 17 (gd rfl) rfl rfl (fun c7x3 => ?_) (fun c7x3 => ?_)
  · skip
    have i7x3 := z_lt (-1) (-1) c7x3 i7x2 rfl
    have c7x3a := lc_lt e7x2 c7x3
    have i7x3a := lr_lt1 (-2147483648) (-1) c7x3a i2 (l_c 0 rfl) rfl
    have i7x3b := l_b e2 i7x3a
    refine g_iconst 0 18 (gd rfl) rfl rfl ?_
    refine g_ireturn (gd rfl) rfl (nb01 (in_w 0 1 (in_c 0 rfl) rfl)) (hp7 _ _ ?_)
    show GG _ _ _ _ _ _ _ _ [.int (Int32.ofInt 0), .ref (A 109)] _ _ _
    refine g_callv (X := _) (As := [.int (Int32.ofInt 0)]) (r := []) (b := A 109) (q := 109) 13 (gd rfl) rfl rfl rfl rfl rfl (ww_o rfl) (Nat.le_of_ble_eq_true rfl) (mc := 0) (ms := 0) (Nat.zero_le _) (Nat.zero_le _) (P := fun v u => _) ?_ (fun e u h => h) (fun v u h => h)
    intro po10 xx10 hp10 hx10
    refine g_enter2 (k := 271) (N := 300) (by first | exact dq1 hd rfl | exact dq0 hd rfl | exact dq2 hd rfl | exact dq3 hd rfl | omega) rfl (Nat.le_of_ble_eq_true rfl) ?_
    refine g_aload_n 1 (gd rfl) rfl rfl ?_
    refine g_iload_n 2 (gd rfl) rfl rfl ?_
    refine g_iconst 1 3 (gd rfl) rfl rfl ?_
    refine g_callv (X := _) (As := [.int (Int32.ofInt 0), .int (Int32.ofInt 1)]) (r := []) (b := A 109) (q := 109) 6 (gd rfl) rfl rfl rfl rfl rfl (ww_o rfl) (Nat.le_of_ble_eq_true rfl) (mc := 0) (ms := 0) (Nat.zero_le _) (Nat.zero_le _) (P := fun v u => _) ?_ (fun e u h => h) (fun v u h => h)
    intro po10x3 xx10x3 hp10x3 hx10x3
    refine g_enter2 (k := 270) (N := 300) (by first | exact dq1 hd rfl | exact dq0 hd rfl | exact dq2 hd rfl | exact dq3 hd rfl | omega) rfl (Nat.le_of_ble_eq_true rfl) ?_
    refine g_aload_n 1 (gd rfl) rfl rfl ?_
    refine g_iload_n 2 (gd rfl) rfl rfl ?_
    refine g_if_ne 5 9 (gd rfl) rfl rfl (fun c10x3x2 => ?_) (fun c10x3x2 => ?_)
    · skip
      exact zn_ne c10x3x2 (in_c 0 rfl) rfl
    · skip
      refine g_iconst 1 6 (gd rfl) rfl rfl ?_
      refine g_goto 18 (gd rfl) rfl ?_
      refine g_putI 21 (gd rfl) rfl rfl rfl rfl ?_
      have hI10x3x18 := inv_sF (q := 109) (j := 0) hI rfl (in_w 0 2 (in_c 1 rfl) rfl)
      refine g_aload_n 22 (gd rfl) rfl rfl ?_
      refine g_getI 25 (gd rfl) rfl rfl rfl (fun z10x3x22 e10x3x22 => ?_)
      have q10x3x22 : (Int32.ofInt 1) = z10x3x22 := (sF_get).trans e10x3x22.symm
      subst q10x3x22
      refine g_if_le 28 32 (gd rfl) rfl rfl (fun c10x3x25 => ?_) (fun c10x3x25 => ?_)
      · skip
        exact zn_le c10x3x25 (in_c 1 rfl) rfl
      · skip
        refine g_iconst 1 29 (gd rfl) rfl rfl ?_
        refine g_goto 33 (gd rfl) rfl ?_
        refine g_ireturn (gd rfl) rfl (nb01 (in_w 0 1 (in_c 1 rfl) rfl)) (hp10x3 _ _ ?_)
        show GG _ _ _ _ _ _ _ _ [.int (Int32.ofInt 1)] _ _ _
        refine g_ireturn (gd rfl) rfl (nb01 (in_w 0 1 (in_c 1 rfl) rfl)) (hp10 _ _ ?_)
        show GG _ _ _ _ _ _ _ _ [.int (Int32.ofInt 1)] _ _ _
        refine g_if_eq 16 18 (gd rfl) rfl rfl (fun c13 => ?_) (fun c13 => ?_)
        · skip
          exact zn_eq c13 (in_c 1 rfl) rfl
        · skip
          refine g_iconst 0 17 (gd rfl) rfl rfl ?_
          exact g_ireturn (gd rfl) rfl rfl (hP _ _ ⟨(sF s 109 0 (Int32.ofInt 1)), hI10x3x18, (fr_sF rfl fr_rf), (Int32.ofInt 0), rfl, rfl, in_w (-1) 160 (in_c 0 rfl) rfl⟩)
  · skip
    have i7x3 := z_ge 0 1 c7x3 i7x2 rfl
    have c7x3a := lc_ge e7x2 c7x3
    have i7x3a := lr_le2 0 2147483647 c7x3a (l_c 0 rfl) i2 rfl
    have i7x3b := l_b e2 i7x3a
    refine g_lload_n 7 (gd rfl) rfl rfl ?_
    refine g_lload 9 (gd rfl) rfl rfl ?_
    refine g_lcmp 10 (gd rfl) rfl (fun z7x9 e7x9 => ?_)
    have i7x9 := lc_in e7x9
    refine g_if_gt 13 17 (gd rfl) rfl rfl (fun c7x10 => ?_) (fun c7x10 => ?_)
    · skip
      have i7x10 := z_gt 1 1 c7x10 i7x9 rfl
      have c7x10a := lc_gt e7x9 c7x10
      have i7x10a := lr_lt2 4 2147483647 c7x10a (l_c 3 rfl) i7x3a rfl
      have i7x10b := l_b e2 i7x10a
      refine g_iconst 0 18 (gd rfl) rfl rfl ?_
      refine g_ireturn (gd rfl) rfl (nb01 (in_w 0 1 (in_c 0 rfl) rfl)) (hp7 _ _ ?_)
      show GG _ _ _ _ _ _ _ _ [.int (Int32.ofInt 0), .ref (A 109)] _ _ _
      refine g_callv (X := _) (As := [.int (Int32.ofInt 0)]) (r := []) (b := A 109) (q := 109) 13 (gd rfl) rfl rfl rfl rfl rfl (ww_o rfl) (Nat.le_of_ble_eq_true rfl) (mc := 0) (ms := 0) (Nat.zero_le _) (Nat.zero_le _) (P := fun v u => _) ?_ (fun e u h => h) (fun v u h => h)
      intro po10 xx10 hp10 hx10
      refine g_enter2 (k := 271) (N := 300) (by first | exact dq1 hd rfl | exact dq0 hd rfl | exact dq2 hd rfl | exact dq3 hd rfl | omega) rfl (Nat.le_of_ble_eq_true rfl) ?_
      refine g_aload_n 1 (gd rfl) rfl rfl ?_
      refine g_iload_n 2 (gd rfl) rfl rfl ?_
      refine g_iconst 1 3 (gd rfl) rfl rfl ?_
      refine g_callv (X := _) (As := [.int (Int32.ofInt 0), .int (Int32.ofInt 1)]) (r := []) (b := A 109) (q := 109) 6 (gd rfl) rfl rfl rfl rfl rfl (ww_o rfl) (Nat.le_of_ble_eq_true rfl) (mc := 0) (ms := 0) (Nat.zero_le _) (Nat.zero_le _) (P := fun v u => _) ?_ (fun e u h => h) (fun v u h => h)
      intro po10x3 xx10x3 hp10x3 hx10x3
      refine g_enter2 (k := 270) (N := 300) (by first | exact dq1 hd rfl | exact dq0 hd rfl | exact dq2 hd rfl | exact dq3 hd rfl | omega) rfl (Nat.le_of_ble_eq_true rfl) ?_
      refine g_aload_n 1 (gd rfl) rfl rfl ?_
      refine g_iload_n 2 (gd rfl) rfl rfl ?_
      refine g_if_ne 5 9 (gd rfl) rfl rfl (fun c10x3x2 => ?_) (fun c10x3x2 => ?_)
      · skip
        exact zn_ne c10x3x2 (in_c 0 rfl) rfl
      · skip
        refine g_iconst 1 6 (gd rfl) rfl rfl ?_
        refine g_goto 18 (gd rfl) rfl ?_
        refine g_putI 21 (gd rfl) rfl rfl rfl rfl ?_
        have hI10x3x18 := inv_sF (q := 109) (j := 0) hI rfl (in_w 0 2 (in_c 1 rfl) rfl)
        refine g_aload_n 22 (gd rfl) rfl rfl ?_
        refine g_getI 25 (gd rfl) rfl rfl rfl (fun z10x3x22 e10x3x22 => ?_)
        have q10x3x22 : (Int32.ofInt 1) = z10x3x22 := (sF_get).trans e10x3x22.symm
        subst q10x3x22
        refine g_if_le 28 32 (gd rfl) rfl rfl (fun c10x3x25 => ?_) (fun c10x3x25 => ?_)
        · skip
          exact zn_le c10x3x25 (in_c 1 rfl) rfl
        · skip
          refine g_iconst 1 29 (gd rfl) rfl rfl ?_
          refine g_goto 33 (gd rfl) rfl ?_
          refine g_ireturn (gd rfl) rfl (nb01 (in_w 0 1 (in_c 1 rfl) rfl)) (hp10x3 _ _ ?_)
          show GG _ _ _ _ _ _ _ _ [.int (Int32.ofInt 1)] _ _ _
          refine g_ireturn (gd rfl) rfl (nb01 (in_w 0 1 (in_c 1 rfl) rfl)) (hp10 _ _ ?_)
          show GG _ _ _ _ _ _ _ _ [.int (Int32.ofInt 1)] _ _ _
          refine g_if_eq 16 18 (gd rfl) rfl rfl (fun c13 => ?_) (fun c13 => ?_)
          · skip
            exact zn_eq c13 (in_c 1 rfl) rfl
          · skip
            refine g_iconst 0 17 (gd rfl) rfl rfl ?_
            exact g_ireturn (gd rfl) rfl rfl (hP _ _ ⟨(sF s 109 0 (Int32.ofInt 1)), hI10x3x18, (fr_sF rfl fr_rf), (Int32.ofInt 0), rfl, rfl, in_w (-1) 160 (in_c 0 rfl) rfl⟩)
    · skip
      have i7x10 := z_le (-1) 0 c7x10 i7x9 rfl
      have c7x10a := lc_le e7x9 c7x10
      have i7x10a := lr_le1 0 3 c7x10a i7x3a (l_c 3 rfl) rfl
      have i7x10b := l_b e2 i7x10a
      refine g_iconst 1 14 (gd rfl) rfl rfl ?_
      refine g_goto 18 (gd rfl) rfl ?_
      refine g_ireturn (gd rfl) rfl (nb01 (in_w 0 1 (in_c 1 rfl) rfl)) (hp7 _ _ ?_)
      show GG _ _ _ _ _ _ _ _ [.int (Int32.ofInt 1), .ref (A 109)] _ _ _
      refine g_callv (X := _) (As := [.int (Int32.ofInt 1)]) (r := []) (b := A 109) (q := 109) 13 (gd rfl) rfl rfl rfl rfl rfl (ww_o rfl) (Nat.le_of_ble_eq_true rfl) (mc := 0) (ms := 0) (Nat.zero_le _) (Nat.zero_le _) (P := fun v u => _) ?_ (fun e u h => h) (fun v u h => h)
      intro po10 xx10 hp10 hx10
      refine g_enter2 (k := 271) (N := 300) (by first | exact dq1 hd rfl | exact dq0 hd rfl | exact dq2 hd rfl | exact dq3 hd rfl | omega) rfl (Nat.le_of_ble_eq_true rfl) ?_
      refine g_aload_n 1 (gd rfl) rfl rfl ?_
      refine g_iload_n 2 (gd rfl) rfl rfl ?_
      refine g_iconst 1 3 (gd rfl) rfl rfl ?_
      refine g_callv (X := _) (As := [.int (Int32.ofInt 1), .int (Int32.ofInt 1)]) (r := []) (b := A 109) (q := 109) 6 (gd rfl) rfl rfl rfl rfl rfl (ww_o rfl) (Nat.le_of_ble_eq_true rfl) (mc := 0) (ms := 0) (Nat.zero_le _) (Nat.zero_le _) (P := fun v u => _) ?_ (fun e u h => h) (fun v u h => h)
      intro po10x3 xx10x3 hp10x3 hx10x3
      refine g_enter2 (k := 270) (N := 300) (by first | exact dq1 hd rfl | exact dq0 hd rfl | exact dq2 hd rfl | exact dq3 hd rfl | omega) rfl (Nat.le_of_ble_eq_true rfl) ?_
      refine g_aload_n 1 (gd rfl) rfl rfl ?_
      refine g_iload_n 2 (gd rfl) rfl rfl ?_
      refine g_if_ne 5 9 (gd rfl) rfl rfl (fun c10x3x2 => ?_) (fun c10x3x2 => ?_)
      · skip
        refine g_iload_n 10 (gd rfl) rfl rfl ?_
        refine g_if_ne 13 17 (gd rfl) rfl rfl (fun c10x3x10 => ?_) (fun c10x3x10 => ?_)
        · skip
          refine g_iconst 0 18 (gd rfl) rfl rfl ?_
          refine g_putI 21 (gd rfl) rfl rfl rfl rfl ?_
          have hI10x3x18 := inv_sF (q := 109) (j := 0) hI rfl (in_w 0 2 (in_c 0 rfl) rfl)
          refine g_aload_n 22 (gd rfl) rfl rfl ?_
          refine g_getI 25 (gd rfl) rfl rfl rfl (fun z10x3x22 e10x3x22 => ?_)
          have q10x3x22 : (Int32.ofInt 0) = z10x3x22 := (sF_get).trans e10x3x22.symm
          subst q10x3x22
          refine g_if_le 28 32 (gd rfl) rfl rfl (fun c10x3x25 => ?_) (fun c10x3x25 => ?_)
          · skip
            refine g_iconst 0 33 (gd rfl) rfl rfl ?_
            refine g_ireturn (gd rfl) rfl (nb01 (in_w 0 1 (in_c 0 rfl) rfl)) (hp10x3 _ _ ?_)
            show GG _ _ _ _ _ _ _ _ [.int (Int32.ofInt 0)] _ _ _
            refine g_ireturn (gd rfl) rfl (nb01 (in_w 0 1 (in_c 0 rfl) rfl)) (hp10 _ _ ?_)
            show GG _ _ _ _ _ _ _ _ [.int (Int32.ofInt 0)] _ _ _
            refine g_if_eq 16 18 (gd rfl) rfl rfl (fun c13 => ?_) (fun c13 => ?_)
            · skip
              refine g_iconst 0 19 (gd rfl) rfl rfl ?_
              refine g_istore_n 20 (gd rfl) rfl (Nat.le_of_ble_eq_true rfl) ?_
              refine g_iconst 0 21 (gd rfl) rfl rfl ?_
              refine g_istore_n 22 (gd rfl) rfl (Nat.le_of_ble_eq_true rfl) ?_
              refine g_iconst (-1) 23 (gd rfl) rfl rfl ?_
              refine g_istore 25 (gd rfl) rfl (Nat.le_of_ble_eq_true rfl) ?_
              refine g_iconst 0 26 (gd rfl) rfl rfl ?_
              refine g_istore 28 (gd rfl) rfl (Nat.le_of_ble_eq_true rfl) ?_
              have l28 := rl_in 0 (in_c 0 rfl) (in_c 0 rfl) rfl
              have l28a := rl_in 0 (in_c 0 rfl) (in_c 0 rfl) rfl
              exact gg_w (by first | exact Nat.le_of_ble_eq_true rfl | omega) (gg_f (gf_cons rfl (gf_cons rfl (gf_cons rfl (gf_cons rfl (gf_cons rfl (gf_cons rfl gf_nil)))))) (ct28 161 (sF s 109 0 (Int32.ofInt 0)) (Int32.ofInt 0) (Int32.ofInt 0) (Int32.ofInt (-1)) (Int32.ofInt 0) hI10x3x18 (fr_sF rfl fr_rf) (in_w 0 3 i7x10b rfl) (rl_w 0 160 l28 (in_c 0 rfl) (in_w 0 160 (in_c 0 rfl) rfl) rfl) (rl_w 0 160 l28a (in_c 0 rfl) (in_w 0 160 (in_c 0 rfl) rfl) rfl) (in_w (-1) 159 (in_c (-1) rfl) rfl) (in_w 0 160 (in_c 0 rfl) rfl) l28 l28a (m_in 161 (in_w 0 160 (in_c 0 rfl) rfl) rfl)))
            · skip
              exact zn_ne c13 (in_c 0 rfl) rfl
          · skip
            exact zn_gt c10x3x25 (in_c 0 rfl) rfl
        · skip
          exact zn_eq c10x3x10 (in_c 1 rfl) rfl
      · skip
        exact zn_eq c10x3x2 (in_c 1 rfl) rfl

def fm_290 : FM := ([], [], [(109, 0)], [])
/-- GraphHouseModel.told -/
theorem k_290 {Z : AmZ} {A : Nat → Nat} {s : GS} {ex : va_W} {d : Nat} {X : AmX} {x1 : Int32} {x2 : Int32} (hd : 4 ≤ d) (hI : Inv s)  : GC Z d 290 [.ref (A 109), .int x1, .int x2] (WW Z A s ++ ex) 0 0 (fun v u => ∃ t : GS, Inv t ∧ Fr fm_290 s t ∧ ∃ z : Int64, v = some (.long z) ∧ u = WW Z A t ++ ex) X := by
  intro post xp hP hX
  obtain ⟨u_109_19, e_109_19⟩ : ∃ w, w = s.2.2.1 109 19 := ⟨_, rfl⟩
  have ro_109_19 := inv_F hI 0 160 rfl e_109_19
  refine g_enter2 (k := 290) (N := 900) (by first | exact dq1 hd rfl | exact dq0 hd rfl | exact dq2 hd rfl | exact dq3 hd rfl | omega) rfl (Nat.le_of_ble_eq_true rfl) ?_
  refine g_aload_n 1 (gd rfl) rfl rfl ?_
  refine g_iload_n 2 (gd rfl) rfl rfl ?_
  refine g_i2l 3 (gd rfl) rfl (fun z2 e2 => ?_)
  have i2 := l_i e2 (i_rng x1)
  refine g_lconst 0 4 (gd rfl) rfl rfl ?_
  refine g_ldc2_w 159 7 (gd rfl) rfl rfl ?_
  refine g_calls (As := [.long z2, .long (Int64.ofInt 0), .long (Int64.ofInt 159)]) (r := [.ref (A 109)]) 10 (gd rfl) rfl rfl rfl rfl rfl (Nat.le_of_ble_eq_true rfl) (mc := 0) (ms := 0) (Nat.zero_le _) (Nat.zero_le _) (P := fun v u => _) ?_ (fun v u h => h)
  intro po7 xx7 hp7 hx7
  refine g_enter2 (k := 269) (N := 300) (by first | exact dq1 hd rfl | exact dq0 hd rfl | exact dq2 hd rfl | exact dq3 hd rfl | omega) rfl (Nat.le_of_ble_eq_true rfl) ?_
  refine g_lload_n 1 (gd rfl) rfl rfl ?_
  refine g_lload_n 2 (gd rfl) rfl rfl ?_
  refine g_lcmp 3 (gd rfl) rfl (fun z7x2 e7x2 => ?_)
  have i7x2 := lc_in e7x2
  refine g_if_lt 6 17 (gd rfl) rfl rfl (fun c7x3 => ?_) (fun c7x3 => ?_)
  · skip
    have i7x3 := z_lt (-1) (-1) c7x3 i7x2 rfl
    have c7x3a := lc_lt e7x2 c7x3
    have i7x3a := lr_lt1 (-2147483648) (-1) c7x3a i2 (l_c 0 rfl) rfl
    have i7x3b := l_b e2 i7x3a
    refine g_iconst 0 18 (gd rfl) rfl rfl ?_
    refine g_ireturn (gd rfl) rfl (nb01 (in_w 0 1 (in_c 0 rfl) rfl)) (hp7 _ _ ?_)
    show GG _ _ _ _ _ _ _ _ [.int (Int32.ofInt 0), .ref (A 109)] _ _ _
    refine g_if_eq 13 29 (gd rfl) rfl rfl (fun c10 => ?_) (fun c10 => ?_)
    · skip
      refine g_iconst 0 30 (gd rfl) rfl rfl ?_
      refine g_callv (X := _) (As := [.int (Int32.ofInt 0)]) (r := []) (b := A 109) (q := 109) 33 (gd rfl) rfl rfl rfl rfl rfl (ww_o rfl) (Nat.le_of_ble_eq_true rfl) (mc := 0) (ms := 0) (Nat.zero_le _) (Nat.zero_le _) (P := fun v u => _) ?_ (fun e u h => h) (fun v u h => h)
      intro po30 xx30 hp30 hx30
      refine g_enter2 (k := 271) (N := 300) (by first | exact dq1 hd rfl | exact dq0 hd rfl | exact dq2 hd rfl | exact dq3 hd rfl | omega) rfl (Nat.le_of_ble_eq_true rfl) ?_
      refine g_aload_n 1 (gd rfl) rfl rfl ?_
      refine g_iload_n 2 (gd rfl) rfl rfl ?_
      refine g_iconst 1 3 (gd rfl) rfl rfl ?_
      refine g_callv (X := _) (As := [.int (Int32.ofInt 0), .int (Int32.ofInt 1)]) (r := []) (b := A 109) (q := 109) 6 (gd rfl) rfl rfl rfl rfl rfl (ww_o rfl) (Nat.le_of_ble_eq_true rfl) (mc := 0) (ms := 0) (Nat.zero_le _) (Nat.zero_le _) (P := fun v u => _) ?_ (fun e u h => h) (fun v u h => h)
      intro po30x3 xx30x3 hp30x3 hx30x3
      refine g_enter2 (k := 270) (N := 300) (by first | exact dq1 hd rfl | exact dq0 hd rfl | exact dq2 hd rfl | exact dq3 hd rfl | omega) rfl (Nat.le_of_ble_eq_true rfl) ?_
      refine g_aload_n 1 (gd rfl) rfl rfl ?_
      refine g_iload_n 2 (gd rfl) rfl rfl ?_
      refine g_if_ne 5 9 (gd rfl) rfl rfl (fun c30x3x2 => ?_) (fun c30x3x2 => ?_)
      · skip
        exact zn_ne c30x3x2 (in_c 0 rfl) rfl
      · skip
        refine g_iconst 1 6 (gd rfl) rfl rfl ?_
        refine g_goto 18 (gd rfl) rfl ?_
        refine g_putI 21 (gd rfl) rfl rfl rfl rfl ?_
        have hI30x3x18 := inv_sF (q := 109) (j := 0) hI rfl (in_w 0 2 (in_c 1 rfl) rfl)
        refine g_aload_n 22 (gd rfl) rfl rfl ?_
        refine g_getI 25 (gd rfl) rfl rfl rfl (fun z30x3x22 e30x3x22 => ?_)
        have q30x3x22 : (Int32.ofInt 1) = z30x3x22 := (sF_get).trans e30x3x22.symm
        subst q30x3x22
        refine g_if_le 28 32 (gd rfl) rfl rfl (fun c30x3x25 => ?_) (fun c30x3x25 => ?_)
        · skip
          exact zn_le c30x3x25 (in_c 1 rfl) rfl
        · skip
          refine g_iconst 1 29 (gd rfl) rfl rfl ?_
          refine g_goto 33 (gd rfl) rfl ?_
          refine g_ireturn (gd rfl) rfl (nb01 (in_w 0 1 (in_c 1 rfl) rfl)) (hp30x3 _ _ ?_)
          show GG _ _ _ _ _ _ _ _ [.int (Int32.ofInt 1)] _ _ _
          refine g_ireturn (gd rfl) rfl (nb01 (in_w 0 1 (in_c 1 rfl) rfl)) (hp30 _ _ ?_)
          show GG _ _ _ _ _ _ _ _ [.int (Int32.ofInt 1)] _ _ _
          refine g_if_eq 36 38 (gd rfl) rfl rfl (fun c33 => ?_) (fun c33 => ?_)
          · skip
            exact zn_eq c33 (in_c 1 rfl) rfl
          · skip
            refine g_lconst 0 37 (gd rfl) rfl rfl ?_
            exact g_lreturn (gd rfl) rfl (hP _ _ ⟨(sF s 109 0 (Int32.ofInt 1)), hI30x3x18, (fr_sF rfl fr_rf), (Int64.ofInt 0), rfl, rfl⟩)
    · skip
      exact zn_ne c10 (in_c 0 rfl) rfl
  · skip
    have i7x3 := z_ge 0 1 c7x3 i7x2 rfl
    have c7x3a := lc_ge e7x2 c7x3
    have i7x3a := lr_le2 0 2147483647 c7x3a (l_c 0 rfl) i2 rfl
    have i7x3b := l_b e2 i7x3a
    refine g_lload_n 7 (gd rfl) rfl rfl ?_
    refine g_lload 9 (gd rfl) rfl rfl ?_
    refine g_lcmp 10 (gd rfl) rfl (fun z7x9 e7x9 => ?_)
    have i7x9 := lc_in e7x9
    refine g_if_gt 13 17 (gd rfl) rfl rfl (fun c7x10 => ?_) (fun c7x10 => ?_)
    · skip
      have i7x10 := z_gt 1 1 c7x10 i7x9 rfl
      have c7x10a := lc_gt e7x9 c7x10
      have i7x10a := lr_lt2 160 2147483647 c7x10a (l_c 159 rfl) i7x3a rfl
      have i7x10b := l_b e2 i7x10a
      refine g_iconst 0 18 (gd rfl) rfl rfl ?_
      refine g_ireturn (gd rfl) rfl (nb01 (in_w 0 1 (in_c 0 rfl) rfl)) (hp7 _ _ ?_)
      show GG _ _ _ _ _ _ _ _ [.int (Int32.ofInt 0), .ref (A 109)] _ _ _
      refine g_if_eq 13 29 (gd rfl) rfl rfl (fun c10 => ?_) (fun c10 => ?_)
      · skip
        refine g_iconst 0 30 (gd rfl) rfl rfl ?_
        refine g_callv (X := _) (As := [.int (Int32.ofInt 0)]) (r := []) (b := A 109) (q := 109) 33 (gd rfl) rfl rfl rfl rfl rfl (ww_o rfl) (Nat.le_of_ble_eq_true rfl) (mc := 0) (ms := 0) (Nat.zero_le _) (Nat.zero_le _) (P := fun v u => _) ?_ (fun e u h => h) (fun v u h => h)
        intro po30 xx30 hp30 hx30
        refine g_enter2 (k := 271) (N := 300) (by first | exact dq1 hd rfl | exact dq0 hd rfl | exact dq2 hd rfl | exact dq3 hd rfl | omega) rfl (Nat.le_of_ble_eq_true rfl) ?_
        refine g_aload_n 1 (gd rfl) rfl rfl ?_
        refine g_iload_n 2 (gd rfl) rfl rfl ?_
        refine g_iconst 1 3 (gd rfl) rfl rfl ?_
        refine g_callv (X := _) (As := [.int (Int32.ofInt 0), .int (Int32.ofInt 1)]) (r := []) (b := A 109) (q := 109) 6 (gd rfl) rfl rfl rfl rfl rfl (ww_o rfl) (Nat.le_of_ble_eq_true rfl) (mc := 0) (ms := 0) (Nat.zero_le _) (Nat.zero_le _) (P := fun v u => _) ?_ (fun e u h => h) (fun v u h => h)
        intro po30x3 xx30x3 hp30x3 hx30x3
        refine g_enter2 (k := 270) (N := 300) (by first | exact dq1 hd rfl | exact dq0 hd rfl | exact dq2 hd rfl | exact dq3 hd rfl | omega) rfl (Nat.le_of_ble_eq_true rfl) ?_
        refine g_aload_n 1 (gd rfl) rfl rfl ?_
        refine g_iload_n 2 (gd rfl) rfl rfl ?_
        refine g_if_ne 5 9 (gd rfl) rfl rfl (fun c30x3x2 => ?_) (fun c30x3x2 => ?_)
        · skip
          exact zn_ne c30x3x2 (in_c 0 rfl) rfl
        · skip
          refine g_iconst 1 6 (gd rfl) rfl rfl ?_
          refine g_goto 18 (gd rfl) rfl ?_
          refine g_putI 21 (gd rfl) rfl rfl rfl rfl ?_
          have hI30x3x18 := inv_sF (q := 109) (j := 0) hI rfl (in_w 0 2 (in_c 1 rfl) rfl)
          refine g_aload_n 22 (gd rfl) rfl rfl ?_
          refine g_getI 25 (gd rfl) rfl rfl rfl (fun z30x3x22 e30x3x22 => ?_)
          have q30x3x22 : (Int32.ofInt 1) = z30x3x22 := (sF_get).trans e30x3x22.symm
          subst q30x3x22
          refine g_if_le 28 32 (gd rfl) rfl rfl (fun c30x3x25 => ?_) (fun c30x3x25 => ?_)
          · skip
            exact zn_le c30x3x25 (in_c 1 rfl) rfl
          · skip
            refine g_iconst 1 29 (gd rfl) rfl rfl ?_
            refine g_goto 33 (gd rfl) rfl ?_
            refine g_ireturn (gd rfl) rfl (nb01 (in_w 0 1 (in_c 1 rfl) rfl)) (hp30x3 _ _ ?_)
            show GG _ _ _ _ _ _ _ _ [.int (Int32.ofInt 1)] _ _ _
            refine g_ireturn (gd rfl) rfl (nb01 (in_w 0 1 (in_c 1 rfl) rfl)) (hp30 _ _ ?_)
            show GG _ _ _ _ _ _ _ _ [.int (Int32.ofInt 1)] _ _ _
            refine g_if_eq 36 38 (gd rfl) rfl rfl (fun c33 => ?_) (fun c33 => ?_)
            · skip
              exact zn_eq c33 (in_c 1 rfl) rfl
            · skip
              refine g_lconst 0 37 (gd rfl) rfl rfl ?_
              exact g_lreturn (gd rfl) rfl (hP _ _ ⟨(sF s 109 0 (Int32.ofInt 1)), hI30x3x18, (fr_sF rfl fr_rf), (Int64.ofInt 0), rfl, rfl⟩)
      · skip
        exact zn_ne c10 (in_c 0 rfl) rfl
    · skip
      have i7x10 := z_le (-1) 0 c7x10 i7x9 rfl
      have c7x10a := lc_le e7x9 c7x10
      have i7x10a := lr_le1 0 159 c7x10a i7x3a (l_c 159 rfl) rfl
      have i7x10b := l_b e2 i7x10a
      refine g_iconst 1 14 (gd rfl) rfl rfl ?_
      refine g_goto 18 (gd rfl) rfl ?_
      refine g_ireturn (gd rfl) rfl (nb01 (in_w 0 1 (in_c 1 rfl) rfl)) (hp7 _ _ ?_)
      show GG _ _ _ _ _ _ _ _ [.int (Int32.ofInt 1), .ref (A 109)] _ _ _
      refine g_if_eq 13 29 (gd rfl) rfl rfl (fun c10 => ?_) (fun c10 => ?_)
      · skip
        exact zn_eq c10 (in_c 1 rfl) rfl
      · skip
        refine g_iload_n 14 (gd rfl) rfl rfl ?_
        refine g_i2l 15 (gd rfl) rfl (fun z14 e14 => ?_)
        have i14 := l_i e14 (i_rng x2)
        refine g_lconst 0 16 (gd rfl) rfl rfl ?_
        refine g_ldc2_w 4 19 (gd rfl) rfl rfl ?_
        refine g_calls (As := [.long z14, .long (Int64.ofInt 0), .long (Int64.ofInt 4)]) (r := [.ref (A 109)]) 22 (gd rfl) rfl rfl rfl rfl rfl (Nat.le_of_ble_eq_true rfl) (mc := 0) (ms := 0) (Nat.zero_le _) (Nat.zero_le _) (P := fun v u => _) ?_ (fun v u h => h)
        intro po19 xx19 hp19 hx19
        refine g_enter2 (k := 269) (N := 300) (by first | exact dq1 hd rfl | exact dq0 hd rfl | exact dq2 hd rfl | exact dq3 hd rfl | omega) rfl (Nat.le_of_ble_eq_true rfl) ?_
        refine g_lload_n 1 (gd rfl) rfl rfl ?_
        refine g_lload_n 2 (gd rfl) rfl rfl ?_
        refine g_lcmp 3 (gd rfl) rfl (fun z19x2 e19x2 => ?_)
        have i19x2 := lc_in e19x2
        refine g_if_lt 6 17 (gd rfl) rfl rfl (fun c19x3 => ?_) (fun c19x3 => ?_)
        · skip
          have i19x3 := z_lt (-1) (-1) c19x3 i19x2 rfl
          have c19x3a := lc_lt e19x2 c19x3
          have i19x3a := lr_lt1 (-2147483648) (-1) c19x3a i14 (l_c 0 rfl) rfl
          have i19x3b := l_b e14 i19x3a
          refine g_iconst 0 18 (gd rfl) rfl rfl ?_
          refine g_ireturn (gd rfl) rfl (nb01 (in_w 0 1 (in_c 0 rfl) rfl)) (hp19 _ _ ?_)
          show GG _ _ _ _ _ _ _ _ [.int (Int32.ofInt 0), .ref (A 109)] _ _ _
          refine g_if_eq 25 29 (gd rfl) rfl rfl (fun c22 => ?_) (fun c22 => ?_)
          · skip
            refine g_iconst 0 30 (gd rfl) rfl rfl ?_
            refine g_callv (X := _) (As := [.int (Int32.ofInt 0)]) (r := []) (b := A 109) (q := 109) 33 (gd rfl) rfl rfl rfl rfl rfl (ww_o rfl) (Nat.le_of_ble_eq_true rfl) (mc := 0) (ms := 0) (Nat.zero_le _) (Nat.zero_le _) (P := fun v u => _) ?_ (fun e u h => h) (fun v u h => h)
            intro po30 xx30 hp30 hx30
            refine g_enter2 (k := 271) (N := 300) (by first | exact dq1 hd rfl | exact dq0 hd rfl | exact dq2 hd rfl | exact dq3 hd rfl | omega) rfl (Nat.le_of_ble_eq_true rfl) ?_
            refine g_aload_n 1 (gd rfl) rfl rfl ?_
            refine g_iload_n 2 (gd rfl) rfl rfl ?_
            refine g_iconst 1 3 (gd rfl) rfl rfl ?_
            refine g_callv (X := _) (As := [.int (Int32.ofInt 0), .int (Int32.ofInt 1)]) (r := []) (b := A 109) (q := 109) 6 (gd rfl) rfl rfl rfl rfl rfl (ww_o rfl) (Nat.le_of_ble_eq_true rfl) (mc := 0) (ms := 0) (Nat.zero_le _) (Nat.zero_le _) (P := fun v u => _) ?_ (fun e u h => h) (fun v u h => h)
            intro po30x3 xx30x3 hp30x3 hx30x3
            refine g_enter2 (k := 270) (N := 300) (by first | exact dq1 hd rfl | exact dq0 hd rfl | exact dq2 hd rfl | exact dq3 hd rfl | omega) rfl (Nat.le_of_ble_eq_true rfl) ?_
            refine g_aload_n 1 (gd rfl) rfl rfl ?_
            refine g_iload_n 2 (gd rfl) rfl rfl ?_
            refine g_if_ne 5 9 (gd rfl) rfl rfl (fun c30x3x2 => ?_) (fun c30x3x2 => ?_)
            · skip
              exact zn_ne c30x3x2 (in_c 0 rfl) rfl
            · skip
              refine g_iconst 1 6 (gd rfl) rfl rfl ?_
              refine g_goto 18 (gd rfl) rfl ?_
              refine g_putI 21 (gd rfl) rfl rfl rfl rfl ?_
              have hI30x3x18 := inv_sF (q := 109) (j := 0) hI rfl (in_w 0 2 (in_c 1 rfl) rfl)
              refine g_aload_n 22 (gd rfl) rfl rfl ?_
              refine g_getI 25 (gd rfl) rfl rfl rfl (fun z30x3x22 e30x3x22 => ?_)
              have q30x3x22 : (Int32.ofInt 1) = z30x3x22 := (sF_get).trans e30x3x22.symm
              subst q30x3x22
              refine g_if_le 28 32 (gd rfl) rfl rfl (fun c30x3x25 => ?_) (fun c30x3x25 => ?_)
              · skip
                exact zn_le c30x3x25 (in_c 1 rfl) rfl
              · skip
                refine g_iconst 1 29 (gd rfl) rfl rfl ?_
                refine g_goto 33 (gd rfl) rfl ?_
                refine g_ireturn (gd rfl) rfl (nb01 (in_w 0 1 (in_c 1 rfl) rfl)) (hp30x3 _ _ ?_)
                show GG _ _ _ _ _ _ _ _ [.int (Int32.ofInt 1)] _ _ _
                refine g_ireturn (gd rfl) rfl (nb01 (in_w 0 1 (in_c 1 rfl) rfl)) (hp30 _ _ ?_)
                show GG _ _ _ _ _ _ _ _ [.int (Int32.ofInt 1)] _ _ _
                refine g_if_eq 36 38 (gd rfl) rfl rfl (fun c33 => ?_) (fun c33 => ?_)
                · skip
                  exact zn_eq c33 (in_c 1 rfl) rfl
                · skip
                  refine g_lconst 0 37 (gd rfl) rfl rfl ?_
                  exact g_lreturn (gd rfl) rfl (hP _ _ ⟨(sF s 109 0 (Int32.ofInt 1)), hI30x3x18, (fr_sF rfl fr_rf), (Int64.ofInt 0), rfl, rfl⟩)
          · skip
            exact zn_ne c22 (in_c 0 rfl) rfl
        · skip
          have i19x3 := z_ge 0 1 c19x3 i19x2 rfl
          have c19x3a := lc_ge e19x2 c19x3
          have i19x3a := lr_le2 0 2147483647 c19x3a (l_c 0 rfl) i14 rfl
          have i19x3b := l_b e14 i19x3a
          refine g_lload_n 7 (gd rfl) rfl rfl ?_
          refine g_lload 9 (gd rfl) rfl rfl ?_
          refine g_lcmp 10 (gd rfl) rfl (fun z19x9 e19x9 => ?_)
          have i19x9 := lc_in e19x9
          refine g_if_gt 13 17 (gd rfl) rfl rfl (fun c19x10 => ?_) (fun c19x10 => ?_)
          · skip
            have i19x10 := z_gt 1 1 c19x10 i19x9 rfl
            have c19x10a := lc_gt e19x9 c19x10
            have i19x10a := lr_lt2 5 2147483647 c19x10a (l_c 4 rfl) i19x3a rfl
            have i19x10b := l_b e14 i19x10a
            refine g_iconst 0 18 (gd rfl) rfl rfl ?_
            refine g_ireturn (gd rfl) rfl (nb01 (in_w 0 1 (in_c 0 rfl) rfl)) (hp19 _ _ ?_)
            show GG _ _ _ _ _ _ _ _ [.int (Int32.ofInt 0), .ref (A 109)] _ _ _
            refine g_if_eq 25 29 (gd rfl) rfl rfl (fun c22 => ?_) (fun c22 => ?_)
            · skip
              refine g_iconst 0 30 (gd rfl) rfl rfl ?_
              refine g_callv (X := _) (As := [.int (Int32.ofInt 0)]) (r := []) (b := A 109) (q := 109) 33 (gd rfl) rfl rfl rfl rfl rfl (ww_o rfl) (Nat.le_of_ble_eq_true rfl) (mc := 0) (ms := 0) (Nat.zero_le _) (Nat.zero_le _) (P := fun v u => _) ?_ (fun e u h => h) (fun v u h => h)
              intro po30 xx30 hp30 hx30
              refine g_enter2 (k := 271) (N := 300) (by first | exact dq1 hd rfl | exact dq0 hd rfl | exact dq2 hd rfl | exact dq3 hd rfl | omega) rfl (Nat.le_of_ble_eq_true rfl) ?_
              refine g_aload_n 1 (gd rfl) rfl rfl ?_
              refine g_iload_n 2 (gd rfl) rfl rfl ?_
              refine g_iconst 1 3 (gd rfl) rfl rfl ?_
              refine g_callv (X := _) (As := [.int (Int32.ofInt 0), .int (Int32.ofInt 1)]) (r := []) (b := A 109) (q := 109) 6 (gd rfl) rfl rfl rfl rfl rfl (ww_o rfl) (Nat.le_of_ble_eq_true rfl) (mc := 0) (ms := 0) (Nat.zero_le _) (Nat.zero_le _) (P := fun v u => _) ?_ (fun e u h => h) (fun v u h => h)
              intro po30x3 xx30x3 hp30x3 hx30x3
              refine g_enter2 (k := 270) (N := 300) (by first | exact dq1 hd rfl | exact dq0 hd rfl | exact dq2 hd rfl | exact dq3 hd rfl | omega) rfl (Nat.le_of_ble_eq_true rfl) ?_
              refine g_aload_n 1 (gd rfl) rfl rfl ?_
              refine g_iload_n 2 (gd rfl) rfl rfl ?_
              refine g_if_ne 5 9 (gd rfl) rfl rfl (fun c30x3x2 => ?_) (fun c30x3x2 => ?_)
              · skip
                exact zn_ne c30x3x2 (in_c 0 rfl) rfl
              · skip
                refine g_iconst 1 6 (gd rfl) rfl rfl ?_
                refine g_goto 18 (gd rfl) rfl ?_
                refine g_putI 21 (gd rfl) rfl rfl rfl rfl ?_
                have hI30x3x18 := inv_sF (q := 109) (j := 0) hI rfl (in_w 0 2 (in_c 1 rfl) rfl)
                refine g_aload_n 22 (gd rfl) rfl rfl ?_
                refine g_getI 25 (gd rfl) rfl rfl rfl (fun z30x3x22 e30x3x22 => ?_)
                have q30x3x22 : (Int32.ofInt 1) = z30x3x22 := (sF_get).trans e30x3x22.symm
                subst q30x3x22
                refine g_if_le 28 32 (gd rfl) rfl rfl (fun c30x3x25 => ?_) (fun c30x3x25 => ?_)
                · skip
                  exact zn_le c30x3x25 (in_c 1 rfl) rfl
                · skip
                  refine g_iconst 1 29 (gd rfl) rfl rfl ?_
                  refine g_goto 33 (gd rfl) rfl ?_
                  refine g_ireturn (gd rfl) rfl (nb01 (in_w 0 1 (in_c 1 rfl) rfl)) (hp30x3 _ _ ?_)
                  show GG _ _ _ _ _ _ _ _ [.int (Int32.ofInt 1)] _ _ _
                  refine g_ireturn (gd rfl) rfl (nb01 (in_w 0 1 (in_c 1 rfl) rfl)) (hp30 _ _ ?_)
                  show GG _ _ _ _ _ _ _ _ [.int (Int32.ofInt 1)] _ _ _
                  refine g_if_eq 36 38 (gd rfl) rfl rfl (fun c33 => ?_) (fun c33 => ?_)
                  · skip
                    exact zn_eq c33 (in_c 1 rfl) rfl
                  · skip
                    refine g_lconst 0 37 (gd rfl) rfl rfl ?_
                    exact g_lreturn (gd rfl) rfl (hP _ _ ⟨(sF s 109 0 (Int32.ofInt 1)), hI30x3x18, (fr_sF rfl fr_rf), (Int64.ofInt 0), rfl, rfl⟩)
            · skip
              exact zn_ne c22 (in_c 0 rfl) rfl
          · skip
            have i19x10 := z_le (-1) 0 c19x10 i19x9 rfl
            have c19x10a := lc_le e19x9 c19x10
            have i19x10a := lr_le1 0 4 c19x10a i19x3a (l_c 4 rfl) rfl
            have i19x10b := l_b e14 i19x10a
            refine g_iconst 1 14 (gd rfl) rfl rfl ?_
            refine g_goto 18 (gd rfl) rfl ?_
            refine g_ireturn (gd rfl) rfl (nb01 (in_w 0 1 (in_c 1 rfl) rfl)) (hp19 _ _ ?_)
            show GG _ _ _ _ _ _ _ _ [.int (Int32.ofInt 1), .ref (A 109)] _ _ _
            refine g_if_eq 25 29 (gd rfl) rfl rfl (fun c22 => ?_) (fun c22 => ?_)
            · skip
              exact zn_eq c22 (in_c 1 rfl) rfl
            · skip
              refine g_iconst 1 26 (gd rfl) rfl rfl ?_
              refine g_goto 30 (gd rfl) rfl ?_
              refine g_callv (X := _) (As := [.int (Int32.ofInt 1)]) (r := []) (b := A 109) (q := 109) 33 (gd rfl) rfl rfl rfl rfl rfl (ww_o rfl) (Nat.le_of_ble_eq_true rfl) (mc := 0) (ms := 0) (Nat.zero_le _) (Nat.zero_le _) (P := fun v u => _) ?_ (fun e u h => h) (fun v u h => h)
              intro po30 xx30 hp30 hx30
              refine g_enter2 (k := 271) (N := 300) (by first | exact dq1 hd rfl | exact dq0 hd rfl | exact dq2 hd rfl | exact dq3 hd rfl | omega) rfl (Nat.le_of_ble_eq_true rfl) ?_
              refine g_aload_n 1 (gd rfl) rfl rfl ?_
              refine g_iload_n 2 (gd rfl) rfl rfl ?_
              refine g_iconst 1 3 (gd rfl) rfl rfl ?_
              refine g_callv (X := _) (As := [.int (Int32.ofInt 1), .int (Int32.ofInt 1)]) (r := []) (b := A 109) (q := 109) 6 (gd rfl) rfl rfl rfl rfl rfl (ww_o rfl) (Nat.le_of_ble_eq_true rfl) (mc := 0) (ms := 0) (Nat.zero_le _) (Nat.zero_le _) (P := fun v u => _) ?_ (fun e u h => h) (fun v u h => h)
              intro po30x3 xx30x3 hp30x3 hx30x3
              refine g_enter2 (k := 270) (N := 300) (by first | exact dq1 hd rfl | exact dq0 hd rfl | exact dq2 hd rfl | exact dq3 hd rfl | omega) rfl (Nat.le_of_ble_eq_true rfl) ?_
              refine g_aload_n 1 (gd rfl) rfl rfl ?_
              refine g_iload_n 2 (gd rfl) rfl rfl ?_
              refine g_if_ne 5 9 (gd rfl) rfl rfl (fun c30x3x2 => ?_) (fun c30x3x2 => ?_)
              · skip
                refine g_iload_n 10 (gd rfl) rfl rfl ?_
                refine g_if_ne 13 17 (gd rfl) rfl rfl (fun c30x3x10 => ?_) (fun c30x3x10 => ?_)
                · skip
                  refine g_iconst 0 18 (gd rfl) rfl rfl ?_
                  refine g_putI 21 (gd rfl) rfl rfl rfl rfl ?_
                  have hI30x3x18 := inv_sF (q := 109) (j := 0) hI rfl (in_w 0 2 (in_c 0 rfl) rfl)
                  refine g_aload_n 22 (gd rfl) rfl rfl ?_
                  refine g_getI 25 (gd rfl) rfl rfl rfl (fun z30x3x22 e30x3x22 => ?_)
                  have q30x3x22 : (Int32.ofInt 0) = z30x3x22 := (sF_get).trans e30x3x22.symm
                  subst q30x3x22
                  refine g_if_le 28 32 (gd rfl) rfl rfl (fun c30x3x25 => ?_) (fun c30x3x25 => ?_)
                  · skip
                    refine g_iconst 0 33 (gd rfl) rfl rfl ?_
                    refine g_ireturn (gd rfl) rfl (nb01 (in_w 0 1 (in_c 0 rfl) rfl)) (hp30x3 _ _ ?_)
                    show GG _ _ _ _ _ _ _ _ [.int (Int32.ofInt 0)] _ _ _
                    refine g_ireturn (gd rfl) rfl (nb01 (in_w 0 1 (in_c 0 rfl) rfl)) (hp30 _ _ ?_)
                    show GG _ _ _ _ _ _ _ _ [.int (Int32.ofInt 0)] _ _ _
                    refine g_if_eq 36 38 (gd rfl) rfl rfl (fun c33 => ?_) (fun c33 => ?_)
                    · skip
                      refine g_aload_n 39 (gd rfl) rfl rfl ?_
                      refine g_getI 42 (gd rfl) rfl rfl rfl (fun z39 e39 => ?_)
                      have q39 : u_109_19 = z39 := (sF_ne rfl (e_109_19)).trans e39.symm
                      subst q39
                      refine g_iload_n 43 (gd rfl) rfl rfl ?_
                      refine g_iadd 44 (gd rfl) rfl (fun z43 e43 => ?_)
                      have i43 := in_add 0 319 e43 ro_109_19 i7x10b rfl rfl
                      refine g_istore_n 45 (gd rfl) rfl (Nat.le_of_ble_eq_true rfl) ?_
                      refine g_aload_n 46 (gd rfl) rfl rfl ?_
                      refine g_getA (q2 := 112) 49 (gd rfl) rfl rfl rfl rfl ?_
                      refine g_iload_n 50 (gd rfl) rfl rfl ?_
                      refine g_baload 51 (gd rfl) rfl (n := 480) rfl (in_ix i43 rfl) (fun z50 e50 => ?_)
                      have i50 := inv_I hI30x3x18 (n := 480) (t := 3) 0 1 rfl (in_ix i43 rfl) rfl e50
                      refine g_if_ne 54 58 (gd rfl) rfl rfl (fun c51 => ?_) (fun c51 => ?_)
                      · skip
                        have i51 := z_ne 1 1 c51 i50 rfl
                        refine g_iload_n 59 (gd rfl) rfl rfl ?_
                        refine g_if_ne 62 72 (gd rfl) rfl rfl (fun c59 => ?_) (fun c59 => ?_)
                        · skip
                          have i59 := z_ne 1 4 c59 i19x10b rfl
                          refine g_iload_n 73 (gd rfl) rfl rfl ?_
                          refine g_iconst 1 74 (gd rfl) rfl rfl ?_
                          refine g_cmp_ne 77 87 (gd rfl) rfl rfl (fun c74 => ?_) (fun c74 => ?_)
                          · skip
                            have i74 := r_ne1 2 4 c74 i59 (in_c 1 rfl) rfl
                            refine g_iload_n 88 (gd rfl) rfl rfl ?_
                            refine g_iconst 2 89 (gd rfl) rfl rfl ?_
                            refine g_cmp_ne 92 102 (gd rfl) rfl rfl (fun c89 => ?_) (fun c89 => ?_)
                            · skip
                              have i89 := r_ne1 3 4 c89 i74 (in_c 2 rfl) rfl
                              refine g_iload_n 103 (gd rfl) rfl rfl ?_
                              refine g_iconst 3 104 (gd rfl) rfl rfl ?_
                              refine g_cmp_ne 107 117 (gd rfl) rfl rfl (fun c104 => ?_) (fun c104 => ?_)
                              · skip
                                have i104 := r_ne1 4 4 c104 i89 (in_c 3 rfl) rfl
                                refine g_aload_n 118 (gd rfl) rfl rfl ?_
                                refine g_getA (q2 := 117) 121 (gd rfl) rfl rfl rfl rfl ?_
                                refine g_iload_n 122 (gd rfl) rfl rfl ?_
                                refine g_iaload 123 (gd rfl) rfl (n := 480) rfl (in_ix i43 rfl) (fun z122 e122 => ?_)
                                have i122 := inv_I hI30x3x18 (n := 480) (t := 0) 0 25 rfl (in_ix i43 rfl) rfl e122
                                refine g_i2l 124 (gd rfl) rfl (fun z123 e123 => ?_)
                                have i123 := l_i e123 i122
                                exact g_lreturn (gd rfl) rfl (hP _ _ ⟨(sF s 109 0 (Int32.ofInt 0)), hI30x3x18, (fr_sF rfl fr_rf), z123, rfl, rfl⟩)
                              · skip
                                have i104 := r_eq1 3 3 c104 i89 (in_c 3 rfl) rfl
                                refine g_aload_n 108 (gd rfl) rfl rfl ?_
                                refine g_getA (q2 := 116) 111 (gd rfl) rfl rfl rfl rfl ?_
                                refine g_iload_n 112 (gd rfl) rfl rfl ?_
                                refine g_iaload 113 (gd rfl) rfl (n := 480) rfl (in_ix i43 rfl) (fun z112 e112 => ?_)
                                have i112 := inv_I hI30x3x18 (n := 480) (t := 0) 0 1000000 rfl (in_ix i43 rfl) rfl e112
                                refine g_i2l 114 (gd rfl) rfl (fun z113 e113 => ?_)
                                have i113 := l_i e113 i112
                                refine g_goto 124 (gd rfl) rfl ?_
                                exact g_lreturn (gd rfl) rfl (hP _ _ ⟨(sF s 109 0 (Int32.ofInt 0)), hI30x3x18, (fr_sF rfl fr_rf), z113, rfl, rfl⟩)
                            · skip
                              have i89 := r_eq1 2 2 c89 i74 (in_c 2 rfl) rfl
                              refine g_aload_n 93 (gd rfl) rfl rfl ?_
                              refine g_getA (q2 := 115) 96 (gd rfl) rfl rfl rfl rfl ?_
                              refine g_iload_n 97 (gd rfl) rfl rfl ?_
                              refine g_iaload 98 (gd rfl) rfl (n := 480) rfl (in_ix i43 rfl) (fun z97 e97 => ?_)
                              have i97 := inv_I hI30x3x18 (n := 480) (t := 0) (-1000000) 1000000 rfl (in_ix i43 rfl) rfl e97
                              refine g_i2l 99 (gd rfl) rfl (fun z98 e98 => ?_)
                              have i98 := l_i e98 i97
                              refine g_goto 124 (gd rfl) rfl ?_
                              exact g_lreturn (gd rfl) rfl (hP _ _ ⟨(sF s 109 0 (Int32.ofInt 0)), hI30x3x18, (fr_sF rfl fr_rf), z98, rfl, rfl⟩)
                          · skip
                            have i74 := r_eq1 1 1 c74 i59 (in_c 1 rfl) rfl
                            refine g_aload_n 78 (gd rfl) rfl rfl ?_
                            refine g_getA (q2 := 114) 81 (gd rfl) rfl rfl rfl rfl ?_
                            refine g_iload_n 82 (gd rfl) rfl rfl ?_
                            refine g_iaload 83 (gd rfl) rfl (n := 480) rfl (in_ix i43 rfl) (fun z82 e82 => ?_)
                            have i82 := inv_I hI30x3x18 (n := 480) (t := 0) 0 31 rfl (in_ix i43 rfl) rfl e82
                            refine g_i2l 84 (gd rfl) rfl (fun z83 e83 => ?_)
                            have i83 := l_i e83 i82
                            refine g_goto 124 (gd rfl) rfl ?_
                            exact g_lreturn (gd rfl) rfl (hP _ _ ⟨(sF s 109 0 (Int32.ofInt 0)), hI30x3x18, (fr_sF rfl fr_rf), z83, rfl, rfl⟩)
                        · skip
                          have i59 := z_eq 0 0 c59 i19x10b rfl
                          refine g_aload_n 63 (gd rfl) rfl rfl ?_
                          refine g_getA (q2 := 113) 66 (gd rfl) rfl rfl rfl rfl ?_
                          refine g_iload_n 67 (gd rfl) rfl rfl ?_
                          refine g_iaload 68 (gd rfl) rfl (n := 480) rfl (in_ix i43 rfl) (fun z67 e67 => ?_)
                          have i67 := inv_I hI30x3x18 (n := 480) (t := 0) 0 31 rfl (in_ix i43 rfl) rfl e67
                          refine g_i2l 69 (gd rfl) rfl (fun z68 e68 => ?_)
                          have i68 := l_i e68 i67
                          refine g_goto 124 (gd rfl) rfl ?_
                          exact g_lreturn (gd rfl) rfl (hP _ _ ⟨(sF s 109 0 (Int32.ofInt 0)), hI30x3x18, (fr_sF rfl fr_rf), z68, rfl, rfl⟩)
                      · skip
                        have i51 := z_eq 0 0 c51 i50 rfl
                        refine g_ldc2_w 9000000000000000 57 (gd rfl) rfl rfl ?_
                        exact g_lreturn (gd rfl) rfl (hP _ _ ⟨(sF s 109 0 (Int32.ofInt 0)), hI30x3x18, (fr_sF rfl fr_rf), (Int64.ofInt 9000000000000000), rfl, rfl⟩)
                    · skip
                      exact zn_ne c33 (in_c 0 rfl) rfl
                  · skip
                    exact zn_gt c30x3x25 (in_c 0 rfl) rfl
                · skip
                  exact zn_eq c30x3x10 (in_c 1 rfl) rfl
              · skip
                exact zn_eq c30x3x2 (in_c 1 rfl) rfl

def fm_291 : FM := ([], [], [(109, 0)], [])
/-- GraphHouseModel.labelOf -/
theorem k_291 {Z : AmZ} {A : Nat → Nat} {s : GS} {ex : va_W} {d : Nat} {X : AmX} {x1 : Int32} (hd : 4 ≤ d) (hI : Inv s)  : GC Z d 291 [.ref (A 109), .int x1] (WW Z A s ++ ex) 0 0 (fun v u => ∃ t : GS, Inv t ∧ Fr fm_291 s t ∧ ∃ z : Int32, v = some (.int z) ∧ u = WW Z A t ++ ex ∧ In z 0 25) X := by
  intro post xp hP hX
  obtain ⟨u_109_18, e_109_18⟩ : ∃ w, w = s.2.2.1 109 18 := ⟨_, rfl⟩
  have ro_109_18 := inv_F hI 0 1 rfl e_109_18
  obtain ⟨u_109_20, e_109_20⟩ : ∃ w, w = s.2.2.1 109 20 := ⟨_, rfl⟩
  have ro_109_20 := inv_F hI 0 32 rfl e_109_20
  refine g_enter2 (k := 291) (N := 900) (by first | exact dq1 hd rfl | exact dq0 hd rfl | exact dq2 hd rfl | exact dq3 hd rfl | omega) rfl (Nat.le_of_ble_eq_true rfl) ?_
  refine g_aload_n 1 (gd rfl) rfl rfl ?_
  refine g_aload_n 2 (gd rfl) rfl rfl ?_
  refine g_iload_n 3 (gd rfl) rfl rfl ?_
  refine g_callv (X := _) (As := [.int x1]) (r := [.ref (A 109)]) (b := A 109) (q := 109) 6 (gd rfl) rfl rfl rfl rfl rfl (ww_o rfl) (Nat.le_of_ble_eq_true rfl) (mc := 0) (ms := 0) (Nat.zero_le _) (Nat.zero_le _) (P := fun v u => _) ?_ (fun e u h => h) (fun v u h => h)
  intro po3 xx3 hp3 hx3
  refine g_enter2 (k := 272) (N := 300) (by first | exact dq1 hd rfl | exact dq0 hd rfl | exact dq2 hd rfl | exact dq3 hd rfl | omega) rfl (Nat.le_of_ble_eq_true rfl) ?_
  refine g_iload_n 1 (gd rfl) rfl rfl ?_
  refine g_if_lt 4 16 (gd rfl) rfl rfl (fun c3x1 => ?_) (fun c3x1 => ?_)
  · skip
    have i3x1 := z_lt (-2147483648) (-1) c3x1 (i_rng x1) rfl
    refine g_iconst 0 17 (gd rfl) rfl rfl ?_
    refine g_ireturn (gd rfl) rfl (nb01 (in_w 0 1 (in_c 0 rfl) rfl)) (hp3 _ _ ?_)
    show GG _ _ _ _ _ _ _ _ [.int (Int32.ofInt 0), .ref (A 109)] _ _ _
    refine g_callv (X := _) (As := [.int (Int32.ofInt 0)]) (r := []) (b := A 109) (q := 109) 9 (gd rfl) rfl rfl rfl rfl rfl (ww_o rfl) (Nat.le_of_ble_eq_true rfl) (mc := 0) (ms := 0) (Nat.zero_le _) (Nat.zero_le _) (P := fun v u => _) ?_ (fun e u h => h) (fun v u h => h)
    intro po6 xx6 hp6 hx6
    refine g_enter2 (k := 271) (N := 300) (by first | exact dq1 hd rfl | exact dq0 hd rfl | exact dq2 hd rfl | exact dq3 hd rfl | omega) rfl (Nat.le_of_ble_eq_true rfl) ?_
    refine g_aload_n 1 (gd rfl) rfl rfl ?_
    refine g_iload_n 2 (gd rfl) rfl rfl ?_
    refine g_iconst 1 3 (gd rfl) rfl rfl ?_
    refine g_callv (X := _) (As := [.int (Int32.ofInt 0), .int (Int32.ofInt 1)]) (r := []) (b := A 109) (q := 109) 6 (gd rfl) rfl rfl rfl rfl rfl (ww_o rfl) (Nat.le_of_ble_eq_true rfl) (mc := 0) (ms := 0) (Nat.zero_le _) (Nat.zero_le _) (P := fun v u => _) ?_ (fun e u h => h) (fun v u h => h)
    intro po6x3 xx6x3 hp6x3 hx6x3
    refine g_enter2 (k := 270) (N := 300) (by first | exact dq1 hd rfl | exact dq0 hd rfl | exact dq2 hd rfl | exact dq3 hd rfl | omega) rfl (Nat.le_of_ble_eq_true rfl) ?_
    refine g_aload_n 1 (gd rfl) rfl rfl ?_
    refine g_iload_n 2 (gd rfl) rfl rfl ?_
    refine g_if_ne 5 9 (gd rfl) rfl rfl (fun c6x3x2 => ?_) (fun c6x3x2 => ?_)
    · skip
      exact zn_ne c6x3x2 (in_c 0 rfl) rfl
    · skip
      refine g_iconst 1 6 (gd rfl) rfl rfl ?_
      refine g_goto 18 (gd rfl) rfl ?_
      refine g_putI 21 (gd rfl) rfl rfl rfl rfl ?_
      have hI6x3x18 := inv_sF (q := 109) (j := 0) hI rfl (in_w 0 2 (in_c 1 rfl) rfl)
      refine g_aload_n 22 (gd rfl) rfl rfl ?_
      refine g_getI 25 (gd rfl) rfl rfl rfl (fun z6x3x22 e6x3x22 => ?_)
      have q6x3x22 : (Int32.ofInt 1) = z6x3x22 := (sF_get).trans e6x3x22.symm
      subst q6x3x22
      refine g_if_le 28 32 (gd rfl) rfl rfl (fun c6x3x25 => ?_) (fun c6x3x25 => ?_)
      · skip
        exact zn_le c6x3x25 (in_c 1 rfl) rfl
      · skip
        refine g_iconst 1 29 (gd rfl) rfl rfl ?_
        refine g_goto 33 (gd rfl) rfl ?_
        refine g_ireturn (gd rfl) rfl (nb01 (in_w 0 1 (in_c 1 rfl) rfl)) (hp6x3 _ _ ?_)
        show GG _ _ _ _ _ _ _ _ [.int (Int32.ofInt 1)] _ _ _
        refine g_ireturn (gd rfl) rfl (nb01 (in_w 0 1 (in_c 1 rfl) rfl)) (hp6 _ _ ?_)
        show GG _ _ _ _ _ _ _ _ [.int (Int32.ofInt 1)] _ _ _
        refine g_if_eq 12 16 (gd rfl) rfl rfl (fun c9 => ?_) (fun c9 => ?_)
        · skip
          exact zn_eq c9 (in_c 1 rfl) rfl
        · skip
          refine g_iconst 0 13 (gd rfl) rfl rfl ?_
          refine g_goto 30 (gd rfl) rfl ?_
          exact g_ireturn (gd rfl) rfl rfl (hP _ _ ⟨(sF s 109 0 (Int32.ofInt 1)), hI6x3x18, (fr_sF rfl fr_rf), (Int32.ofInt 0), rfl, rfl, in_w 0 25 (in_c 0 rfl) rfl⟩)
  · skip
    have i3x1 := z_ge 0 2147483647 c3x1 (i_rng x1) rfl
    refine g_iload_n 5 (gd rfl) rfl rfl ?_
    refine g_aload_n 6 (gd rfl) rfl rfl ?_
    refine g_getI 9 (gd rfl) rfl rfl rfl (fun z3x6 e3x6 => ?_)
    have q3x6 : u_109_20 = z3x6 := (e_109_20).trans e3x6.symm
    subst q3x6
    refine g_cmp_ge 12 16 (gd rfl) rfl rfl (fun c3x9 => ?_) (fun c3x9 => ?_)
    · skip
      refine g_iconst 0 17 (gd rfl) rfl rfl ?_
      refine g_ireturn (gd rfl) rfl (nb01 (in_w 0 1 (in_c 0 rfl) rfl)) (hp3 _ _ ?_)
      show GG _ _ _ _ _ _ _ _ [.int (Int32.ofInt 0), .ref (A 109)] _ _ _
      refine g_callv (X := _) (As := [.int (Int32.ofInt 0)]) (r := []) (b := A 109) (q := 109) 9 (gd rfl) rfl rfl rfl rfl rfl (ww_o rfl) (Nat.le_of_ble_eq_true rfl) (mc := 0) (ms := 0) (Nat.zero_le _) (Nat.zero_le _) (P := fun v u => _) ?_ (fun e u h => h) (fun v u h => h)
      intro po6 xx6 hp6 hx6
      refine g_enter2 (k := 271) (N := 300) (by first | exact dq1 hd rfl | exact dq0 hd rfl | exact dq2 hd rfl | exact dq3 hd rfl | omega) rfl (Nat.le_of_ble_eq_true rfl) ?_
      refine g_aload_n 1 (gd rfl) rfl rfl ?_
      refine g_iload_n 2 (gd rfl) rfl rfl ?_
      refine g_iconst 1 3 (gd rfl) rfl rfl ?_
      refine g_callv (X := _) (As := [.int (Int32.ofInt 0), .int (Int32.ofInt 1)]) (r := []) (b := A 109) (q := 109) 6 (gd rfl) rfl rfl rfl rfl rfl (ww_o rfl) (Nat.le_of_ble_eq_true rfl) (mc := 0) (ms := 0) (Nat.zero_le _) (Nat.zero_le _) (P := fun v u => _) ?_ (fun e u h => h) (fun v u h => h)
      intro po6x3 xx6x3 hp6x3 hx6x3
      refine g_enter2 (k := 270) (N := 300) (by first | exact dq1 hd rfl | exact dq0 hd rfl | exact dq2 hd rfl | exact dq3 hd rfl | omega) rfl (Nat.le_of_ble_eq_true rfl) ?_
      refine g_aload_n 1 (gd rfl) rfl rfl ?_
      refine g_iload_n 2 (gd rfl) rfl rfl ?_
      refine g_if_ne 5 9 (gd rfl) rfl rfl (fun c6x3x2 => ?_) (fun c6x3x2 => ?_)
      · skip
        exact zn_ne c6x3x2 (in_c 0 rfl) rfl
      · skip
        refine g_iconst 1 6 (gd rfl) rfl rfl ?_
        refine g_goto 18 (gd rfl) rfl ?_
        refine g_putI 21 (gd rfl) rfl rfl rfl rfl ?_
        have hI6x3x18 := inv_sF (q := 109) (j := 0) hI rfl (in_w 0 2 (in_c 1 rfl) rfl)
        refine g_aload_n 22 (gd rfl) rfl rfl ?_
        refine g_getI 25 (gd rfl) rfl rfl rfl (fun z6x3x22 e6x3x22 => ?_)
        have q6x3x22 : (Int32.ofInt 1) = z6x3x22 := (sF_get).trans e6x3x22.symm
        subst q6x3x22
        refine g_if_le 28 32 (gd rfl) rfl rfl (fun c6x3x25 => ?_) (fun c6x3x25 => ?_)
        · skip
          exact zn_le c6x3x25 (in_c 1 rfl) rfl
        · skip
          refine g_iconst 1 29 (gd rfl) rfl rfl ?_
          refine g_goto 33 (gd rfl) rfl ?_
          refine g_ireturn (gd rfl) rfl (nb01 (in_w 0 1 (in_c 1 rfl) rfl)) (hp6x3 _ _ ?_)
          show GG _ _ _ _ _ _ _ _ [.int (Int32.ofInt 1)] _ _ _
          refine g_ireturn (gd rfl) rfl (nb01 (in_w 0 1 (in_c 1 rfl) rfl)) (hp6 _ _ ?_)
          show GG _ _ _ _ _ _ _ _ [.int (Int32.ofInt 1)] _ _ _
          refine g_if_eq 12 16 (gd rfl) rfl rfl (fun c9 => ?_) (fun c9 => ?_)
          · skip
            exact zn_eq c9 (in_c 1 rfl) rfl
          · skip
            refine g_iconst 0 13 (gd rfl) rfl rfl ?_
            refine g_goto 30 (gd rfl) rfl ?_
            exact g_ireturn (gd rfl) rfl rfl (hP _ _ ⟨(sF s 109 0 (Int32.ofInt 1)), hI6x3x18, (fr_sF rfl fr_rf), (Int32.ofInt 0), rfl, rfl, in_w 0 25 (in_c 0 rfl) rfl⟩)
    · skip
      have i3x9 := r_lt1 0 31 c3x9 i3x1 ro_109_20 rfl
      have i3x9a := r_lt2 1 32 c3x9 i3x1 ro_109_20 rfl
      refine g_iconst 1 13 (gd rfl) rfl rfl ?_
      refine g_goto 17 (gd rfl) rfl ?_
      refine g_ireturn (gd rfl) rfl (nb01 (in_w 0 1 (in_c 1 rfl) rfl)) (hp3 _ _ ?_)
      show GG _ _ _ _ _ _ _ _ [.int (Int32.ofInt 1), .ref (A 109)] _ _ _
      refine g_callv (X := _) (As := [.int (Int32.ofInt 1)]) (r := []) (b := A 109) (q := 109) 9 (gd rfl) rfl rfl rfl rfl rfl (ww_o rfl) (Nat.le_of_ble_eq_true rfl) (mc := 0) (ms := 0) (Nat.zero_le _) (Nat.zero_le _) (P := fun v u => _) ?_ (fun e u h => h) (fun v u h => h)
      intro po6 xx6 hp6 hx6
      refine g_enter2 (k := 271) (N := 300) (by first | exact dq1 hd rfl | exact dq0 hd rfl | exact dq2 hd rfl | exact dq3 hd rfl | omega) rfl (Nat.le_of_ble_eq_true rfl) ?_
      refine g_aload_n 1 (gd rfl) rfl rfl ?_
      refine g_iload_n 2 (gd rfl) rfl rfl ?_
      refine g_iconst 1 3 (gd rfl) rfl rfl ?_
      refine g_callv (X := _) (As := [.int (Int32.ofInt 1), .int (Int32.ofInt 1)]) (r := []) (b := A 109) (q := 109) 6 (gd rfl) rfl rfl rfl rfl rfl (ww_o rfl) (Nat.le_of_ble_eq_true rfl) (mc := 0) (ms := 0) (Nat.zero_le _) (Nat.zero_le _) (P := fun v u => _) ?_ (fun e u h => h) (fun v u h => h)
      intro po6x3 xx6x3 hp6x3 hx6x3
      refine g_enter2 (k := 270) (N := 300) (by first | exact dq1 hd rfl | exact dq0 hd rfl | exact dq2 hd rfl | exact dq3 hd rfl | omega) rfl (Nat.le_of_ble_eq_true rfl) ?_
      refine g_aload_n 1 (gd rfl) rfl rfl ?_
      refine g_iload_n 2 (gd rfl) rfl rfl ?_
      refine g_if_ne 5 9 (gd rfl) rfl rfl (fun c6x3x2 => ?_) (fun c6x3x2 => ?_)
      · skip
        refine g_iload_n 10 (gd rfl) rfl rfl ?_
        refine g_if_ne 13 17 (gd rfl) rfl rfl (fun c6x3x10 => ?_) (fun c6x3x10 => ?_)
        · skip
          refine g_iconst 0 18 (gd rfl) rfl rfl ?_
          refine g_putI 21 (gd rfl) rfl rfl rfl rfl ?_
          have hI6x3x18 := inv_sF (q := 109) (j := 0) hI rfl (in_w 0 2 (in_c 0 rfl) rfl)
          refine g_aload_n 22 (gd rfl) rfl rfl ?_
          refine g_getI 25 (gd rfl) rfl rfl rfl (fun z6x3x22 e6x3x22 => ?_)
          have q6x3x22 : (Int32.ofInt 0) = z6x3x22 := (sF_get).trans e6x3x22.symm
          subst q6x3x22
          refine g_if_le 28 32 (gd rfl) rfl rfl (fun c6x3x25 => ?_) (fun c6x3x25 => ?_)
          · skip
            refine g_iconst 0 33 (gd rfl) rfl rfl ?_
            refine g_ireturn (gd rfl) rfl (nb01 (in_w 0 1 (in_c 0 rfl) rfl)) (hp6x3 _ _ ?_)
            show GG _ _ _ _ _ _ _ _ [.int (Int32.ofInt 0)] _ _ _
            refine g_ireturn (gd rfl) rfl (nb01 (in_w 0 1 (in_c 0 rfl) rfl)) (hp6 _ _ ?_)
            show GG _ _ _ _ _ _ _ _ [.int (Int32.ofInt 0)] _ _ _
            refine g_if_eq 12 16 (gd rfl) rfl rfl (fun c9 => ?_) (fun c9 => ?_)
            · skip
              refine g_aload_n 17 (gd rfl) rfl rfl ?_
              refine g_getA (q2 := 111) 20 (gd rfl) rfl rfl rfl rfl ?_
              refine g_bipush 32 22 (gd rfl) rfl rfl ?_
              refine g_aload_n 23 (gd rfl) rfl rfl ?_
              refine g_getI 26 (gd rfl) rfl rfl rfl (fun z23 e23 => ?_)
              have q23 : u_109_18 = z23 := (sF_ne rfl (e_109_18)).trans e23.symm
              subst q23
              refine g_imul 27 (gd rfl) rfl (fun z26 e26 => ?_)
              have i26 := in_mulc 32 0 32 (Or.inl e26) ro_109_18 rfl rfl
              refine g_iload_n 28 (gd rfl) rfl rfl ?_
              refine g_iadd 29 (gd rfl) rfl (fun z28 e28 => ?_)
              have i28 := in_add 0 63 e28 i26 i3x9 rfl rfl
              refine g_iaload 30 (gd rfl) rfl (n := 96) rfl (in_ix i28 rfl) (fun z29 e29 => ?_)
              have i29 := inv_I hI6x3x18 (n := 96) (t := 0) 0 25 rfl (in_ix i28 rfl) rfl e29
              exact g_ireturn (gd rfl) rfl rfl (hP _ _ ⟨(sF s 109 0 (Int32.ofInt 0)), hI6x3x18, (fr_sF rfl fr_rf), z29, rfl, rfl, in_w 0 25 i29 rfl⟩)
            · skip
              exact zn_ne c9 (in_c 0 rfl) rfl
          · skip
            exact zn_gt c6x3x25 (in_c 0 rfl) rfl
        · skip
          exact zn_eq c6x3x10 (in_c 1 rfl) rfl
      · skip
        exact zn_eq c6x3x2 (in_c 1 rfl) rfl

def fm_292 : FM := ([], [], [(109, 0)], [])
/-- GraphHouseModel.arcAt -/
theorem k_292 {Z : AmZ} {A : Nat → Nat} {s : GS} {ex : va_W} {d : Nat} {X : AmX} {x1 : Int32} {x2 : Int32} {x3 : Int32} (hd : 4 ≤ d) (hI : Inv s)  : GC Z d 292 [.ref (A 109), .int x1, .int x2, .int x3] (WW Z A s ++ ex) 0 0 (fun v u => ∃ t : GS, Inv t ∧ Fr fm_292 s t ∧ ∃ z : Int32, v = some (.int z) ∧ u = WW Z A t ++ ex ∧ In z (-1) 159) X := by
  intro post xp hP hX
  obtain ⟨u_109_19, e_109_19⟩ : ∃ w, w = s.2.2.1 109 19 := ⟨_, rfl⟩
  have ro_109_19 := inv_F hI 0 160 rfl e_109_19
  obtain ⟨u_109_20, e_109_20⟩ : ∃ w, w = s.2.2.1 109 20 := ⟨_, rfl⟩
  have ro_109_20 := inv_F hI 0 32 rfl e_109_20
  have ct42 : ∀ (k42 : Nat) (sc42 : GS) (y42_4 : Int32) (y42_5 : Int32), Inv sc42 → Fr fm_292 s sc42 → (In x1 0 31) → (In x2 0 1) → (In x3 0 2147483647) → (In y42_5 0 160) → 160 - (y42_5).toInt < (k42 : Int) → GG Z (d - 1) 292 post (gx xp) (1 + k42 * 1801) 42 (fun j => xlook j [(0, .ref (A 109)), (1, .int x1), (2, .int x2), (3, .int x3), (4, .int y42_4), (5, .int y42_5)]) [] (WW Z A sc42 ++ ex) 0 0 := by
    intro k42
    induction k42 with
    | zero => intro sc42 y42_4 y42_5 hIc42 hFc42 j42_1 j42_2 j42_3 j42_5 mm42; exact m_no mm42 j42_5 rfl
    | succ k42 ih42 =>
      intro sc42 y42_4 y42_5 hIc42 hFc42 j42_1 j42_2 j42_3 j42_5 mm42
      refine gg_w (M := 1 + k42 * 1801 + 1801) gws ?_
      have ct112 : ∀ (sc112 : GS) (y112_4 : Int32), Inv sc112 → Fr fm_292 s sc112 → (In y42_5 0 159) → GG Z (d - 1) 292 post (gx xp) (1 + k42 * 1801 + 901) 112 (fun j => xlook j [(0, .ref (A 109)), (1, .int x1), (2, .int x2), (3, .int x3), (4, .int y112_4), (5, .int y42_5)]) [] (WW Z A sc112 ++ ex) 0 0 := by
        intro sc112 y112_4 hIc112 hFc112 j112_5
        refine g_iinc 115 (gd rfl) rfl rfl (Nat.le_of_ble_eq_true rfl) (fun z112 e112 => ?_)
        have i112 := in_add 1 160 e112 j112_5 (in_c 1 rfl) rfl rfl
        refine g_goto 42 (gd rfl) rfl ?_
        exact gg_w (by first | exact Nat.le_add_right _ _ | exact gw2 | exact gw3 | exact gwe rfl | exact gwf rfl | exact gwg rfl | exact gwh rfl | omega) (gg_f (gf_cons rfl (gf_cons rfl (gf_cons rfl (gf_cons rfl (gf_cons rfl (gf_cons rfl gf_nil)))))) (ih42 sc112 y112_4 z112 hIc112 hFc112 (in_w 0 31 j42_1 rfl) (in_w 0 1 j42_2 rfl) (in_w 0 2147483647 j42_3 rfl) (in_w 0 160 i112 rfl) (m_up mm42 (t_add e112 j112_5 (in_c 1 rfl) rfl) (in_w 1 1 (in_c 1 rfl) rfl))))
      refine g_iload 44 (gd rfl) rfl rfl ?_
      refine g_sipush 160 47 (gd rfl) rfl rfl ?_
      refine g_cmp_ge 50 118 (gd rfl) rfl rfl (fun c47 => ?_) (fun c47 => ?_)
      · skip
        have i47 := r_le2 160 160 c47 (in_c 160 rfl) j42_5 rfl
        refine g_iconst (-1) 119 (gd rfl) rfl rfl ?_
        exact g_ireturn (gd rfl) rfl rfl (hP _ _ ⟨sc42, hIc42, hFc42, (Int32.ofInt (-1)), rfl, rfl, in_w (-1) 159 (in_c (-1) rfl) rfl⟩)
      · skip
        have i47 := r_lt1 0 159 c47 j42_5 (in_c 160 rfl) rfl
        refine g_aload_n 51 (gd rfl) rfl rfl ?_
        refine g_getA (q2 := 112) 54 (gd rfl) rfl rfl rfl rfl ?_
        refine g_aload_n 55 (gd rfl) rfl rfl ?_
        refine g_getI 58 (gd rfl) rfl rfl rfl (fun z55 e55 => ?_)
        have q55 : u_109_19 = z55 := (fr_F e_109_19 hFc42 rfl).trans e55.symm
        subst q55
        refine g_iload 60 (gd rfl) rfl rfl ?_
        refine g_iadd 61 (gd rfl) rfl (fun z60 e60 => ?_)
        have i60 := in_add 0 319 e60 ro_109_19 i47 rfl rfl
        refine g_baload 62 (gd rfl) rfl (n := 480) rfl (in_ix i60 rfl) (fun z61 e61 => ?_)
        have i61 := inv_I hIc42 (n := 480) (t := 3) 0 1 rfl (in_ix i60 rfl) rfl e61
        refine g_if_eq 65 112 (gd rfl) rfl rfl (fun c62 => ?_) (fun c62 => ?_)
        · skip
          have i62 := z_eq 0 0 c62 i61 rfl
          exact gg_w (by first | exact Nat.le_add_right _ _ | exact gw2 | exact gw3 | exact gwe rfl | exact gwf rfl | exact gwg rfl | exact gwh rfl | omega) (gg_f (gf_cons rfl (gf_cons rfl (gf_cons rfl (gf_cons rfl (gf_cons rfl (gf_cons rfl gf_nil)))))) (ct112 sc42 y42_4 hIc42 hFc42 (in_w 0 159 i47 rfl)))
        · skip
          have i62 := z_ne 1 1 c62 i61 rfl
          refine g_iload_n 66 (gd rfl) rfl rfl ?_
          refine g_if_ne 69 84 (gd rfl) rfl rfl (fun c66 => ?_) (fun c66 => ?_)
          · skip
            have i66 := z_ne 1 1 c66 j42_2 rfl
            refine g_aload_n 85 (gd rfl) rfl rfl ?_
            refine g_getA (q2 := 114) 88 (gd rfl) rfl rfl rfl rfl ?_
            refine g_aload_n 89 (gd rfl) rfl rfl ?_
            refine g_getI 92 (gd rfl) rfl rfl rfl (fun z89 e89 => ?_)
            have q89 : u_109_19 = z89 := (fr_F e_109_19 hFc42 rfl).trans e89.symm
            subst q89
            refine g_iload 94 (gd rfl) rfl rfl ?_
            refine g_iadd 95 (gd rfl) rfl (fun z94 e94 => ?_)
            have i94 := in_add 0 319 e94 ro_109_19 i47 rfl rfl
            refine g_iaload 96 (gd rfl) rfl (n := 480) rfl (in_ix i94 rfl) (fun z95 e95 => ?_)
            have i95 := inv_I hIc42 (n := 480) (t := 0) 0 31 rfl (in_ix i94 rfl) rfl e95
            refine g_iload_n 97 (gd rfl) rfl rfl ?_
            refine g_cmp_ne 100 112 (gd rfl) rfl rfl (fun c97 => ?_) (fun c97 => ?_)
            · skip
              exact gg_w (by first | exact Nat.le_add_right _ _ | exact gw2 | exact gw3 | exact gwe rfl | exact gwf rfl | exact gwg rfl | exact gwh rfl | omega) (gg_f (gf_cons rfl (gf_cons rfl (gf_cons rfl (gf_cons rfl (gf_cons rfl (gf_cons rfl gf_nil)))))) (ct112 sc42 y42_4 hIc42 hFc42 (in_w 0 159 i47 rfl)))
            · skip
              refine g_iload 102 (gd rfl) rfl rfl ?_
              refine g_iload_n 103 (gd rfl) rfl rfl ?_
              refine g_cmp_ne 106 109 (gd rfl) rfl rfl (fun c103 => ?_) (fun c103 => ?_)
              · skip
                refine g_iinc 112 (gd rfl) rfl rfl (Nat.le_of_ble_eq_true rfl) (fun z109 e109 => ?_)
                exact gg_w (by first | exact Nat.le_add_right _ _ | exact gw2 | exact gw3 | exact gwe rfl | exact gwf rfl | exact gwg rfl | exact gwh rfl | omega) (gg_f (gf_cons rfl (gf_cons rfl (gf_cons rfl (gf_cons rfl (gf_cons rfl (gf_cons rfl gf_nil)))))) (ct112 sc42 z109 hIc42 hFc42 (in_w 0 159 i47 rfl)))
              · skip
                have i103 := r_eq1 0 2147483647 c103 (i_rng y42_4) j42_3 rfl
                refine g_iload 108 (gd rfl) rfl rfl ?_
                exact g_ireturn (gd rfl) rfl rfl (hP _ _ ⟨sc42, hIc42, hFc42, y42_5, rfl, rfl, in_w (-1) 159 i47 rfl⟩)
          · skip
            have i66 := z_eq 0 0 c66 j42_2 rfl
            refine g_aload_n 70 (gd rfl) rfl rfl ?_
            refine g_getA (q2 := 113) 73 (gd rfl) rfl rfl rfl rfl ?_
            refine g_aload_n 74 (gd rfl) rfl rfl ?_
            refine g_getI 77 (gd rfl) rfl rfl rfl (fun z74 e74 => ?_)
            have q74 : u_109_19 = z74 := (fr_F e_109_19 hFc42 rfl).trans e74.symm
            subst q74
            refine g_iload 79 (gd rfl) rfl rfl ?_
            refine g_iadd 80 (gd rfl) rfl (fun z79 e79 => ?_)
            have i79 := in_add 0 319 e79 ro_109_19 i47 rfl rfl
            refine g_iaload 81 (gd rfl) rfl (n := 480) rfl (in_ix i79 rfl) (fun z80 e80 => ?_)
            have i80 := inv_I hIc42 (n := 480) (t := 0) 0 31 rfl (in_ix i79 rfl) rfl e80
            refine g_goto 96 (gd rfl) rfl ?_
            refine g_iload_n 97 (gd rfl) rfl rfl ?_
            refine g_cmp_ne 100 112 (gd rfl) rfl rfl (fun c97 => ?_) (fun c97 => ?_)
            · skip
              exact gg_w (by first | exact Nat.le_add_right _ _ | exact gw2 | exact gw3 | exact gwe rfl | exact gwf rfl | exact gwg rfl | exact gwh rfl | omega) (gg_f (gf_cons rfl (gf_cons rfl (gf_cons rfl (gf_cons rfl (gf_cons rfl (gf_cons rfl gf_nil)))))) (ct112 sc42 y42_4 hIc42 hFc42 (in_w 0 159 i47 rfl)))
            · skip
              refine g_iload 102 (gd rfl) rfl rfl ?_
              refine g_iload_n 103 (gd rfl) rfl rfl ?_
              refine g_cmp_ne 106 109 (gd rfl) rfl rfl (fun c103 => ?_) (fun c103 => ?_)
              · skip
                refine g_iinc 112 (gd rfl) rfl rfl (Nat.le_of_ble_eq_true rfl) (fun z109 e109 => ?_)
                exact gg_w (by first | exact Nat.le_add_right _ _ | exact gw2 | exact gw3 | exact gwe rfl | exact gwf rfl | exact gwg rfl | exact gwh rfl | omega) (gg_f (gf_cons rfl (gf_cons rfl (gf_cons rfl (gf_cons rfl (gf_cons rfl (gf_cons rfl gf_nil)))))) (ct112 sc42 z109 hIc42 hFc42 (in_w 0 159 i47 rfl)))
              · skip
                have i103 := r_eq1 0 2147483647 c103 (i_rng y42_4) j42_3 rfl
                refine g_iload 108 (gd rfl) rfl rfl ?_
                exact g_ireturn (gd rfl) rfl rfl (hP _ _ ⟨sc42, hIc42, hFc42, y42_5, rfl, rfl, in_w (-1) 159 i47 rfl⟩)
  refine g_enter2 (k := 292) (N := 290862) (by first | exact dq1 hd rfl | exact dq0 hd rfl | exact dq2 hd rfl | exact dq3 hd rfl | omega) rfl (Nat.le_of_ble_eq_true rfl) ?_
  refine g_aload_n 1 (gd rfl) rfl rfl ?_
  refine g_aload_n 2 (gd rfl) rfl rfl ?_
  refine g_iload_n 3 (gd rfl) rfl rfl ?_
  refine g_callv (X := _) (As := [.int x1]) (r := [.ref (A 109)]) (b := A 109) (q := 109) 6 (gd rfl) rfl rfl rfl rfl rfl (ww_o rfl) (Nat.le_of_ble_eq_true rfl) (mc := 0) (ms := 0) (Nat.zero_le _) (Nat.zero_le _) (P := fun v u => _) ?_ (fun e u h => h) (fun v u h => h)
  intro po3 xx3 hp3 hx3
  refine g_enter2 (k := 272) (N := 300) (by first | exact dq1 hd rfl | exact dq0 hd rfl | exact dq2 hd rfl | exact dq3 hd rfl | omega) rfl (Nat.le_of_ble_eq_true rfl) ?_
  refine g_iload_n 1 (gd rfl) rfl rfl ?_
  refine g_if_lt 4 16 (gd rfl) rfl rfl (fun c3x1 => ?_) (fun c3x1 => ?_)
  · skip
    have i3x1 := z_lt (-2147483648) (-1) c3x1 (i_rng x1) rfl
    refine g_iconst 0 17 (gd rfl) rfl rfl ?_
    refine g_ireturn (gd rfl) rfl (nb01 (in_w 0 1 (in_c 0 rfl) rfl)) (hp3 _ _ ?_)
    show GG _ _ _ _ _ _ _ _ [.int (Int32.ofInt 0), .ref (A 109)] _ _ _
    refine g_if_eq 9 27 (gd rfl) rfl rfl (fun c6 => ?_) (fun c6 => ?_)
    · skip
      refine g_iconst 0 28 (gd rfl) rfl rfl ?_
      refine g_callv (X := _) (As := [.int (Int32.ofInt 0)]) (r := []) (b := A 109) (q := 109) 31 (gd rfl) rfl rfl rfl rfl rfl (ww_o rfl) (Nat.le_of_ble_eq_true rfl) (mc := 0) (ms := 0) (Nat.zero_le _) (Nat.zero_le _) (P := fun v u => _) ?_ (fun e u h => h) (fun v u h => h)
      intro po28 xx28 hp28 hx28
      refine g_enter2 (k := 271) (N := 300) (by first | exact dq1 hd rfl | exact dq0 hd rfl | exact dq2 hd rfl | exact dq3 hd rfl | omega) rfl (Nat.le_of_ble_eq_true rfl) ?_
      refine g_aload_n 1 (gd rfl) rfl rfl ?_
      refine g_iload_n 2 (gd rfl) rfl rfl ?_
      refine g_iconst 1 3 (gd rfl) rfl rfl ?_
      refine g_callv (X := _) (As := [.int (Int32.ofInt 0), .int (Int32.ofInt 1)]) (r := []) (b := A 109) (q := 109) 6 (gd rfl) rfl rfl rfl rfl rfl (ww_o rfl) (Nat.le_of_ble_eq_true rfl) (mc := 0) (ms := 0) (Nat.zero_le _) (Nat.zero_le _) (P := fun v u => _) ?_ (fun e u h => h) (fun v u h => h)
      intro po28x3 xx28x3 hp28x3 hx28x3
      refine g_enter2 (k := 270) (N := 300) (by first | exact dq1 hd rfl | exact dq0 hd rfl | exact dq2 hd rfl | exact dq3 hd rfl | omega) rfl (Nat.le_of_ble_eq_true rfl) ?_
      refine g_aload_n 1 (gd rfl) rfl rfl ?_
      refine g_iload_n 2 (gd rfl) rfl rfl ?_
      refine g_if_ne 5 9 (gd rfl) rfl rfl (fun c28x3x2 => ?_) (fun c28x3x2 => ?_)
      · skip
        exact zn_ne c28x3x2 (in_c 0 rfl) rfl
      · skip
        refine g_iconst 1 6 (gd rfl) rfl rfl ?_
        refine g_goto 18 (gd rfl) rfl ?_
        refine g_putI 21 (gd rfl) rfl rfl rfl rfl ?_
        have hI28x3x18 := inv_sF (q := 109) (j := 0) hI rfl (in_w 0 2 (in_c 1 rfl) rfl)
        refine g_aload_n 22 (gd rfl) rfl rfl ?_
        refine g_getI 25 (gd rfl) rfl rfl rfl (fun z28x3x22 e28x3x22 => ?_)
        have q28x3x22 : (Int32.ofInt 1) = z28x3x22 := (sF_get).trans e28x3x22.symm
        subst q28x3x22
        refine g_if_le 28 32 (gd rfl) rfl rfl (fun c28x3x25 => ?_) (fun c28x3x25 => ?_)
        · skip
          exact zn_le c28x3x25 (in_c 1 rfl) rfl
        · skip
          refine g_iconst 1 29 (gd rfl) rfl rfl ?_
          refine g_goto 33 (gd rfl) rfl ?_
          refine g_ireturn (gd rfl) rfl (nb01 (in_w 0 1 (in_c 1 rfl) rfl)) (hp28x3 _ _ ?_)
          show GG _ _ _ _ _ _ _ _ [.int (Int32.ofInt 1)] _ _ _
          refine g_ireturn (gd rfl) rfl (nb01 (in_w 0 1 (in_c 1 rfl) rfl)) (hp28 _ _ ?_)
          show GG _ _ _ _ _ _ _ _ [.int (Int32.ofInt 1)] _ _ _
          refine g_if_eq 34 36 (gd rfl) rfl rfl (fun c31 => ?_) (fun c31 => ?_)
          · skip
            exact zn_eq c31 (in_c 1 rfl) rfl
          · skip
            refine g_iconst 0 35 (gd rfl) rfl rfl ?_
            exact g_ireturn (gd rfl) rfl rfl (hP _ _ ⟨(sF s 109 0 (Int32.ofInt 1)), hI28x3x18, (fr_sF rfl fr_rf), (Int32.ofInt 0), rfl, rfl, in_w (-1) 159 (in_c 0 rfl) rfl⟩)
    · skip
      exact zn_ne c6 (in_c 0 rfl) rfl
  · skip
    have i3x1 := z_ge 0 2147483647 c3x1 (i_rng x1) rfl
    refine g_iload_n 5 (gd rfl) rfl rfl ?_
    refine g_aload_n 6 (gd rfl) rfl rfl ?_
    refine g_getI 9 (gd rfl) rfl rfl rfl (fun z3x6 e3x6 => ?_)
    have q3x6 : u_109_20 = z3x6 := (e_109_20).trans e3x6.symm
    subst q3x6
    refine g_cmp_ge 12 16 (gd rfl) rfl rfl (fun c3x9 => ?_) (fun c3x9 => ?_)
    · skip
      refine g_iconst 0 17 (gd rfl) rfl rfl ?_
      refine g_ireturn (gd rfl) rfl (nb01 (in_w 0 1 (in_c 0 rfl) rfl)) (hp3 _ _ ?_)
      show GG _ _ _ _ _ _ _ _ [.int (Int32.ofInt 0), .ref (A 109)] _ _ _
      refine g_if_eq 9 27 (gd rfl) rfl rfl (fun c6 => ?_) (fun c6 => ?_)
      · skip
        refine g_iconst 0 28 (gd rfl) rfl rfl ?_
        refine g_callv (X := _) (As := [.int (Int32.ofInt 0)]) (r := []) (b := A 109) (q := 109) 31 (gd rfl) rfl rfl rfl rfl rfl (ww_o rfl) (Nat.le_of_ble_eq_true rfl) (mc := 0) (ms := 0) (Nat.zero_le _) (Nat.zero_le _) (P := fun v u => _) ?_ (fun e u h => h) (fun v u h => h)
        intro po28 xx28 hp28 hx28
        refine g_enter2 (k := 271) (N := 300) (by first | exact dq1 hd rfl | exact dq0 hd rfl | exact dq2 hd rfl | exact dq3 hd rfl | omega) rfl (Nat.le_of_ble_eq_true rfl) ?_
        refine g_aload_n 1 (gd rfl) rfl rfl ?_
        refine g_iload_n 2 (gd rfl) rfl rfl ?_
        refine g_iconst 1 3 (gd rfl) rfl rfl ?_
        refine g_callv (X := _) (As := [.int (Int32.ofInt 0), .int (Int32.ofInt 1)]) (r := []) (b := A 109) (q := 109) 6 (gd rfl) rfl rfl rfl rfl rfl (ww_o rfl) (Nat.le_of_ble_eq_true rfl) (mc := 0) (ms := 0) (Nat.zero_le _) (Nat.zero_le _) (P := fun v u => _) ?_ (fun e u h => h) (fun v u h => h)
        intro po28x3 xx28x3 hp28x3 hx28x3
        refine g_enter2 (k := 270) (N := 300) (by first | exact dq1 hd rfl | exact dq0 hd rfl | exact dq2 hd rfl | exact dq3 hd rfl | omega) rfl (Nat.le_of_ble_eq_true rfl) ?_
        refine g_aload_n 1 (gd rfl) rfl rfl ?_
        refine g_iload_n 2 (gd rfl) rfl rfl ?_
        refine g_if_ne 5 9 (gd rfl) rfl rfl (fun c28x3x2 => ?_) (fun c28x3x2 => ?_)
        · skip
          exact zn_ne c28x3x2 (in_c 0 rfl) rfl
        · skip
          refine g_iconst 1 6 (gd rfl) rfl rfl ?_
          refine g_goto 18 (gd rfl) rfl ?_
          refine g_putI 21 (gd rfl) rfl rfl rfl rfl ?_
          have hI28x3x18 := inv_sF (q := 109) (j := 0) hI rfl (in_w 0 2 (in_c 1 rfl) rfl)
          refine g_aload_n 22 (gd rfl) rfl rfl ?_
          refine g_getI 25 (gd rfl) rfl rfl rfl (fun z28x3x22 e28x3x22 => ?_)
          have q28x3x22 : (Int32.ofInt 1) = z28x3x22 := (sF_get).trans e28x3x22.symm
          subst q28x3x22
          refine g_if_le 28 32 (gd rfl) rfl rfl (fun c28x3x25 => ?_) (fun c28x3x25 => ?_)
          · skip
            exact zn_le c28x3x25 (in_c 1 rfl) rfl
          · skip
            refine g_iconst 1 29 (gd rfl) rfl rfl ?_
            refine g_goto 33 (gd rfl) rfl ?_
            refine g_ireturn (gd rfl) rfl (nb01 (in_w 0 1 (in_c 1 rfl) rfl)) (hp28x3 _ _ ?_)
            show GG _ _ _ _ _ _ _ _ [.int (Int32.ofInt 1)] _ _ _
            refine g_ireturn (gd rfl) rfl (nb01 (in_w 0 1 (in_c 1 rfl) rfl)) (hp28 _ _ ?_)
            show GG _ _ _ _ _ _ _ _ [.int (Int32.ofInt 1)] _ _ _
            refine g_if_eq 34 36 (gd rfl) rfl rfl (fun c31 => ?_) (fun c31 => ?_)
            · skip
              exact zn_eq c31 (in_c 1 rfl) rfl
            · skip
              refine g_iconst 0 35 (gd rfl) rfl rfl ?_
              exact g_ireturn (gd rfl) rfl rfl (hP _ _ ⟨(sF s 109 0 (Int32.ofInt 1)), hI28x3x18, (fr_sF rfl fr_rf), (Int32.ofInt 0), rfl, rfl, in_w (-1) 159 (in_c 0 rfl) rfl⟩)
      · skip
        exact zn_ne c6 (in_c 0 rfl) rfl
    · skip
      have i3x9 := r_lt1 0 31 c3x9 i3x1 ro_109_20 rfl
      have i3x9a := r_lt2 1 32 c3x9 i3x1 ro_109_20 rfl
      refine g_iconst 1 13 (gd rfl) rfl rfl ?_
      refine g_goto 17 (gd rfl) rfl ?_
      refine g_ireturn (gd rfl) rfl (nb01 (in_w 0 1 (in_c 1 rfl) rfl)) (hp3 _ _ ?_)
      show GG _ _ _ _ _ _ _ _ [.int (Int32.ofInt 1), .ref (A 109)] _ _ _
      refine g_if_eq 9 27 (gd rfl) rfl rfl (fun c6 => ?_) (fun c6 => ?_)
      · skip
        exact zn_eq c6 (in_c 1 rfl) rfl
      · skip
        refine g_iload_n 10 (gd rfl) rfl rfl ?_
        refine g_i2l 11 (gd rfl) rfl (fun z10 e10 => ?_)
        have i10 := l_i e10 (i_rng x2)
        refine g_lconst 0 12 (gd rfl) rfl rfl ?_
        refine g_lconst 1 13 (gd rfl) rfl rfl ?_
        refine g_calls (As := [.long z10, .long (Int64.ofInt 0), .long (Int64.ofInt 1)]) (r := [.ref (A 109)]) 16 (gd rfl) rfl rfl rfl rfl rfl (Nat.le_of_ble_eq_true rfl) (mc := 0) (ms := 0) (Nat.zero_le _) (Nat.zero_le _) (P := fun v u => _) ?_ (fun v u h => h)
        intro po13 xx13 hp13 hx13
        refine g_enter2 (k := 269) (N := 300) (by first | exact dq1 hd rfl | exact dq0 hd rfl | exact dq2 hd rfl | exact dq3 hd rfl | omega) rfl (Nat.le_of_ble_eq_true rfl) ?_
        refine g_lload_n 1 (gd rfl) rfl rfl ?_
        refine g_lload_n 2 (gd rfl) rfl rfl ?_
        refine g_lcmp 3 (gd rfl) rfl (fun z13x2 e13x2 => ?_)
        have i13x2 := lc_in e13x2
        refine g_if_lt 6 17 (gd rfl) rfl rfl (fun c13x3 => ?_) (fun c13x3 => ?_)
        · skip
          have i13x3 := z_lt (-1) (-1) c13x3 i13x2 rfl
          have c13x3a := lc_lt e13x2 c13x3
          have i13x3a := lr_lt1 (-2147483648) (-1) c13x3a i10 (l_c 0 rfl) rfl
          have i13x3b := l_b e10 i13x3a
          refine g_iconst 0 18 (gd rfl) rfl rfl ?_
          refine g_ireturn (gd rfl) rfl (nb01 (in_w 0 1 (in_c 0 rfl) rfl)) (hp13 _ _ ?_)
          show GG _ _ _ _ _ _ _ _ [.int (Int32.ofInt 0), .ref (A 109)] _ _ _
          refine g_if_eq 19 27 (gd rfl) rfl rfl (fun c16 => ?_) (fun c16 => ?_)
          · skip
            refine g_iconst 0 28 (gd rfl) rfl rfl ?_
            refine g_callv (X := _) (As := [.int (Int32.ofInt 0)]) (r := []) (b := A 109) (q := 109) 31 (gd rfl) rfl rfl rfl rfl rfl (ww_o rfl) (Nat.le_of_ble_eq_true rfl) (mc := 0) (ms := 0) (Nat.zero_le _) (Nat.zero_le _) (P := fun v u => _) ?_ (fun e u h => h) (fun v u h => h)
            intro po28 xx28 hp28 hx28
            refine g_enter2 (k := 271) (N := 300) (by first | exact dq1 hd rfl | exact dq0 hd rfl | exact dq2 hd rfl | exact dq3 hd rfl | omega) rfl (Nat.le_of_ble_eq_true rfl) ?_
            refine g_aload_n 1 (gd rfl) rfl rfl ?_
            refine g_iload_n 2 (gd rfl) rfl rfl ?_
            refine g_iconst 1 3 (gd rfl) rfl rfl ?_
            refine g_callv (X := _) (As := [.int (Int32.ofInt 0), .int (Int32.ofInt 1)]) (r := []) (b := A 109) (q := 109) 6 (gd rfl) rfl rfl rfl rfl rfl (ww_o rfl) (Nat.le_of_ble_eq_true rfl) (mc := 0) (ms := 0) (Nat.zero_le _) (Nat.zero_le _) (P := fun v u => _) ?_ (fun e u h => h) (fun v u h => h)
            intro po28x3 xx28x3 hp28x3 hx28x3
            refine g_enter2 (k := 270) (N := 300) (by first | exact dq1 hd rfl | exact dq0 hd rfl | exact dq2 hd rfl | exact dq3 hd rfl | omega) rfl (Nat.le_of_ble_eq_true rfl) ?_
            refine g_aload_n 1 (gd rfl) rfl rfl ?_
            refine g_iload_n 2 (gd rfl) rfl rfl ?_
            refine g_if_ne 5 9 (gd rfl) rfl rfl (fun c28x3x2 => ?_) (fun c28x3x2 => ?_)
            · skip
              exact zn_ne c28x3x2 (in_c 0 rfl) rfl
            · skip
              refine g_iconst 1 6 (gd rfl) rfl rfl ?_
              refine g_goto 18 (gd rfl) rfl ?_
              refine g_putI 21 (gd rfl) rfl rfl rfl rfl ?_
              have hI28x3x18 := inv_sF (q := 109) (j := 0) hI rfl (in_w 0 2 (in_c 1 rfl) rfl)
              refine g_aload_n 22 (gd rfl) rfl rfl ?_
              refine g_getI 25 (gd rfl) rfl rfl rfl (fun z28x3x22 e28x3x22 => ?_)
              have q28x3x22 : (Int32.ofInt 1) = z28x3x22 := (sF_get).trans e28x3x22.symm
              subst q28x3x22
              refine g_if_le 28 32 (gd rfl) rfl rfl (fun c28x3x25 => ?_) (fun c28x3x25 => ?_)
              · skip
                exact zn_le c28x3x25 (in_c 1 rfl) rfl
              · skip
                refine g_iconst 1 29 (gd rfl) rfl rfl ?_
                refine g_goto 33 (gd rfl) rfl ?_
                refine g_ireturn (gd rfl) rfl (nb01 (in_w 0 1 (in_c 1 rfl) rfl)) (hp28x3 _ _ ?_)
                show GG _ _ _ _ _ _ _ _ [.int (Int32.ofInt 1)] _ _ _
                refine g_ireturn (gd rfl) rfl (nb01 (in_w 0 1 (in_c 1 rfl) rfl)) (hp28 _ _ ?_)
                show GG _ _ _ _ _ _ _ _ [.int (Int32.ofInt 1)] _ _ _
                refine g_if_eq 34 36 (gd rfl) rfl rfl (fun c31 => ?_) (fun c31 => ?_)
                · skip
                  exact zn_eq c31 (in_c 1 rfl) rfl
                · skip
                  refine g_iconst 0 35 (gd rfl) rfl rfl ?_
                  exact g_ireturn (gd rfl) rfl rfl (hP _ _ ⟨(sF s 109 0 (Int32.ofInt 1)), hI28x3x18, (fr_sF rfl fr_rf), (Int32.ofInt 0), rfl, rfl, in_w (-1) 159 (in_c 0 rfl) rfl⟩)
          · skip
            exact zn_ne c16 (in_c 0 rfl) rfl
        · skip
          have i13x3 := z_ge 0 1 c13x3 i13x2 rfl
          have c13x3a := lc_ge e13x2 c13x3
          have i13x3a := lr_le2 0 2147483647 c13x3a (l_c 0 rfl) i10 rfl
          have i13x3b := l_b e10 i13x3a
          refine g_lload_n 7 (gd rfl) rfl rfl ?_
          refine g_lload 9 (gd rfl) rfl rfl ?_
          refine g_lcmp 10 (gd rfl) rfl (fun z13x9 e13x9 => ?_)
          have i13x9 := lc_in e13x9
          refine g_if_gt 13 17 (gd rfl) rfl rfl (fun c13x10 => ?_) (fun c13x10 => ?_)
          · skip
            have i13x10 := z_gt 1 1 c13x10 i13x9 rfl
            have c13x10a := lc_gt e13x9 c13x10
            have i13x10a := lr_lt2 2 2147483647 c13x10a (l_c 1 rfl) i13x3a rfl
            have i13x10b := l_b e10 i13x10a
            refine g_iconst 0 18 (gd rfl) rfl rfl ?_
            refine g_ireturn (gd rfl) rfl (nb01 (in_w 0 1 (in_c 0 rfl) rfl)) (hp13 _ _ ?_)
            show GG _ _ _ _ _ _ _ _ [.int (Int32.ofInt 0), .ref (A 109)] _ _ _
            refine g_if_eq 19 27 (gd rfl) rfl rfl (fun c16 => ?_) (fun c16 => ?_)
            · skip
              refine g_iconst 0 28 (gd rfl) rfl rfl ?_
              refine g_callv (X := _) (As := [.int (Int32.ofInt 0)]) (r := []) (b := A 109) (q := 109) 31 (gd rfl) rfl rfl rfl rfl rfl (ww_o rfl) (Nat.le_of_ble_eq_true rfl) (mc := 0) (ms := 0) (Nat.zero_le _) (Nat.zero_le _) (P := fun v u => _) ?_ (fun e u h => h) (fun v u h => h)
              intro po28 xx28 hp28 hx28
              refine g_enter2 (k := 271) (N := 300) (by first | exact dq1 hd rfl | exact dq0 hd rfl | exact dq2 hd rfl | exact dq3 hd rfl | omega) rfl (Nat.le_of_ble_eq_true rfl) ?_
              refine g_aload_n 1 (gd rfl) rfl rfl ?_
              refine g_iload_n 2 (gd rfl) rfl rfl ?_
              refine g_iconst 1 3 (gd rfl) rfl rfl ?_
              refine g_callv (X := _) (As := [.int (Int32.ofInt 0), .int (Int32.ofInt 1)]) (r := []) (b := A 109) (q := 109) 6 (gd rfl) rfl rfl rfl rfl rfl (ww_o rfl) (Nat.le_of_ble_eq_true rfl) (mc := 0) (ms := 0) (Nat.zero_le _) (Nat.zero_le _) (P := fun v u => _) ?_ (fun e u h => h) (fun v u h => h)
              intro po28x3 xx28x3 hp28x3 hx28x3
              refine g_enter2 (k := 270) (N := 300) (by first | exact dq1 hd rfl | exact dq0 hd rfl | exact dq2 hd rfl | exact dq3 hd rfl | omega) rfl (Nat.le_of_ble_eq_true rfl) ?_
              refine g_aload_n 1 (gd rfl) rfl rfl ?_
              refine g_iload_n 2 (gd rfl) rfl rfl ?_
              refine g_if_ne 5 9 (gd rfl) rfl rfl (fun c28x3x2 => ?_) (fun c28x3x2 => ?_)
              · skip
                exact zn_ne c28x3x2 (in_c 0 rfl) rfl
              · skip
                refine g_iconst 1 6 (gd rfl) rfl rfl ?_
                refine g_goto 18 (gd rfl) rfl ?_
                refine g_putI 21 (gd rfl) rfl rfl rfl rfl ?_
                have hI28x3x18 := inv_sF (q := 109) (j := 0) hI rfl (in_w 0 2 (in_c 1 rfl) rfl)
                refine g_aload_n 22 (gd rfl) rfl rfl ?_
                refine g_getI 25 (gd rfl) rfl rfl rfl (fun z28x3x22 e28x3x22 => ?_)
                have q28x3x22 : (Int32.ofInt 1) = z28x3x22 := (sF_get).trans e28x3x22.symm
                subst q28x3x22
                refine g_if_le 28 32 (gd rfl) rfl rfl (fun c28x3x25 => ?_) (fun c28x3x25 => ?_)
                · skip
                  exact zn_le c28x3x25 (in_c 1 rfl) rfl
                · skip
                  refine g_iconst 1 29 (gd rfl) rfl rfl ?_
                  refine g_goto 33 (gd rfl) rfl ?_
                  refine g_ireturn (gd rfl) rfl (nb01 (in_w 0 1 (in_c 1 rfl) rfl)) (hp28x3 _ _ ?_)
                  show GG _ _ _ _ _ _ _ _ [.int (Int32.ofInt 1)] _ _ _
                  refine g_ireturn (gd rfl) rfl (nb01 (in_w 0 1 (in_c 1 rfl) rfl)) (hp28 _ _ ?_)
                  show GG _ _ _ _ _ _ _ _ [.int (Int32.ofInt 1)] _ _ _
                  refine g_if_eq 34 36 (gd rfl) rfl rfl (fun c31 => ?_) (fun c31 => ?_)
                  · skip
                    exact zn_eq c31 (in_c 1 rfl) rfl
                  · skip
                    refine g_iconst 0 35 (gd rfl) rfl rfl ?_
                    exact g_ireturn (gd rfl) rfl rfl (hP _ _ ⟨(sF s 109 0 (Int32.ofInt 1)), hI28x3x18, (fr_sF rfl fr_rf), (Int32.ofInt 0), rfl, rfl, in_w (-1) 159 (in_c 0 rfl) rfl⟩)
            · skip
              exact zn_ne c16 (in_c 0 rfl) rfl
          · skip
            have i13x10 := z_le (-1) 0 c13x10 i13x9 rfl
            have c13x10a := lc_le e13x9 c13x10
            have i13x10a := lr_le1 0 1 c13x10a i13x3a (l_c 1 rfl) rfl
            have i13x10b := l_b e10 i13x10a
            refine g_iconst 1 14 (gd rfl) rfl rfl ?_
            refine g_goto 18 (gd rfl) rfl ?_
            refine g_ireturn (gd rfl) rfl (nb01 (in_w 0 1 (in_c 1 rfl) rfl)) (hp13 _ _ ?_)
            show GG _ _ _ _ _ _ _ _ [.int (Int32.ofInt 1), .ref (A 109)] _ _ _
            refine g_if_eq 19 27 (gd rfl) rfl rfl (fun c16 => ?_) (fun c16 => ?_)
            · skip
              exact zn_eq c16 (in_c 1 rfl) rfl
            · skip
              refine g_iload_n 20 (gd rfl) rfl rfl ?_
              refine g_if_lt 23 27 (gd rfl) rfl rfl (fun c20 => ?_) (fun c20 => ?_)
              · skip
                have i20 := z_lt (-2147483648) (-1) c20 (i_rng x3) rfl
                refine g_iconst 0 28 (gd rfl) rfl rfl ?_
                refine g_callv (X := _) (As := [.int (Int32.ofInt 0)]) (r := []) (b := A 109) (q := 109) 31 (gd rfl) rfl rfl rfl rfl rfl (ww_o rfl) (Nat.le_of_ble_eq_true rfl) (mc := 0) (ms := 0) (Nat.zero_le _) (Nat.zero_le _) (P := fun v u => _) ?_ (fun e u h => h) (fun v u h => h)
                intro po28 xx28 hp28 hx28
                refine g_enter2 (k := 271) (N := 300) (by first | exact dq1 hd rfl | exact dq0 hd rfl | exact dq2 hd rfl | exact dq3 hd rfl | omega) rfl (Nat.le_of_ble_eq_true rfl) ?_
                refine g_aload_n 1 (gd rfl) rfl rfl ?_
                refine g_iload_n 2 (gd rfl) rfl rfl ?_
                refine g_iconst 1 3 (gd rfl) rfl rfl ?_
                refine g_callv (X := _) (As := [.int (Int32.ofInt 0), .int (Int32.ofInt 1)]) (r := []) (b := A 109) (q := 109) 6 (gd rfl) rfl rfl rfl rfl rfl (ww_o rfl) (Nat.le_of_ble_eq_true rfl) (mc := 0) (ms := 0) (Nat.zero_le _) (Nat.zero_le _) (P := fun v u => _) ?_ (fun e u h => h) (fun v u h => h)
                intro po28x3 xx28x3 hp28x3 hx28x3
                refine g_enter2 (k := 270) (N := 300) (by first | exact dq1 hd rfl | exact dq0 hd rfl | exact dq2 hd rfl | exact dq3 hd rfl | omega) rfl (Nat.le_of_ble_eq_true rfl) ?_
                refine g_aload_n 1 (gd rfl) rfl rfl ?_
                refine g_iload_n 2 (gd rfl) rfl rfl ?_
                refine g_if_ne 5 9 (gd rfl) rfl rfl (fun c28x3x2 => ?_) (fun c28x3x2 => ?_)
                · skip
                  exact zn_ne c28x3x2 (in_c 0 rfl) rfl
                · skip
                  refine g_iconst 1 6 (gd rfl) rfl rfl ?_
                  refine g_goto 18 (gd rfl) rfl ?_
                  refine g_putI 21 (gd rfl) rfl rfl rfl rfl ?_
                  have hI28x3x18 := inv_sF (q := 109) (j := 0) hI rfl (in_w 0 2 (in_c 1 rfl) rfl)
                  refine g_aload_n 22 (gd rfl) rfl rfl ?_
                  refine g_getI 25 (gd rfl) rfl rfl rfl (fun z28x3x22 e28x3x22 => ?_)
                  have q28x3x22 : (Int32.ofInt 1) = z28x3x22 := (sF_get).trans e28x3x22.symm
                  subst q28x3x22
                  refine g_if_le 28 32 (gd rfl) rfl rfl (fun c28x3x25 => ?_) (fun c28x3x25 => ?_)
                  · skip
                    exact zn_le c28x3x25 (in_c 1 rfl) rfl
                  · skip
                    refine g_iconst 1 29 (gd rfl) rfl rfl ?_
                    refine g_goto 33 (gd rfl) rfl ?_
                    refine g_ireturn (gd rfl) rfl (nb01 (in_w 0 1 (in_c 1 rfl) rfl)) (hp28x3 _ _ ?_)
                    show GG _ _ _ _ _ _ _ _ [.int (Int32.ofInt 1)] _ _ _
                    refine g_ireturn (gd rfl) rfl (nb01 (in_w 0 1 (in_c 1 rfl) rfl)) (hp28 _ _ ?_)
                    show GG _ _ _ _ _ _ _ _ [.int (Int32.ofInt 1)] _ _ _
                    refine g_if_eq 34 36 (gd rfl) rfl rfl (fun c31 => ?_) (fun c31 => ?_)
                    · skip
                      exact zn_eq c31 (in_c 1 rfl) rfl
                    · skip
                      refine g_iconst 0 35 (gd rfl) rfl rfl ?_
                      exact g_ireturn (gd rfl) rfl rfl (hP _ _ ⟨(sF s 109 0 (Int32.ofInt 1)), hI28x3x18, (fr_sF rfl fr_rf), (Int32.ofInt 0), rfl, rfl, in_w (-1) 159 (in_c 0 rfl) rfl⟩)
              · skip
                have i20 := z_ge 0 2147483647 c20 (i_rng x3) rfl
                refine g_iconst 1 24 (gd rfl) rfl rfl ?_
                refine g_goto 28 (gd rfl) rfl ?_
                refine g_callv (X := _) (As := [.int (Int32.ofInt 1)]) (r := []) (b := A 109) (q := 109) 31 (gd rfl) rfl rfl rfl rfl rfl (ww_o rfl) (Nat.le_of_ble_eq_true rfl) (mc := 0) (ms := 0) (Nat.zero_le _) (Nat.zero_le _) (P := fun v u => _) ?_ (fun e u h => h) (fun v u h => h)
                intro po28 xx28 hp28 hx28
                refine g_enter2 (k := 271) (N := 300) (by first | exact dq1 hd rfl | exact dq0 hd rfl | exact dq2 hd rfl | exact dq3 hd rfl | omega) rfl (Nat.le_of_ble_eq_true rfl) ?_
                refine g_aload_n 1 (gd rfl) rfl rfl ?_
                refine g_iload_n 2 (gd rfl) rfl rfl ?_
                refine g_iconst 1 3 (gd rfl) rfl rfl ?_
                refine g_callv (X := _) (As := [.int (Int32.ofInt 1), .int (Int32.ofInt 1)]) (r := []) (b := A 109) (q := 109) 6 (gd rfl) rfl rfl rfl rfl rfl (ww_o rfl) (Nat.le_of_ble_eq_true rfl) (mc := 0) (ms := 0) (Nat.zero_le _) (Nat.zero_le _) (P := fun v u => _) ?_ (fun e u h => h) (fun v u h => h)
                intro po28x3 xx28x3 hp28x3 hx28x3
                refine g_enter2 (k := 270) (N := 300) (by first | exact dq1 hd rfl | exact dq0 hd rfl | exact dq2 hd rfl | exact dq3 hd rfl | omega) rfl (Nat.le_of_ble_eq_true rfl) ?_
                refine g_aload_n 1 (gd rfl) rfl rfl ?_
                refine g_iload_n 2 (gd rfl) rfl rfl ?_
                refine g_if_ne 5 9 (gd rfl) rfl rfl (fun c28x3x2 => ?_) (fun c28x3x2 => ?_)
                · skip
                  refine g_iload_n 10 (gd rfl) rfl rfl ?_
                  refine g_if_ne 13 17 (gd rfl) rfl rfl (fun c28x3x10 => ?_) (fun c28x3x10 => ?_)
                  · skip
                    refine g_iconst 0 18 (gd rfl) rfl rfl ?_
                    refine g_putI 21 (gd rfl) rfl rfl rfl rfl ?_
                    have hI28x3x18 := inv_sF (q := 109) (j := 0) hI rfl (in_w 0 2 (in_c 0 rfl) rfl)
                    refine g_aload_n 22 (gd rfl) rfl rfl ?_
                    refine g_getI 25 (gd rfl) rfl rfl rfl (fun z28x3x22 e28x3x22 => ?_)
                    have q28x3x22 : (Int32.ofInt 0) = z28x3x22 := (sF_get).trans e28x3x22.symm
                    subst q28x3x22
                    refine g_if_le 28 32 (gd rfl) rfl rfl (fun c28x3x25 => ?_) (fun c28x3x25 => ?_)
                    · skip
                      refine g_iconst 0 33 (gd rfl) rfl rfl ?_
                      refine g_ireturn (gd rfl) rfl (nb01 (in_w 0 1 (in_c 0 rfl) rfl)) (hp28x3 _ _ ?_)
                      show GG _ _ _ _ _ _ _ _ [.int (Int32.ofInt 0)] _ _ _
                      refine g_ireturn (gd rfl) rfl (nb01 (in_w 0 1 (in_c 0 rfl) rfl)) (hp28 _ _ ?_)
                      show GG _ _ _ _ _ _ _ _ [.int (Int32.ofInt 0)] _ _ _
                      refine g_if_eq 34 36 (gd rfl) rfl rfl (fun c31 => ?_) (fun c31 => ?_)
                      · skip
                        refine g_iconst 0 37 (gd rfl) rfl rfl ?_
                        refine g_istore 39 (gd rfl) rfl (Nat.le_of_ble_eq_true rfl) ?_
                        refine g_iconst 0 40 (gd rfl) rfl rfl ?_
                        refine g_istore 42 (gd rfl) rfl (Nat.le_of_ble_eq_true rfl) ?_
                        exact gg_w (by first | exact Nat.le_of_ble_eq_true rfl | omega) (gg_f (gf_cons rfl (gf_cons rfl (gf_cons rfl (gf_cons rfl (gf_cons rfl (gf_cons rfl gf_nil)))))) (ct42 161 (sF s 109 0 (Int32.ofInt 0)) (Int32.ofInt 0) (Int32.ofInt 0) hI28x3x18 (fr_sF rfl fr_rf) (in_w 0 31 i3x9 rfl) (in_w 0 1 i13x10b rfl) (in_w 0 2147483647 i20 rfl) (in_w 0 160 (in_c 0 rfl) rfl) (m_in 161 (in_w 0 160 (in_c 0 rfl) rfl) rfl)))
                      · skip
                        exact zn_ne c31 (in_c 0 rfl) rfl
                    · skip
                      exact zn_gt c28x3x25 (in_c 0 rfl) rfl
                  · skip
                    exact zn_eq c28x3x10 (in_c 1 rfl) rfl
                · skip
                  exact zn_eq c28x3x2 (in_c 1 rfl) rfl

def fm_293 : FM := ([125], [], [(109, 0), (109, 22)], [])
def fm_294 : FM := ([], [], [(109, 0), (109, 22)], [])
def fm_295 : FM := ([], [], [(109, 0)], [])
/-- GraphHouseModel.fault -/
theorem k_295 {Z : AmZ} {A : Nat → Nat} {s : GS} {ex : va_W} {d : Nat} {X : AmX} {x1 : Int32} (hd : 4 ≤ d) (hI : Inv s)  : GC Z d 295 [.ref (A 109), .int x1] (WW Z A s ++ ex) 0 0 (fun v u => ∃ t : GS, Inv t ∧ Fr fm_295 s t ∧ ∃ z : Int32, v = some (.int z) ∧ u = WW Z A t ++ ex ∧ In z (-2147483648) 2147483647) X := by
  intro post xp hP hX
  obtain ⟨u_109_23, e_109_23⟩ : ∃ w, w = s.2.2.1 109 23 := ⟨_, rfl⟩
  have ro_109_23 := inv_F hI 0 9 rfl e_109_23
  obtain ⟨u_109_24, e_109_24⟩ : ∃ w, w = s.2.2.1 109 24 := ⟨_, rfl⟩
  refine g_enter2 (k := 295) (N := 900) (by first | exact dq1 hd rfl | exact dq0 hd rfl | exact dq2 hd rfl | exact dq3 hd rfl | omega) rfl (Nat.le_of_ble_eq_true rfl) ?_
  refine g_aload_n 1 (gd rfl) rfl rfl ?_
  refine g_iload_n 2 (gd rfl) rfl rfl ?_
  refine g_i2l 3 (gd rfl) rfl (fun z2 e2 => ?_)
  have i2 := l_i e2 (i_rng x1)
  refine g_lconst 0 4 (gd rfl) rfl rfl ?_
  refine g_lconst 1 5 (gd rfl) rfl rfl ?_
  refine g_calls (As := [.long z2, .long (Int64.ofInt 0), .long (Int64.ofInt 1)]) (r := [.ref (A 109)]) 8 (gd rfl) rfl rfl rfl rfl rfl (Nat.le_of_ble_eq_true rfl) (mc := 0) (ms := 0) (Nat.zero_le _) (Nat.zero_le _) (P := fun v u => _) ?_ (fun v u h => h)
  intro po5 xx5 hp5 hx5
  refine g_enter2 (k := 269) (N := 300) (by first | exact dq1 hd rfl | exact dq0 hd rfl | exact dq2 hd rfl | exact dq3 hd rfl | omega) rfl (Nat.le_of_ble_eq_true rfl) ?_
  refine g_lload_n 1 (gd rfl) rfl rfl ?_
  refine g_lload_n 2 (gd rfl) rfl rfl ?_
  refine g_lcmp 3 (gd rfl) rfl (fun z5x2 e5x2 => ?_)
  have i5x2 := lc_in e5x2
  refine g_if_lt 6 17 (gd rfl) rfl rfl (fun c5x3 => ?_) (fun c5x3 => ?_)
  · skip
    have i5x3 := z_lt (-1) (-1) c5x3 i5x2 rfl
    have c5x3a := lc_lt e5x2 c5x3
    have i5x3a := lr_lt1 (-2147483648) (-1) c5x3a i2 (l_c 0 rfl) rfl
    have i5x3b := l_b e2 i5x3a
    refine g_iconst 0 18 (gd rfl) rfl rfl ?_
    refine g_ireturn (gd rfl) rfl (nb01 (in_w 0 1 (in_c 0 rfl) rfl)) (hp5 _ _ ?_)
    show GG _ _ _ _ _ _ _ _ [.int (Int32.ofInt 0), .ref (A 109)] _ _ _
    refine g_callv (X := _) (As := [.int (Int32.ofInt 0)]) (r := []) (b := A 109) (q := 109) 11 (gd rfl) rfl rfl rfl rfl rfl (ww_o rfl) (Nat.le_of_ble_eq_true rfl) (mc := 0) (ms := 0) (Nat.zero_le _) (Nat.zero_le _) (P := fun v u => _) ?_ (fun e u h => h) (fun v u h => h)
    intro po8 xx8 hp8 hx8
    refine g_enter2 (k := 271) (N := 300) (by first | exact dq1 hd rfl | exact dq0 hd rfl | exact dq2 hd rfl | exact dq3 hd rfl | omega) rfl (Nat.le_of_ble_eq_true rfl) ?_
    refine g_aload_n 1 (gd rfl) rfl rfl ?_
    refine g_iload_n 2 (gd rfl) rfl rfl ?_
    refine g_iconst 1 3 (gd rfl) rfl rfl ?_
    refine g_callv (X := _) (As := [.int (Int32.ofInt 0), .int (Int32.ofInt 1)]) (r := []) (b := A 109) (q := 109) 6 (gd rfl) rfl rfl rfl rfl rfl (ww_o rfl) (Nat.le_of_ble_eq_true rfl) (mc := 0) (ms := 0) (Nat.zero_le _) (Nat.zero_le _) (P := fun v u => _) ?_ (fun e u h => h) (fun v u h => h)
    intro po8x3 xx8x3 hp8x3 hx8x3
    refine g_enter2 (k := 270) (N := 300) (by first | exact dq1 hd rfl | exact dq0 hd rfl | exact dq2 hd rfl | exact dq3 hd rfl | omega) rfl (Nat.le_of_ble_eq_true rfl) ?_
    refine g_aload_n 1 (gd rfl) rfl rfl ?_
    refine g_iload_n 2 (gd rfl) rfl rfl ?_
    refine g_if_ne 5 9 (gd rfl) rfl rfl (fun c8x3x2 => ?_) (fun c8x3x2 => ?_)
    · skip
      exact zn_ne c8x3x2 (in_c 0 rfl) rfl
    · skip
      refine g_iconst 1 6 (gd rfl) rfl rfl ?_
      refine g_goto 18 (gd rfl) rfl ?_
      refine g_putI 21 (gd rfl) rfl rfl rfl rfl ?_
      have hI8x3x18 := inv_sF (q := 109) (j := 0) hI rfl (in_w 0 2 (in_c 1 rfl) rfl)
      refine g_aload_n 22 (gd rfl) rfl rfl ?_
      refine g_getI 25 (gd rfl) rfl rfl rfl (fun z8x3x22 e8x3x22 => ?_)
      have q8x3x22 : (Int32.ofInt 1) = z8x3x22 := (sF_get).trans e8x3x22.symm
      subst q8x3x22
      refine g_if_le 28 32 (gd rfl) rfl rfl (fun c8x3x25 => ?_) (fun c8x3x25 => ?_)
      · skip
        exact zn_le c8x3x25 (in_c 1 rfl) rfl
      · skip
        refine g_iconst 1 29 (gd rfl) rfl rfl ?_
        refine g_goto 33 (gd rfl) rfl ?_
        refine g_ireturn (gd rfl) rfl (nb01 (in_w 0 1 (in_c 1 rfl) rfl)) (hp8x3 _ _ ?_)
        show GG _ _ _ _ _ _ _ _ [.int (Int32.ofInt 1)] _ _ _
        refine g_ireturn (gd rfl) rfl (nb01 (in_w 0 1 (in_c 1 rfl) rfl)) (hp8 _ _ ?_)
        show GG _ _ _ _ _ _ _ _ [.int (Int32.ofInt 1)] _ _ _
        refine g_if_eq 14 16 (gd rfl) rfl rfl (fun c11 => ?_) (fun c11 => ?_)
        · skip
          exact zn_eq c11 (in_c 1 rfl) rfl
        · skip
          refine g_iconst 0 15 (gd rfl) rfl rfl ?_
          exact g_ireturn (gd rfl) rfl rfl (hP _ _ ⟨(sF s 109 0 (Int32.ofInt 1)), hI8x3x18, (fr_sF rfl fr_rf), (Int32.ofInt 0), rfl, rfl, in_w (-2147483648) 2147483647 (in_c 0 rfl) rfl⟩)
  · skip
    have i5x3 := z_ge 0 1 c5x3 i5x2 rfl
    have c5x3a := lc_ge e5x2 c5x3
    have i5x3a := lr_le2 0 2147483647 c5x3a (l_c 0 rfl) i2 rfl
    have i5x3b := l_b e2 i5x3a
    refine g_lload_n 7 (gd rfl) rfl rfl ?_
    refine g_lload 9 (gd rfl) rfl rfl ?_
    refine g_lcmp 10 (gd rfl) rfl (fun z5x9 e5x9 => ?_)
    have i5x9 := lc_in e5x9
    refine g_if_gt 13 17 (gd rfl) rfl rfl (fun c5x10 => ?_) (fun c5x10 => ?_)
    · skip
      have i5x10 := z_gt 1 1 c5x10 i5x9 rfl
      have c5x10a := lc_gt e5x9 c5x10
      have i5x10a := lr_lt2 2 2147483647 c5x10a (l_c 1 rfl) i5x3a rfl
      have i5x10b := l_b e2 i5x10a
      refine g_iconst 0 18 (gd rfl) rfl rfl ?_
      refine g_ireturn (gd rfl) rfl (nb01 (in_w 0 1 (in_c 0 rfl) rfl)) (hp5 _ _ ?_)
      show GG _ _ _ _ _ _ _ _ [.int (Int32.ofInt 0), .ref (A 109)] _ _ _
      refine g_callv (X := _) (As := [.int (Int32.ofInt 0)]) (r := []) (b := A 109) (q := 109) 11 (gd rfl) rfl rfl rfl rfl rfl (ww_o rfl) (Nat.le_of_ble_eq_true rfl) (mc := 0) (ms := 0) (Nat.zero_le _) (Nat.zero_le _) (P := fun v u => _) ?_ (fun e u h => h) (fun v u h => h)
      intro po8 xx8 hp8 hx8
      refine g_enter2 (k := 271) (N := 300) (by first | exact dq1 hd rfl | exact dq0 hd rfl | exact dq2 hd rfl | exact dq3 hd rfl | omega) rfl (Nat.le_of_ble_eq_true rfl) ?_
      refine g_aload_n 1 (gd rfl) rfl rfl ?_
      refine g_iload_n 2 (gd rfl) rfl rfl ?_
      refine g_iconst 1 3 (gd rfl) rfl rfl ?_
      refine g_callv (X := _) (As := [.int (Int32.ofInt 0), .int (Int32.ofInt 1)]) (r := []) (b := A 109) (q := 109) 6 (gd rfl) rfl rfl rfl rfl rfl (ww_o rfl) (Nat.le_of_ble_eq_true rfl) (mc := 0) (ms := 0) (Nat.zero_le _) (Nat.zero_le _) (P := fun v u => _) ?_ (fun e u h => h) (fun v u h => h)
      intro po8x3 xx8x3 hp8x3 hx8x3
      refine g_enter2 (k := 270) (N := 300) (by first | exact dq1 hd rfl | exact dq0 hd rfl | exact dq2 hd rfl | exact dq3 hd rfl | omega) rfl (Nat.le_of_ble_eq_true rfl) ?_
      refine g_aload_n 1 (gd rfl) rfl rfl ?_
      refine g_iload_n 2 (gd rfl) rfl rfl ?_
      refine g_if_ne 5 9 (gd rfl) rfl rfl (fun c8x3x2 => ?_) (fun c8x3x2 => ?_)
      · skip
        exact zn_ne c8x3x2 (in_c 0 rfl) rfl
      · skip
        refine g_iconst 1 6 (gd rfl) rfl rfl ?_
        refine g_goto 18 (gd rfl) rfl ?_
        refine g_putI 21 (gd rfl) rfl rfl rfl rfl ?_
        have hI8x3x18 := inv_sF (q := 109) (j := 0) hI rfl (in_w 0 2 (in_c 1 rfl) rfl)
        refine g_aload_n 22 (gd rfl) rfl rfl ?_
        refine g_getI 25 (gd rfl) rfl rfl rfl (fun z8x3x22 e8x3x22 => ?_)
        have q8x3x22 : (Int32.ofInt 1) = z8x3x22 := (sF_get).trans e8x3x22.symm
        subst q8x3x22
        refine g_if_le 28 32 (gd rfl) rfl rfl (fun c8x3x25 => ?_) (fun c8x3x25 => ?_)
        · skip
          exact zn_le c8x3x25 (in_c 1 rfl) rfl
        · skip
          refine g_iconst 1 29 (gd rfl) rfl rfl ?_
          refine g_goto 33 (gd rfl) rfl ?_
          refine g_ireturn (gd rfl) rfl (nb01 (in_w 0 1 (in_c 1 rfl) rfl)) (hp8x3 _ _ ?_)
          show GG _ _ _ _ _ _ _ _ [.int (Int32.ofInt 1)] _ _ _
          refine g_ireturn (gd rfl) rfl (nb01 (in_w 0 1 (in_c 1 rfl) rfl)) (hp8 _ _ ?_)
          show GG _ _ _ _ _ _ _ _ [.int (Int32.ofInt 1)] _ _ _
          refine g_if_eq 14 16 (gd rfl) rfl rfl (fun c11 => ?_) (fun c11 => ?_)
          · skip
            exact zn_eq c11 (in_c 1 rfl) rfl
          · skip
            refine g_iconst 0 15 (gd rfl) rfl rfl ?_
            exact g_ireturn (gd rfl) rfl rfl (hP _ _ ⟨(sF s 109 0 (Int32.ofInt 1)), hI8x3x18, (fr_sF rfl fr_rf), (Int32.ofInt 0), rfl, rfl, in_w (-2147483648) 2147483647 (in_c 0 rfl) rfl⟩)
    · skip
      have i5x10 := z_le (-1) 0 c5x10 i5x9 rfl
      have c5x10a := lc_le e5x9 c5x10
      have i5x10a := lr_le1 0 1 c5x10a i5x3a (l_c 1 rfl) rfl
      have i5x10b := l_b e2 i5x10a
      refine g_iconst 1 14 (gd rfl) rfl rfl ?_
      refine g_goto 18 (gd rfl) rfl ?_
      refine g_ireturn (gd rfl) rfl (nb01 (in_w 0 1 (in_c 1 rfl) rfl)) (hp5 _ _ ?_)
      show GG _ _ _ _ _ _ _ _ [.int (Int32.ofInt 1), .ref (A 109)] _ _ _
      refine g_callv (X := _) (As := [.int (Int32.ofInt 1)]) (r := []) (b := A 109) (q := 109) 11 (gd rfl) rfl rfl rfl rfl rfl (ww_o rfl) (Nat.le_of_ble_eq_true rfl) (mc := 0) (ms := 0) (Nat.zero_le _) (Nat.zero_le _) (P := fun v u => _) ?_ (fun e u h => h) (fun v u h => h)
      intro po8 xx8 hp8 hx8
      refine g_enter2 (k := 271) (N := 300) (by first | exact dq1 hd rfl | exact dq0 hd rfl | exact dq2 hd rfl | exact dq3 hd rfl | omega) rfl (Nat.le_of_ble_eq_true rfl) ?_
      refine g_aload_n 1 (gd rfl) rfl rfl ?_
      refine g_iload_n 2 (gd rfl) rfl rfl ?_
      refine g_iconst 1 3 (gd rfl) rfl rfl ?_
      refine g_callv (X := _) (As := [.int (Int32.ofInt 1), .int (Int32.ofInt 1)]) (r := []) (b := A 109) (q := 109) 6 (gd rfl) rfl rfl rfl rfl rfl (ww_o rfl) (Nat.le_of_ble_eq_true rfl) (mc := 0) (ms := 0) (Nat.zero_le _) (Nat.zero_le _) (P := fun v u => _) ?_ (fun e u h => h) (fun v u h => h)
      intro po8x3 xx8x3 hp8x3 hx8x3
      refine g_enter2 (k := 270) (N := 300) (by first | exact dq1 hd rfl | exact dq0 hd rfl | exact dq2 hd rfl | exact dq3 hd rfl | omega) rfl (Nat.le_of_ble_eq_true rfl) ?_
      refine g_aload_n 1 (gd rfl) rfl rfl ?_
      refine g_iload_n 2 (gd rfl) rfl rfl ?_
      refine g_if_ne 5 9 (gd rfl) rfl rfl (fun c8x3x2 => ?_) (fun c8x3x2 => ?_)
      · skip
        refine g_iload_n 10 (gd rfl) rfl rfl ?_
        refine g_if_ne 13 17 (gd rfl) rfl rfl (fun c8x3x10 => ?_) (fun c8x3x10 => ?_)
        · skip
          refine g_iconst 0 18 (gd rfl) rfl rfl ?_
          refine g_putI 21 (gd rfl) rfl rfl rfl rfl ?_
          have hI8x3x18 := inv_sF (q := 109) (j := 0) hI rfl (in_w 0 2 (in_c 0 rfl) rfl)
          refine g_aload_n 22 (gd rfl) rfl rfl ?_
          refine g_getI 25 (gd rfl) rfl rfl rfl (fun z8x3x22 e8x3x22 => ?_)
          have q8x3x22 : (Int32.ofInt 0) = z8x3x22 := (sF_get).trans e8x3x22.symm
          subst q8x3x22
          refine g_if_le 28 32 (gd rfl) rfl rfl (fun c8x3x25 => ?_) (fun c8x3x25 => ?_)
          · skip
            refine g_iconst 0 33 (gd rfl) rfl rfl ?_
            refine g_ireturn (gd rfl) rfl (nb01 (in_w 0 1 (in_c 0 rfl) rfl)) (hp8x3 _ _ ?_)
            show GG _ _ _ _ _ _ _ _ [.int (Int32.ofInt 0)] _ _ _
            refine g_ireturn (gd rfl) rfl (nb01 (in_w 0 1 (in_c 0 rfl) rfl)) (hp8 _ _ ?_)
            show GG _ _ _ _ _ _ _ _ [.int (Int32.ofInt 0)] _ _ _
            refine g_if_eq 14 16 (gd rfl) rfl rfl (fun c11 => ?_) (fun c11 => ?_)
            · skip
              refine g_aload_n 17 (gd rfl) rfl rfl ?_
              refine g_getI 20 (gd rfl) rfl rfl rfl (fun z17 e17 => ?_)
              have q17 : u_109_23 = z17 := (sF_ne rfl (e_109_23)).trans e17.symm
              subst q17
              refine g_if_ne 23 27 (gd rfl) rfl rfl (fun c20 => ?_) (fun c20 => ?_)
              · skip
                have i20 := z_ne 1 9 c20 ro_109_23 rfl
                refine g_iload_n 28 (gd rfl) rfl rfl ?_
                refine g_if_ne 31 38 (gd rfl) rfl rfl (fun c28 => ?_) (fun c28 => ?_)
                · skip
                  have i28 := z_ne 1 1 c28 i5x10b rfl
                  refine g_aload_n 39 (gd rfl) rfl rfl ?_
                  refine g_getI 42 (gd rfl) rfl rfl rfl (fun z39 e39 => ?_)
                  have q39 : u_109_24 = z39 := (sF_ne rfl (e_109_24)).trans e39.symm
                  subst q39
                  exact g_ireturn (gd rfl) rfl rfl (hP _ _ ⟨(sF s 109 0 (Int32.ofInt 0)), hI8x3x18, (fr_sF rfl fr_rf), u_109_24, rfl, rfl, in_w (-2147483648) 2147483647 (i_rng u_109_24) rfl⟩)
                · skip
                  have i28 := z_eq 0 0 c28 i5x10b rfl
                  refine g_aload_n 32 (gd rfl) rfl rfl ?_
                  refine g_getI 35 (gd rfl) rfl rfl rfl (fun z32 e32 => ?_)
                  have q32 : u_109_23 = z32 := (sF_ne rfl (e_109_23)).trans e32.symm
                  subst q32
                  refine g_goto 42 (gd rfl) rfl ?_
                  exact g_ireturn (gd rfl) rfl rfl (hP _ _ ⟨(sF s 109 0 (Int32.ofInt 0)), hI8x3x18, (fr_sF rfl fr_rf), u_109_23, rfl, rfl, in_w (-2147483648) 2147483647 i20 rfl⟩)
              · skip
                have i20 := z_eq 0 0 c20 ro_109_23 rfl
                refine g_iconst (-1) 24 (gd rfl) rfl rfl ?_
                refine g_goto 42 (gd rfl) rfl ?_
                exact g_ireturn (gd rfl) rfl rfl (hP _ _ ⟨(sF s 109 0 (Int32.ofInt 0)), hI8x3x18, (fr_sF rfl fr_rf), (Int32.ofInt (-1)), rfl, rfl, in_w (-2147483648) 2147483647 (in_c (-1) rfl) rfl⟩)
            · skip
              exact zn_ne c11 (in_c 0 rfl) rfl
          · skip
            exact zn_gt c8x3x25 (in_c 0 rfl) rfl
        · skip
          exact zn_eq c8x3x10 (in_c 1 rfl) rfl
      · skip
        exact zn_eq c8x3x2 (in_c 1 rfl) rfl

def fm_303 : FM := ([110, 112], [], [], [])
end
