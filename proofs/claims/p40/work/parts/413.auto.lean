/-! methods, by vc.py -/
def fm_370_109_165_166 : FM := ([165], [166], [], [])
/-- GraphHouseModel.hop -/
theorem k_370_109_165_166 {Z : AmZ} {A : Nat → Nat} {s : GS} {ex : va_W} {d : Nat} {X : AmX} {x1 : Int32} {x2 : Int32} (hd : 1 ≤ d) (hI : Inv s) (h1 : In x1 0 31) (h2 : In x2 0 0) : GC Z d 370 [.ref (A 109), .int x1, .int x2, .ref (A 165), .ref (A 166)] (WW Z A s ++ ex) 0 0 (fun v u => ∃ t : GS, Inv t ∧ Fr fm_370_109_165_166 s t ∧ v = none ∧ u = WW Z A t ++ ex) X := by
  intro post xp hP hX
  obtain ⟨u_109_19, e_109_19⟩ : ∃ w, w = s.2.2.1 109 19 := ⟨_, rfl⟩
  have ro_109_19 := inv_F hI 0 160 rfl e_109_19
  obtain ⟨u_109_20, e_109_20⟩ : ∃ w, w = s.2.2.1 109 20 := ⟨_, rfl⟩
  have ro_109_20 := inv_F hI 0 32 rfl e_109_20
  have ct52 : ∀ (k52 : Nat) (sc52 : GS) (y52_5 : Int32), Inv sc52 → Fr fm_370_109_165_166 s sc52 → (In y52_5 0 32) → 32 - (y52_5).toInt < (k52 : Int) → GG Z (d - 1) 370 post (gx xp) (1 + k52 * 363601) 52 (fun j => xlook j [(0, .ref (A 109)), (1, .int x1), (2, .int x2), (3, .ref (A 165)), (4, .ref (A 166)), (5, .int y52_5)]) [] (WW Z A sc52 ++ ex) 0 0 := by
    intro k52
    induction k52 with
    | zero => intro sc52 y52_5 hIc52 hFc52 j52_5 mm52; exact m_no mm52 j52_5 rfl
    | succ k52 ih52 =>
      intro sc52 y52_5 hIc52 hFc52 j52_5 mm52
      refine gg_w (M := 1 + k52 * 363601 + 363601) gws ?_
      have ct67 : ∀ (k67 : Nat) (sc67 : GS) (y67_6 : Int32), Inv sc67 → Fr fm_370_109_165_166 s sc67 → (In y52_5 0 31) → (In y67_6 0 400) → 400 - (y67_6).toInt < (k67 : Int) → GG Z (d - 1) 370 post (gx xp) (1 + k52 * 363601 + 1 + k67 * 900) 67 (fun j => xlook j [(0, .ref (A 109)), (1, .int x1), (2, .int x2), (3, .ref (A 165)), (4, .ref (A 166)), (5, .int y52_5), (6, .int y67_6)]) [] (WW Z A sc67 ++ ex) 0 0 := by
        intro k67
        induction k67 with
        | zero => intro sc67 y67_6 hIc67 hFc67 j67_5 j67_6 mm67; exact m_no mm67 j67_6 rfl
        | succ k67 ih67 =>
          intro sc67 y67_6 hIc67 hFc67 j67_5 j67_6 mm67
          refine gg_w (M := 1 + k52 * 363601 + 1 + k67 * 900 + 900) gws ?_
          refine g_iload 69 (gd rfl) rfl rfl ?_
          refine g_aload_n 70 (gd rfl) rfl rfl ?_
          refine g_getI 73 (gd rfl) rfl rfl rfl (fun z70 e70 => ?_)
          have q70 : u_109_19 = z70 := (fr_F e_109_19 hFc67 rfl).trans e70.symm
          subst q70
          refine g_sipush 160 76 (gd rfl) rfl rfl ?_
          refine g_iadd 77 (gd rfl) rfl (fun z76 e76 => ?_)
          have i76 := in_add 160 320 e76 ro_109_19 (in_c 160 rfl) rfl rfl
          refine g_cmp_ge 80 197 (gd rfl) rfl rfl (fun c77 => ?_) (fun c77 => ?_)
          · skip
            have i77 := r_le2 160 400 c77 i76 j67_6 rfl
            refine g_iinc 200 (gd rfl) rfl rfl (Nat.le_of_ble_eq_true rfl) (fun z197 e197 => ?_)
            have i197 := in_add 1 32 e197 j67_5 (in_c 1 rfl) rfl rfl
            refine g_goto 52 (gd rfl) rfl ?_
            exact gg_w (by first | exact Nat.le_add_right _ _ | exact gw2 | exact gw3 | exact gwe rfl | exact gwf rfl | exact gwg rfl | exact gwh rfl | omega) (gg_f (gf_cons rfl (gf_cons rfl (gf_cons rfl (gf_cons rfl (gf_cons rfl (gf_cons rfl gf_nil)))))) (ih52 sc67 z197 hIc67 hFc67 (in_w 0 32 i197 rfl) (m_up mm52 (t_add e197 j67_5 (in_c 1 rfl) rfl) (in_w 1 1 (in_c 1 rfl) rfl))))
          · skip
            have i77 := r_lt1 0 319 c77 j67_6 i76 rfl
            refine g_iload_n 81 (gd rfl) rfl rfl ?_
            refine g_if_eq 84 94 (gd rfl) rfl rfl (fun c81 => ?_) (fun c81 => ?_)
            · skip
              refine g_aload_n 95 (gd rfl) rfl rfl ?_
              refine g_getA (q2 := 113) 98 (gd rfl) rfl rfl rfl rfl ?_
              refine g_iload 100 (gd rfl) rfl rfl ?_
              refine g_iaload 101 (gd rfl) rfl (n := 480) rfl (in_ix i77 rfl) (fun z100 e100 => ?_)
              have i100 := inv_I hIc67 (n := 480) (t := 0) 0 31 rfl (in_ix i77 rfl) rfl e100
              refine g_istore 103 (gd rfl) rfl (Nat.le_of_ble_eq_true rfl) ?_
              refine g_iload_n 104 (gd rfl) rfl rfl ?_
              refine g_if_eq 107 117 (gd rfl) rfl rfl (fun c104 => ?_) (fun c104 => ?_)
              · skip
                refine g_aload_n 118 (gd rfl) rfl rfl ?_
                refine g_getA (q2 := 114) 121 (gd rfl) rfl rfl rfl rfl ?_
                refine g_iload 123 (gd rfl) rfl rfl ?_
                refine g_iaload 124 (gd rfl) rfl (n := 480) rfl (in_ix i77 rfl) (fun z123 e123 => ?_)
                have i123 := inv_I hIc67 (n := 480) (t := 0) 0 31 rfl (in_ix i77 rfl) rfl e123
                refine g_istore 126 (gd rfl) rfl (Nat.le_of_ble_eq_true rfl) ?_
                refine g_aload_n 127 (gd rfl) rfl rfl ?_
                refine g_getA (q2 := 112) 130 (gd rfl) rfl rfl rfl rfl ?_
                refine g_iload 132 (gd rfl) rfl rfl ?_
                refine g_baload 133 (gd rfl) rfl (n := 480) rfl (in_ix i77 rfl) (fun z132 e132 => ?_)
                have i132 := inv_I hIc67 (n := 480) (t := 3) 0 1 rfl (in_ix i77 rfl) rfl e132
                refine g_if_eq 136 191 (gd rfl) rfl rfl (fun c133 => ?_) (fun c133 => ?_)
                · skip
                  have i133 := z_eq 0 0 c133 i132 rfl
                  refine g_iinc 194 (gd rfl) rfl rfl (Nat.le_of_ble_eq_true rfl) (fun z191 e191 => ?_)
                  have i191 := in_add 1 320 e191 i77 (in_c 1 rfl) rfl rfl
                  refine g_goto 67 (gd rfl) rfl ?_
                  exact gg_w (by first | exact Nat.le_add_right _ _ | exact gw2 | exact gw3 | exact gwe rfl | exact gwf rfl | exact gwg rfl | exact gwh rfl | omega) (gg_f (gf_cons rfl (gf_cons rfl (gf_cons rfl (gf_cons rfl (gf_cons rfl (gf_cons rfl (gf_cons rfl gf_nil))))))) (ih67 sc67 z191 hIc67 hFc67 (in_w 0 31 j67_5 rfl) (in_w 0 400 i191 rfl) (m_up mm67 (t_add e191 i77 (in_c 1 rfl) rfl) (in_w 1 1 (in_c 1 rfl) rfl))))
                · skip
                  have i133 := z_ne 1 1 c133 i132 rfl
                  refine g_aload_n 137 (gd rfl) rfl rfl ?_
                  refine g_iload 139 (gd rfl) rfl rfl ?_
                  refine g_iaload 140 (gd rfl) rfl (n := 32) rfl (in_ix i100 rfl) (fun z139 e139 => ?_)
                  refine g_iload 142 (gd rfl) rfl rfl ?_
                  refine g_cmp_ne 145 191 (gd rfl) rfl rfl (fun c142 => ?_) (fun c142 => ?_)
                  · skip
                    refine g_iinc 194 (gd rfl) rfl rfl (Nat.le_of_ble_eq_true rfl) (fun z191 e191 => ?_)
                    have i191 := in_add 1 320 e191 i77 (in_c 1 rfl) rfl rfl
                    refine g_goto 67 (gd rfl) rfl ?_
                    exact gg_w (by first | exact Nat.le_add_right _ _ | exact gw2 | exact gw3 | exact gwe rfl | exact gwf rfl | exact gwg rfl | exact gwh rfl | omega) (gg_f (gf_cons rfl (gf_cons rfl (gf_cons rfl (gf_cons rfl (gf_cons rfl (gf_cons rfl (gf_cons rfl gf_nil))))))) (ih67 sc67 z191 hIc67 hFc67 (in_w 0 31 j67_5 rfl) (in_w 0 400 i191 rfl) (m_up mm67 (t_add e191 i77 (in_c 1 rfl) rfl) (in_w 1 1 (in_c 1 rfl) rfl))))
                  · skip
                    have i142 := r_eq1 0 31 c142 (i_rng z139) j67_5 rfl
                    refine g_aload_n 146 (gd rfl) rfl rfl ?_
                    refine g_iload 148 (gd rfl) rfl rfl ?_
                    refine g_iaload 149 (gd rfl) rfl (n := 32) rfl (in_ix i123 rfl) (fun z148 e148 => ?_)
                    refine g_if_lt 152 163 (gd rfl) rfl rfl (fun c149 => ?_) (fun c149 => ?_)
                    · skip
                      have i149 := z_lt (-2147483648) (-1) c149 (i_rng z148) rfl
                      refine g_aload_n 164 (gd rfl) rfl rfl ?_
                      refine g_iload 166 (gd rfl) rfl rfl ?_
                      refine g_iload 168 (gd rfl) rfl rfl ?_
                      refine g_iconst 1 169 (gd rfl) rfl rfl ?_
                      refine g_iadd 170 (gd rfl) rfl (fun z169 e169 => ?_)
                      have i169 := in_add 1 32 e169 j67_5 (in_c 1 rfl) rfl rfl
                      refine g_iastore 171 (gd rfl) rfl (n := 32) rfl (in_ix i123 rfl) ?_
                      have hI170 := inv_sI (q := 165) (j := z123.toNatClampNeg) hIc67 rfl (in_w (-2147483648) 2147483647 i169 rfl)
                      refine g_aload 173 (gd rfl) rfl rfl ?_
                      refine g_iload 175 (gd rfl) rfl rfl ?_
                      refine g_aload 177 (gd rfl) rfl rfl ?_
                      refine g_iload 179 (gd rfl) rfl rfl ?_
                      refine g_laload 180 (gd rfl) rfl (n := 32) rfl (in_ix i123 rfl) (fun z179 e179 => ?_)
                      refine g_aload 182 (gd rfl) rfl rfl ?_
                      refine g_iload 184 (gd rfl) rfl rfl ?_
                      refine g_laload 185 (gd rfl) rfl (n := 32) rfl (in_ix i100 rfl) (fun z184 e184 => ?_)
                      refine g_ladd 186 (gd rfl) rfl (fun z185 e185 => ?_)
                      refine g_ldc2_w 1000000007 189 (gd rfl) rfl rfl ?_
                      refine g_lrem 190 (gd rfl) rfl (by decide) (fun z189 e189 => ?_)
                      have i189 := l_rem (-1000000006) 1000000006 e189 rfl
                      refine g_lastore 191 (gd rfl) rfl (n := 32) rfl (in_ix i123 rfl) ?_
                      have hI190 := inv_sL (q := 166) (j := z123.toNatClampNeg) (x := z189) hI170 rfl (l_rng z189)
                      refine g_iinc 194 (gd rfl) rfl rfl (Nat.le_of_ble_eq_true rfl) (fun z191 e191 => ?_)
                      have i191 := in_add 1 320 e191 i77 (in_c 1 rfl) rfl rfl
                      refine g_goto 67 (gd rfl) rfl ?_
                      exact gg_w (by first | exact Nat.le_add_right _ _ | exact gw2 | exact gw3 | exact gwe rfl | exact gwf rfl | exact gwg rfl | exact gwh rfl | omega) (gg_f (gf_cons rfl (gf_cons rfl (gf_cons rfl (gf_cons rfl (gf_cons rfl (gf_cons rfl (gf_cons rfl gf_nil))))))) (ih67 (sL (sI sc67 165 z123.toNatClampNeg z169) 166 z123.toNatClampNeg z189) z191 hI190 (fr_sL rfl (fr_sI rfl hFc67)) (in_w 0 31 j67_5 rfl) (in_w 0 400 i191 rfl) (m_up mm67 (t_add e191 i77 (in_c 1 rfl) rfl) (in_w 1 1 (in_c 1 rfl) rfl))))
                    · skip
                      have i149 := z_ge 0 2147483647 c149 (i_rng z148) rfl
                      refine g_aload_n 153 (gd rfl) rfl rfl ?_
                      refine g_iload 155 (gd rfl) rfl rfl ?_
                      refine g_iaload 156 (gd rfl) rfl (n := 32) rfl (in_ix i123 rfl) (fun z155 e155 => ?_)
                      have q155 : z148 = z155 := (e148).trans e155.symm
                      subst q155
                      refine g_iload 158 (gd rfl) rfl rfl ?_
                      refine g_iconst 1 159 (gd rfl) rfl rfl ?_
                      refine g_iadd 160 (gd rfl) rfl (fun z159 e159 => ?_)
                      have i159 := in_add 1 32 e159 j67_5 (in_c 1 rfl) rfl rfl
                      refine g_cmp_ne 163 191 (gd rfl) rfl rfl (fun c160 => ?_) (fun c160 => ?_)
                      · skip
                        refine g_iinc 194 (gd rfl) rfl rfl (Nat.le_of_ble_eq_true rfl) (fun z191 e191 => ?_)
                        have i191 := in_add 1 320 e191 i77 (in_c 1 rfl) rfl rfl
                        refine g_goto 67 (gd rfl) rfl ?_
                        exact gg_w (by first | exact Nat.le_add_right _ _ | exact gw2 | exact gw3 | exact gwe rfl | exact gwf rfl | exact gwg rfl | exact gwh rfl | omega) (gg_f (gf_cons rfl (gf_cons rfl (gf_cons rfl (gf_cons rfl (gf_cons rfl (gf_cons rfl (gf_cons rfl gf_nil))))))) (ih67 sc67 z191 hIc67 hFc67 (in_w 0 31 j67_5 rfl) (in_w 0 400 i191 rfl) (m_up mm67 (t_add e191 i77 (in_c 1 rfl) rfl) (in_w 1 1 (in_c 1 rfl) rfl))))
                      · skip
                        have i160 := r_eq1 1 32 c160 i149 i159 rfl
                        refine g_aload_n 164 (gd rfl) rfl rfl ?_
                        refine g_iload 166 (gd rfl) rfl rfl ?_
                        refine g_iload 168 (gd rfl) rfl rfl ?_
                        refine g_iconst 1 169 (gd rfl) rfl rfl ?_
                        refine g_iadd 170 (gd rfl) rfl (fun z169 e169 => ?_)
                        have i169 := in_add 1 32 e169 j67_5 (in_c 1 rfl) rfl rfl
                        refine g_iastore 171 (gd rfl) rfl (n := 32) rfl (in_ix i123 rfl) ?_
                        have hI170 := inv_sI (q := 165) (j := z123.toNatClampNeg) hIc67 rfl (in_w (-2147483648) 2147483647 i169 rfl)
                        refine g_aload 173 (gd rfl) rfl rfl ?_
                        refine g_iload 175 (gd rfl) rfl rfl ?_
                        refine g_aload 177 (gd rfl) rfl rfl ?_
                        refine g_iload 179 (gd rfl) rfl rfl ?_
                        refine g_laload 180 (gd rfl) rfl (n := 32) rfl (in_ix i123 rfl) (fun z179 e179 => ?_)
                        refine g_aload 182 (gd rfl) rfl rfl ?_
                        refine g_iload 184 (gd rfl) rfl rfl ?_
                        refine g_laload 185 (gd rfl) rfl (n := 32) rfl (in_ix i100 rfl) (fun z184 e184 => ?_)
                        refine g_ladd 186 (gd rfl) rfl (fun z185 e185 => ?_)
                        refine g_ldc2_w 1000000007 189 (gd rfl) rfl rfl ?_
                        refine g_lrem 190 (gd rfl) rfl (by decide) (fun z189 e189 => ?_)
                        have i189 := l_rem (-1000000006) 1000000006 e189 rfl
                        refine g_lastore 191 (gd rfl) rfl (n := 32) rfl (in_ix i123 rfl) ?_
                        have hI190 := inv_sL (q := 166) (j := z123.toNatClampNeg) (x := z189) hI170 rfl (l_rng z189)
                        refine g_iinc 194 (gd rfl) rfl rfl (Nat.le_of_ble_eq_true rfl) (fun z191 e191 => ?_)
                        have i191 := in_add 1 320 e191 i77 (in_c 1 rfl) rfl rfl
                        refine g_goto 67 (gd rfl) rfl ?_
                        exact gg_w (by first | exact Nat.le_add_right _ _ | exact gw2 | exact gw3 | exact gwe rfl | exact gwf rfl | exact gwg rfl | exact gwh rfl | omega) (gg_f (gf_cons rfl (gf_cons rfl (gf_cons rfl (gf_cons rfl (gf_cons rfl (gf_cons rfl (gf_cons rfl gf_nil))))))) (ih67 (sL (sI sc67 165 z123.toNatClampNeg z169) 166 z123.toNatClampNeg z189) z191 hI190 (fr_sL rfl (fr_sI rfl hFc67)) (in_w 0 31 j67_5 rfl) (in_w 0 400 i191 rfl) (m_up mm67 (t_add e191 i77 (in_c 1 rfl) rfl) (in_w 1 1 (in_c 1 rfl) rfl))))
              · skip
                exact zn_ne c104 h2 rfl
            · skip
              exact zn_ne c81 h2 rfl
      refine g_iload 54 (gd rfl) rfl rfl ?_
      refine g_aload_n 55 (gd rfl) rfl rfl ?_
      refine g_getI 58 (gd rfl) rfl rfl rfl (fun z55 e55 => ?_)
      have q55 : u_109_20 = z55 := (fr_F e_109_20 hFc52 rfl).trans e55.symm
      subst q55
      refine g_cmp_ge 61 203 (gd rfl) rfl rfl (fun c58 => ?_) (fun c58 => ?_)
      · skip
        exact g_return (gd rfl) rfl (hP _ _ ⟨sc52, hIc52, hFc52, rfl, rfl⟩)
      · skip
        have i58 := r_lt1 0 31 c58 j52_5 ro_109_20 rfl
        have i58a := r_lt2 1 32 c58 j52_5 ro_109_20 rfl
        refine g_aload_n 62 (gd rfl) rfl rfl ?_
        refine g_getI 65 (gd rfl) rfl rfl rfl (fun z62 e62 => ?_)
        have q62 : u_109_19 = z62 := (fr_F e_109_19 hFc52 rfl).trans e62.symm
        subst q62
        refine g_istore 67 (gd rfl) rfl (Nat.le_of_ble_eq_true rfl) ?_
        exact gg_w (by first | exact Nat.le_add_right _ _ | exact gw2 | exact gw3 | exact gwe rfl | exact gwf rfl | exact gwg rfl | exact gwh rfl | omega) (gg_f (gf_cons rfl (gf_cons rfl (gf_cons rfl (gf_cons rfl (gf_cons rfl (gf_cons rfl (gf_cons rfl gf_nil))))))) (ct67 401 sc52 u_109_19 hIc52 hFc52 (in_w 0 31 i58 rfl) (in_w 0 400 ro_109_19 rfl) (m_in 401 (in_w 0 400 ro_109_19 rfl) rfl)))
  have ct3 : ∀ (k3 : Nat) (sc3 : GS) (y3_5 : Int32), Inv sc3 → Fr fm_370_109_165_166 s sc3 → (In y3_5 0 32) → 32 - (y3_5).toInt < (k3 : Int) → GG Z (d - 1) 370 post (gx xp) (11998835 + k3 * 900) 3 (fun j => xlook j [(0, .ref (A 109)), (1, .int x1), (2, .int x2), (3, .ref (A 165)), (4, .ref (A 166)), (5, .int y3_5)]) [] (WW Z A sc3 ++ ex) 0 0 := by
    intro k3
    induction k3 with
    | zero => intro sc3 y3_5 hIc3 hFc3 j3_5 mm3; exact m_no mm3 j3_5 rfl
    | succ k3 ih3 =>
      intro sc3 y3_5 hIc3 hFc3 j3_5 mm3
      refine gg_w (M := 11998835 + k3 * 900 + 900) gws ?_
      refine g_iload 5 (gd rfl) rfl rfl ?_
      refine g_aload_n 6 (gd rfl) rfl rfl ?_
      refine g_getI 9 (gd rfl) rfl rfl rfl (fun z6 e6 => ?_)
      have q6 : u_109_20 = z6 := (fr_F e_109_20 hFc3 rfl).trans e6.symm
      subst q6
      refine g_cmp_ge 12 49 (gd rfl) rfl rfl (fun c9 => ?_) (fun c9 => ?_)
      · skip
        refine g_iconst 0 50 (gd rfl) rfl rfl ?_
        refine g_istore 52 (gd rfl) rfl (Nat.le_of_ble_eq_true rfl) ?_
        exact gg_w (by first | exact Nat.le_add_right _ _ | exact gw2 | exact gw3 | exact gwe rfl | exact gwf rfl | exact gwg rfl | exact gwh rfl | omega) (gg_f (gf_cons rfl (gf_cons rfl (gf_cons rfl (gf_cons rfl (gf_cons rfl (gf_cons rfl gf_nil)))))) (ct52 33 sc3 (Int32.ofInt 0) hIc3 hFc3 (in_w 0 32 (in_c 0 rfl) rfl) (m_in 33 (in_w 0 32 (in_c 0 rfl) rfl) rfl)))
      · skip
        have i9 := r_lt1 0 31 c9 j3_5 ro_109_20 rfl
        have i9a := r_lt2 1 32 c9 j3_5 ro_109_20 rfl
        refine g_aload_n 13 (gd rfl) rfl rfl ?_
        refine g_iload 15 (gd rfl) rfl rfl ?_
        refine g_iload 17 (gd rfl) rfl rfl ?_
        refine g_iload_n 18 (gd rfl) rfl rfl ?_
        refine g_cmp_ne 21 25 (gd rfl) rfl rfl (fun c18 => ?_) (fun c18 => ?_)
        · skip
          refine g_iconst (-1) 26 (gd rfl) rfl rfl ?_
          refine g_iastore 27 (gd rfl) rfl (n := 32) rfl (in_ix i9 rfl) ?_
          have hI26 := inv_sI (q := 165) (j := y3_5.toNatClampNeg) hIc3 rfl (in_w (-2147483648) 2147483647 (in_c (-1) rfl) rfl)
          refine g_aload 29 (gd rfl) rfl rfl ?_
          refine g_iload 31 (gd rfl) rfl rfl ?_
          refine g_iload 33 (gd rfl) rfl rfl ?_
          refine g_iload_n 34 (gd rfl) rfl rfl ?_
          refine g_cmp_ne 37 41 (gd rfl) rfl rfl (fun c34 => ?_) (fun c34 => ?_)
          · skip
            refine g_lconst 0 42 (gd rfl) rfl rfl ?_
            refine g_lastore 43 (gd rfl) rfl (n := 32) rfl (in_ix i9 rfl) ?_
            have hI42 := inv_sL (q := 166) (j := y3_5.toNatClampNeg) (x := (Int64.ofInt 0)) hI26 rfl (l_rng (Int64.ofInt 0))
            refine g_iinc 46 (gd rfl) rfl rfl (Nat.le_of_ble_eq_true rfl) (fun z43 e43 => ?_)
            have i43 := in_add 1 32 e43 i9 (in_c 1 rfl) rfl rfl
            refine g_goto 3 (gd rfl) rfl ?_
            exact gg_w (by first | exact Nat.le_add_right _ _ | exact gw2 | exact gw3 | exact gwe rfl | exact gwf rfl | exact gwg rfl | exact gwh rfl | omega) (gg_f (gf_cons rfl (gf_cons rfl (gf_cons rfl (gf_cons rfl (gf_cons rfl (gf_cons rfl gf_nil)))))) (ih3 (sL (sI sc3 165 y3_5.toNatClampNeg (Int32.ofInt (-1))) 166 y3_5.toNatClampNeg (Int64.ofInt 0)) z43 hI42 (fr_sL rfl (fr_sI rfl hFc3)) (in_w 0 32 i43 rfl) (m_up mm3 (t_add e43 i9 (in_c 1 rfl) rfl) (in_w 1 1 (in_c 1 rfl) rfl))))
          · skip
            refine g_lconst 1 38 (gd rfl) rfl rfl ?_
            refine g_goto 42 (gd rfl) rfl ?_
            refine g_lastore 43 (gd rfl) rfl (n := 32) rfl (in_ix i9 rfl) ?_
            have hI42 := inv_sL (q := 166) (j := y3_5.toNatClampNeg) (x := (Int64.ofInt 1)) hI26 rfl (l_rng (Int64.ofInt 1))
            refine g_iinc 46 (gd rfl) rfl rfl (Nat.le_of_ble_eq_true rfl) (fun z43 e43 => ?_)
            have i43 := in_add 1 32 e43 i9 (in_c 1 rfl) rfl rfl
            refine g_goto 3 (gd rfl) rfl ?_
            exact gg_w (by first | exact Nat.le_add_right _ _ | exact gw2 | exact gw3 | exact gwe rfl | exact gwf rfl | exact gwg rfl | exact gwh rfl | omega) (gg_f (gf_cons rfl (gf_cons rfl (gf_cons rfl (gf_cons rfl (gf_cons rfl (gf_cons rfl gf_nil)))))) (ih3 (sL (sI sc3 165 y3_5.toNatClampNeg (Int32.ofInt (-1))) 166 y3_5.toNatClampNeg (Int64.ofInt 1)) z43 hI42 (fr_sL rfl (fr_sI rfl hFc3)) (in_w 0 32 i43 rfl) (m_up mm3 (t_add e43 i9 (in_c 1 rfl) rfl) (in_w 1 1 (in_c 1 rfl) rfl))))
        · skip
          refine g_iconst 0 22 (gd rfl) rfl rfl ?_
          refine g_goto 26 (gd rfl) rfl ?_
          refine g_iastore 27 (gd rfl) rfl (n := 32) rfl (in_ix i9 rfl) ?_
          have hI26 := inv_sI (q := 165) (j := y3_5.toNatClampNeg) hIc3 rfl (in_w (-2147483648) 2147483647 (in_c 0 rfl) rfl)
          refine g_aload 29 (gd rfl) rfl rfl ?_
          refine g_iload 31 (gd rfl) rfl rfl ?_
          refine g_iload 33 (gd rfl) rfl rfl ?_
          refine g_iload_n 34 (gd rfl) rfl rfl ?_
          refine g_cmp_ne 37 41 (gd rfl) rfl rfl (fun c34 => ?_) (fun c34 => ?_)
          · skip
            refine g_lconst 0 42 (gd rfl) rfl rfl ?_
            refine g_lastore 43 (gd rfl) rfl (n := 32) rfl (in_ix i9 rfl) ?_
            have hI42 := inv_sL (q := 166) (j := y3_5.toNatClampNeg) (x := (Int64.ofInt 0)) hI26 rfl (l_rng (Int64.ofInt 0))
            refine g_iinc 46 (gd rfl) rfl rfl (Nat.le_of_ble_eq_true rfl) (fun z43 e43 => ?_)
            have i43 := in_add 1 32 e43 i9 (in_c 1 rfl) rfl rfl
            refine g_goto 3 (gd rfl) rfl ?_
            exact gg_w (by first | exact Nat.le_add_right _ _ | exact gw2 | exact gw3 | exact gwe rfl | exact gwf rfl | exact gwg rfl | exact gwh rfl | omega) (gg_f (gf_cons rfl (gf_cons rfl (gf_cons rfl (gf_cons rfl (gf_cons rfl (gf_cons rfl gf_nil)))))) (ih3 (sL (sI sc3 165 y3_5.toNatClampNeg (Int32.ofInt 0)) 166 y3_5.toNatClampNeg (Int64.ofInt 0)) z43 hI42 (fr_sL rfl (fr_sI rfl hFc3)) (in_w 0 32 i43 rfl) (m_up mm3 (t_add e43 i9 (in_c 1 rfl) rfl) (in_w 1 1 (in_c 1 rfl) rfl))))
          · skip
            refine g_lconst 1 38 (gd rfl) rfl rfl ?_
            refine g_goto 42 (gd rfl) rfl ?_
            refine g_lastore 43 (gd rfl) rfl (n := 32) rfl (in_ix i9 rfl) ?_
            have hI42 := inv_sL (q := 166) (j := y3_5.toNatClampNeg) (x := (Int64.ofInt 1)) hI26 rfl (l_rng (Int64.ofInt 1))
            refine g_iinc 46 (gd rfl) rfl rfl (Nat.le_of_ble_eq_true rfl) (fun z43 e43 => ?_)
            have i43 := in_add 1 32 e43 i9 (in_c 1 rfl) rfl rfl
            refine g_goto 3 (gd rfl) rfl ?_
            exact gg_w (by first | exact Nat.le_add_right _ _ | exact gw2 | exact gw3 | exact gwe rfl | exact gwf rfl | exact gwg rfl | exact gwh rfl | omega) (gg_f (gf_cons rfl (gf_cons rfl (gf_cons rfl (gf_cons rfl (gf_cons rfl (gf_cons rfl gf_nil)))))) (ih3 (sL (sI sc3 165 y3_5.toNatClampNeg (Int32.ofInt 0)) 166 y3_5.toNatClampNeg (Int64.ofInt 1)) z43 hI42 (fr_sL rfl (fr_sI rfl hFc3)) (in_w 0 32 i43 rfl) (m_up mm3 (t_add e43 i9 (in_c 1 rfl) rfl) (in_w 1 1 (in_c 1 rfl) rfl))))
  refine g_enter2 (k := 370) (N := 12029435) (by first | exact dq1 hd rfl | exact dq0 hd rfl | exact dq2 hd rfl | exact dq3 hd rfl | omega) rfl (Nat.le_of_ble_eq_true rfl) ?_
  refine g_iconst 0 1 (gd rfl) rfl rfl ?_
  refine g_istore 3 (gd rfl) rfl (Nat.le_of_ble_eq_true rfl) ?_
  exact gg_w (by first | exact Nat.le_of_ble_eq_true rfl | omega) (gg_f (gf_cons rfl (gf_cons rfl (gf_cons rfl (gf_cons rfl (gf_cons rfl (gf_cons rfl gf_nil)))))) (ct3 33 s (Int32.ofInt 0) hI fr_rf (in_w 0 32 (in_c 0 rfl) rfl) (m_in 33 (in_w 0 32 (in_c 0 rfl) rfl) rfl)))

def fm_370_109_167_168 : FM := ([167], [168], [], [])
/-- GraphHouseModel.hop -/
theorem k_370_109_167_168 {Z : AmZ} {A : Nat → Nat} {s : GS} {ex : va_W} {d : Nat} {X : AmX} {x1 : Int32} {x2 : Int32} (hd : 1 ≤ d) (hI : Inv s) (h1 : In x1 0 31) (h2 : In x2 1 1) : GC Z d 370 [.ref (A 109), .int x1, .int x2, .ref (A 167), .ref (A 168)] (WW Z A s ++ ex) 0 0 (fun v u => ∃ t : GS, Inv t ∧ Fr fm_370_109_167_168 s t ∧ v = none ∧ u = WW Z A t ++ ex) X := by
  intro post xp hP hX
  obtain ⟨u_109_19, e_109_19⟩ : ∃ w, w = s.2.2.1 109 19 := ⟨_, rfl⟩
  have ro_109_19 := inv_F hI 0 160 rfl e_109_19
  obtain ⟨u_109_20, e_109_20⟩ : ∃ w, w = s.2.2.1 109 20 := ⟨_, rfl⟩
  have ro_109_20 := inv_F hI 0 32 rfl e_109_20
  have ct52 : ∀ (k52 : Nat) (sc52 : GS) (y52_5 : Int32), Inv sc52 → Fr fm_370_109_167_168 s sc52 → (In y52_5 0 32) → ((x2).toInt ≠ 0) → 32 - (y52_5).toInt < (k52 : Int) → GG Z (d - 1) 370 post (gx xp) (1 + k52 * 363601) 52 (fun j => xlook j [(0, .ref (A 109)), (1, .int x1), (2, .int x2), (3, .ref (A 167)), (4, .ref (A 168)), (5, .int y52_5)]) [] (WW Z A sc52 ++ ex) 0 0 := by
    intro k52
    induction k52 with
    | zero => intro sc52 y52_5 hIc52 hFc52 j52_5 nz52_2 mm52; exact m_no mm52 j52_5 rfl
    | succ k52 ih52 =>
      intro sc52 y52_5 hIc52 hFc52 j52_5 nz52_2 mm52
      refine gg_w (M := 1 + k52 * 363601 + 363601) gws ?_
      have ct67 : ∀ (k67 : Nat) (sc67 : GS) (y67_6 : Int32), Inv sc67 → Fr fm_370_109_167_168 s sc67 → (In y52_5 0 31) → (In y67_6 0 400) → ((x2).toInt ≠ 0) → 400 - (y67_6).toInt < (k67 : Int) → GG Z (d - 1) 370 post (gx xp) (1 + k52 * 363601 + 1 + k67 * 900) 67 (fun j => xlook j [(0, .ref (A 109)), (1, .int x1), (2, .int x2), (3, .ref (A 167)), (4, .ref (A 168)), (5, .int y52_5), (6, .int y67_6)]) [] (WW Z A sc67 ++ ex) 0 0 := by
        intro k67
        induction k67 with
        | zero => intro sc67 y67_6 hIc67 hFc67 j67_5 j67_6 nz67_2 mm67; exact m_no mm67 j67_6 rfl
        | succ k67 ih67 =>
          intro sc67 y67_6 hIc67 hFc67 j67_5 j67_6 nz67_2 mm67
          refine gg_w (M := 1 + k52 * 363601 + 1 + k67 * 900 + 900) gws ?_
          refine g_iload 69 (gd rfl) rfl rfl ?_
          refine g_aload_n 70 (gd rfl) rfl rfl ?_
          refine g_getI 73 (gd rfl) rfl rfl rfl (fun z70 e70 => ?_)
          have q70 : u_109_19 = z70 := (fr_F e_109_19 hFc67 rfl).trans e70.symm
          subst q70
          refine g_sipush 160 76 (gd rfl) rfl rfl ?_
          refine g_iadd 77 (gd rfl) rfl (fun z76 e76 => ?_)
          have i76 := in_add 160 320 e76 ro_109_19 (in_c 160 rfl) rfl rfl
          refine g_cmp_ge 80 197 (gd rfl) rfl rfl (fun c77 => ?_) (fun c77 => ?_)
          · skip
            have i77 := r_le2 160 400 c77 i76 j67_6 rfl
            refine g_iinc 200 (gd rfl) rfl rfl (Nat.le_of_ble_eq_true rfl) (fun z197 e197 => ?_)
            have i197 := in_add 1 32 e197 j67_5 (in_c 1 rfl) rfl rfl
            refine g_goto 52 (gd rfl) rfl ?_
            exact gg_w (by first | exact Nat.le_add_right _ _ | exact gw2 | exact gw3 | exact gwe rfl | exact gwf rfl | exact gwg rfl | exact gwh rfl | omega) (gg_f (gf_cons rfl (gf_cons rfl (gf_cons rfl (gf_cons rfl (gf_cons rfl (gf_cons rfl gf_nil)))))) (ih52 sc67 z197 hIc67 hFc67 (in_w 0 32 i197 rfl) nz67_2 (m_up mm52 (t_add e197 j67_5 (in_c 1 rfl) rfl) (in_w 1 1 (in_c 1 rfl) rfl))))
          · skip
            have i77 := r_lt1 0 319 c77 j67_6 i76 rfl
            refine g_iload_n 81 (gd rfl) rfl rfl ?_
            refine g_if_eq 84 94 (gd rfl) rfl rfl (fun c81 => ?_) (fun c81 => ?_)
            · skip
              exact zn_eq c81 h2 rfl
            · skip
              refine g_aload_n 85 (gd rfl) rfl rfl ?_
              refine g_getA (q2 := 114) 88 (gd rfl) rfl rfl rfl rfl ?_
              refine g_iload 90 (gd rfl) rfl rfl ?_
              refine g_iaload 91 (gd rfl) rfl (n := 480) rfl (in_ix i77 rfl) (fun z90 e90 => ?_)
              have i90 := inv_I hIc67 (n := 480) (t := 0) 0 31 rfl (in_ix i77 rfl) rfl e90
              refine g_goto 101 (gd rfl) rfl ?_
              refine g_istore 103 (gd rfl) rfl (Nat.le_of_ble_eq_true rfl) ?_
              refine g_iload_n 104 (gd rfl) rfl rfl ?_
              refine g_if_eq 107 117 (gd rfl) rfl rfl (fun c104 => ?_) (fun c104 => ?_)
              · skip
                exact zn_eq c104 h2 rfl
              · skip
                refine g_aload_n 108 (gd rfl) rfl rfl ?_
                refine g_getA (q2 := 113) 111 (gd rfl) rfl rfl rfl rfl ?_
                refine g_iload 113 (gd rfl) rfl rfl ?_
                refine g_iaload 114 (gd rfl) rfl (n := 480) rfl (in_ix i77 rfl) (fun z113 e113 => ?_)
                have i113 := inv_I hIc67 (n := 480) (t := 0) 0 31 rfl (in_ix i77 rfl) rfl e113
                refine g_goto 124 (gd rfl) rfl ?_
                refine g_istore 126 (gd rfl) rfl (Nat.le_of_ble_eq_true rfl) ?_
                refine g_aload_n 127 (gd rfl) rfl rfl ?_
                refine g_getA (q2 := 112) 130 (gd rfl) rfl rfl rfl rfl ?_
                refine g_iload 132 (gd rfl) rfl rfl ?_
                refine g_baload 133 (gd rfl) rfl (n := 480) rfl (in_ix i77 rfl) (fun z132 e132 => ?_)
                have i132 := inv_I hIc67 (n := 480) (t := 3) 0 1 rfl (in_ix i77 rfl) rfl e132
                refine g_if_eq 136 191 (gd rfl) rfl rfl (fun c133 => ?_) (fun c133 => ?_)
                · skip
                  have i133 := z_eq 0 0 c133 i132 rfl
                  refine g_iinc 194 (gd rfl) rfl rfl (Nat.le_of_ble_eq_true rfl) (fun z191 e191 => ?_)
                  have i191 := in_add 1 320 e191 i77 (in_c 1 rfl) rfl rfl
                  refine g_goto 67 (gd rfl) rfl ?_
                  exact gg_w (by first | exact Nat.le_add_right _ _ | exact gw2 | exact gw3 | exact gwe rfl | exact gwf rfl | exact gwg rfl | exact gwh rfl | omega) (gg_f (gf_cons rfl (gf_cons rfl (gf_cons rfl (gf_cons rfl (gf_cons rfl (gf_cons rfl (gf_cons rfl gf_nil))))))) (ih67 sc67 z191 hIc67 hFc67 (in_w 0 31 j67_5 rfl) (in_w 0 400 i191 rfl) c104 (m_up mm67 (t_add e191 i77 (in_c 1 rfl) rfl) (in_w 1 1 (in_c 1 rfl) rfl))))
                · skip
                  have i133 := z_ne 1 1 c133 i132 rfl
                  refine g_aload_n 137 (gd rfl) rfl rfl ?_
                  refine g_iload 139 (gd rfl) rfl rfl ?_
                  refine g_iaload 140 (gd rfl) rfl (n := 32) rfl (in_ix i90 rfl) (fun z139 e139 => ?_)
                  refine g_iload 142 (gd rfl) rfl rfl ?_
                  refine g_cmp_ne 145 191 (gd rfl) rfl rfl (fun c142 => ?_) (fun c142 => ?_)
                  · skip
                    refine g_iinc 194 (gd rfl) rfl rfl (Nat.le_of_ble_eq_true rfl) (fun z191 e191 => ?_)
                    have i191 := in_add 1 320 e191 i77 (in_c 1 rfl) rfl rfl
                    refine g_goto 67 (gd rfl) rfl ?_
                    exact gg_w (by first | exact Nat.le_add_right _ _ | exact gw2 | exact gw3 | exact gwe rfl | exact gwf rfl | exact gwg rfl | exact gwh rfl | omega) (gg_f (gf_cons rfl (gf_cons rfl (gf_cons rfl (gf_cons rfl (gf_cons rfl (gf_cons rfl (gf_cons rfl gf_nil))))))) (ih67 sc67 z191 hIc67 hFc67 (in_w 0 31 j67_5 rfl) (in_w 0 400 i191 rfl) c104 (m_up mm67 (t_add e191 i77 (in_c 1 rfl) rfl) (in_w 1 1 (in_c 1 rfl) rfl))))
                  · skip
                    have i142 := r_eq1 0 31 c142 (i_rng z139) j67_5 rfl
                    refine g_aload_n 146 (gd rfl) rfl rfl ?_
                    refine g_iload 148 (gd rfl) rfl rfl ?_
                    refine g_iaload 149 (gd rfl) rfl (n := 32) rfl (in_ix i113 rfl) (fun z148 e148 => ?_)
                    refine g_if_lt 152 163 (gd rfl) rfl rfl (fun c149 => ?_) (fun c149 => ?_)
                    · skip
                      have i149 := z_lt (-2147483648) (-1) c149 (i_rng z148) rfl
                      refine g_aload_n 164 (gd rfl) rfl rfl ?_
                      refine g_iload 166 (gd rfl) rfl rfl ?_
                      refine g_iload 168 (gd rfl) rfl rfl ?_
                      refine g_iconst 1 169 (gd rfl) rfl rfl ?_
                      refine g_iadd 170 (gd rfl) rfl (fun z169 e169 => ?_)
                      have i169 := in_add 1 32 e169 j67_5 (in_c 1 rfl) rfl rfl
                      refine g_iastore 171 (gd rfl) rfl (n := 32) rfl (in_ix i113 rfl) ?_
                      have hI170 := inv_sI (q := 167) (j := z113.toNatClampNeg) hIc67 rfl (in_w (-2147483648) 2147483647 i169 rfl)
                      refine g_aload 173 (gd rfl) rfl rfl ?_
                      refine g_iload 175 (gd rfl) rfl rfl ?_
                      refine g_aload 177 (gd rfl) rfl rfl ?_
                      refine g_iload 179 (gd rfl) rfl rfl ?_
                      refine g_laload 180 (gd rfl) rfl (n := 32) rfl (in_ix i113 rfl) (fun z179 e179 => ?_)
                      refine g_aload 182 (gd rfl) rfl rfl ?_
                      refine g_iload 184 (gd rfl) rfl rfl ?_
                      refine g_laload 185 (gd rfl) rfl (n := 32) rfl (in_ix i90 rfl) (fun z184 e184 => ?_)
                      refine g_ladd 186 (gd rfl) rfl (fun z185 e185 => ?_)
                      refine g_ldc2_w 1000000007 189 (gd rfl) rfl rfl ?_
                      refine g_lrem 190 (gd rfl) rfl (by decide) (fun z189 e189 => ?_)
                      have i189 := l_rem (-1000000006) 1000000006 e189 rfl
                      refine g_lastore 191 (gd rfl) rfl (n := 32) rfl (in_ix i113 rfl) ?_
                      have hI190 := inv_sL (q := 168) (j := z113.toNatClampNeg) (x := z189) hI170 rfl (l_rng z189)
                      refine g_iinc 194 (gd rfl) rfl rfl (Nat.le_of_ble_eq_true rfl) (fun z191 e191 => ?_)
                      have i191 := in_add 1 320 e191 i77 (in_c 1 rfl) rfl rfl
                      refine g_goto 67 (gd rfl) rfl ?_
                      exact gg_w (by first | exact Nat.le_add_right _ _ | exact gw2 | exact gw3 | exact gwe rfl | exact gwf rfl | exact gwg rfl | exact gwh rfl | omega) (gg_f (gf_cons rfl (gf_cons rfl (gf_cons rfl (gf_cons rfl (gf_cons rfl (gf_cons rfl (gf_cons rfl gf_nil))))))) (ih67 (sL (sI sc67 167 z113.toNatClampNeg z169) 168 z113.toNatClampNeg z189) z191 hI190 (fr_sL rfl (fr_sI rfl hFc67)) (in_w 0 31 j67_5 rfl) (in_w 0 400 i191 rfl) c104 (m_up mm67 (t_add e191 i77 (in_c 1 rfl) rfl) (in_w 1 1 (in_c 1 rfl) rfl))))
                    · skip
                      have i149 := z_ge 0 2147483647 c149 (i_rng z148) rfl
                      refine g_aload_n 153 (gd rfl) rfl rfl ?_
                      refine g_iload 155 (gd rfl) rfl rfl ?_
                      refine g_iaload 156 (gd rfl) rfl (n := 32) rfl (in_ix i113 rfl) (fun z155 e155 => ?_)
                      have q155 : z148 = z155 := (e148).trans e155.symm
                      subst q155
                      refine g_iload 158 (gd rfl) rfl rfl ?_
                      refine g_iconst 1 159 (gd rfl) rfl rfl ?_
                      refine g_iadd 160 (gd rfl) rfl (fun z159 e159 => ?_)
                      have i159 := in_add 1 32 e159 j67_5 (in_c 1 rfl) rfl rfl
                      refine g_cmp_ne 163 191 (gd rfl) rfl rfl (fun c160 => ?_) (fun c160 => ?_)
                      · skip
                        refine g_iinc 194 (gd rfl) rfl rfl (Nat.le_of_ble_eq_true rfl) (fun z191 e191 => ?_)
                        have i191 := in_add 1 320 e191 i77 (in_c 1 rfl) rfl rfl
                        refine g_goto 67 (gd rfl) rfl ?_
                        exact gg_w (by first | exact Nat.le_add_right _ _ | exact gw2 | exact gw3 | exact gwe rfl | exact gwf rfl | exact gwg rfl | exact gwh rfl | omega) (gg_f (gf_cons rfl (gf_cons rfl (gf_cons rfl (gf_cons rfl (gf_cons rfl (gf_cons rfl (gf_cons rfl gf_nil))))))) (ih67 sc67 z191 hIc67 hFc67 (in_w 0 31 j67_5 rfl) (in_w 0 400 i191 rfl) c104 (m_up mm67 (t_add e191 i77 (in_c 1 rfl) rfl) (in_w 1 1 (in_c 1 rfl) rfl))))
                      · skip
                        have i160 := r_eq1 1 32 c160 i149 i159 rfl
                        refine g_aload_n 164 (gd rfl) rfl rfl ?_
                        refine g_iload 166 (gd rfl) rfl rfl ?_
                        refine g_iload 168 (gd rfl) rfl rfl ?_
                        refine g_iconst 1 169 (gd rfl) rfl rfl ?_
                        refine g_iadd 170 (gd rfl) rfl (fun z169 e169 => ?_)
                        have i169 := in_add 1 32 e169 j67_5 (in_c 1 rfl) rfl rfl
                        refine g_iastore 171 (gd rfl) rfl (n := 32) rfl (in_ix i113 rfl) ?_
                        have hI170 := inv_sI (q := 167) (j := z113.toNatClampNeg) hIc67 rfl (in_w (-2147483648) 2147483647 i169 rfl)
                        refine g_aload 173 (gd rfl) rfl rfl ?_
                        refine g_iload 175 (gd rfl) rfl rfl ?_
                        refine g_aload 177 (gd rfl) rfl rfl ?_
                        refine g_iload 179 (gd rfl) rfl rfl ?_
                        refine g_laload 180 (gd rfl) rfl (n := 32) rfl (in_ix i113 rfl) (fun z179 e179 => ?_)
                        refine g_aload 182 (gd rfl) rfl rfl ?_
                        refine g_iload 184 (gd rfl) rfl rfl ?_
                        refine g_laload 185 (gd rfl) rfl (n := 32) rfl (in_ix i90 rfl) (fun z184 e184 => ?_)
                        refine g_ladd 186 (gd rfl) rfl (fun z185 e185 => ?_)
                        refine g_ldc2_w 1000000007 189 (gd rfl) rfl rfl ?_
                        refine g_lrem 190 (gd rfl) rfl (by decide) (fun z189 e189 => ?_)
                        have i189 := l_rem (-1000000006) 1000000006 e189 rfl
                        refine g_lastore 191 (gd rfl) rfl (n := 32) rfl (in_ix i113 rfl) ?_
                        have hI190 := inv_sL (q := 168) (j := z113.toNatClampNeg) (x := z189) hI170 rfl (l_rng z189)
                        refine g_iinc 194 (gd rfl) rfl rfl (Nat.le_of_ble_eq_true rfl) (fun z191 e191 => ?_)
                        have i191 := in_add 1 320 e191 i77 (in_c 1 rfl) rfl rfl
                        refine g_goto 67 (gd rfl) rfl ?_
                        exact gg_w (by first | exact Nat.le_add_right _ _ | exact gw2 | exact gw3 | exact gwe rfl | exact gwf rfl | exact gwg rfl | exact gwh rfl | omega) (gg_f (gf_cons rfl (gf_cons rfl (gf_cons rfl (gf_cons rfl (gf_cons rfl (gf_cons rfl (gf_cons rfl gf_nil))))))) (ih67 (sL (sI sc67 167 z113.toNatClampNeg z169) 168 z113.toNatClampNeg z189) z191 hI190 (fr_sL rfl (fr_sI rfl hFc67)) (in_w 0 31 j67_5 rfl) (in_w 0 400 i191 rfl) c104 (m_up mm67 (t_add e191 i77 (in_c 1 rfl) rfl) (in_w 1 1 (in_c 1 rfl) rfl))))
      refine g_iload 54 (gd rfl) rfl rfl ?_
      refine g_aload_n 55 (gd rfl) rfl rfl ?_
      refine g_getI 58 (gd rfl) rfl rfl rfl (fun z55 e55 => ?_)
      have q55 : u_109_20 = z55 := (fr_F e_109_20 hFc52 rfl).trans e55.symm
      subst q55
      refine g_cmp_ge 61 203 (gd rfl) rfl rfl (fun c58 => ?_) (fun c58 => ?_)
      · skip
        exact g_return (gd rfl) rfl (hP _ _ ⟨sc52, hIc52, hFc52, rfl, rfl⟩)
      · skip
        have i58 := r_lt1 0 31 c58 j52_5 ro_109_20 rfl
        have i58a := r_lt2 1 32 c58 j52_5 ro_109_20 rfl
        refine g_aload_n 62 (gd rfl) rfl rfl ?_
        refine g_getI 65 (gd rfl) rfl rfl rfl (fun z62 e62 => ?_)
        have q62 : u_109_19 = z62 := (fr_F e_109_19 hFc52 rfl).trans e62.symm
        subst q62
        refine g_istore 67 (gd rfl) rfl (Nat.le_of_ble_eq_true rfl) ?_
        exact gg_w (by first | exact Nat.le_add_right _ _ | exact gw2 | exact gw3 | exact gwe rfl | exact gwf rfl | exact gwg rfl | exact gwh rfl | omega) (gg_f (gf_cons rfl (gf_cons rfl (gf_cons rfl (gf_cons rfl (gf_cons rfl (gf_cons rfl (gf_cons rfl gf_nil))))))) (ct67 401 sc52 u_109_19 hIc52 hFc52 (in_w 0 31 i58 rfl) (in_w 0 400 ro_109_19 rfl) nz52_2 (m_in 401 (in_w 0 400 ro_109_19 rfl) rfl)))
  have ct3 : ∀ (k3 : Nat) (sc3 : GS) (y3_5 : Int32), Inv sc3 → Fr fm_370_109_167_168 s sc3 → (In y3_5 0 32) → ((x2).toInt ≠ 0) → 32 - (y3_5).toInt < (k3 : Int) → GG Z (d - 1) 370 post (gx xp) (11998835 + k3 * 900) 3 (fun j => xlook j [(0, .ref (A 109)), (1, .int x1), (2, .int x2), (3, .ref (A 167)), (4, .ref (A 168)), (5, .int y3_5)]) [] (WW Z A sc3 ++ ex) 0 0 := by
    intro k3
    induction k3 with
    | zero => intro sc3 y3_5 hIc3 hFc3 j3_5 nz3_2 mm3; exact m_no mm3 j3_5 rfl
    | succ k3 ih3 =>
      intro sc3 y3_5 hIc3 hFc3 j3_5 nz3_2 mm3
      refine gg_w (M := 11998835 + k3 * 900 + 900) gws ?_
      refine g_iload 5 (gd rfl) rfl rfl ?_
      refine g_aload_n 6 (gd rfl) rfl rfl ?_
      refine g_getI 9 (gd rfl) rfl rfl rfl (fun z6 e6 => ?_)
      have q6 : u_109_20 = z6 := (fr_F e_109_20 hFc3 rfl).trans e6.symm
      subst q6
      refine g_cmp_ge 12 49 (gd rfl) rfl rfl (fun c9 => ?_) (fun c9 => ?_)
      · skip
        refine g_iconst 0 50 (gd rfl) rfl rfl ?_
        refine g_istore 52 (gd rfl) rfl (Nat.le_of_ble_eq_true rfl) ?_
        exact gg_w (by first | exact Nat.le_add_right _ _ | exact gw2 | exact gw3 | exact gwe rfl | exact gwf rfl | exact gwg rfl | exact gwh rfl | omega) (gg_f (gf_cons rfl (gf_cons rfl (gf_cons rfl (gf_cons rfl (gf_cons rfl (gf_cons rfl gf_nil)))))) (ct52 33 sc3 (Int32.ofInt 0) hIc3 hFc3 (in_w 0 32 (in_c 0 rfl) rfl) nz3_2 (m_in 33 (in_w 0 32 (in_c 0 rfl) rfl) rfl)))
      · skip
        have i9 := r_lt1 0 31 c9 j3_5 ro_109_20 rfl
        have i9a := r_lt2 1 32 c9 j3_5 ro_109_20 rfl
        refine g_aload_n 13 (gd rfl) rfl rfl ?_
        refine g_iload 15 (gd rfl) rfl rfl ?_
        refine g_iload 17 (gd rfl) rfl rfl ?_
        refine g_iload_n 18 (gd rfl) rfl rfl ?_
        refine g_cmp_ne 21 25 (gd rfl) rfl rfl (fun c18 => ?_) (fun c18 => ?_)
        · skip
          refine g_iconst (-1) 26 (gd rfl) rfl rfl ?_
          refine g_iastore 27 (gd rfl) rfl (n := 32) rfl (in_ix i9 rfl) ?_
          have hI26 := inv_sI (q := 167) (j := y3_5.toNatClampNeg) hIc3 rfl (in_w (-2147483648) 2147483647 (in_c (-1) rfl) rfl)
          refine g_aload 29 (gd rfl) rfl rfl ?_
          refine g_iload 31 (gd rfl) rfl rfl ?_
          refine g_iload 33 (gd rfl) rfl rfl ?_
          refine g_iload_n 34 (gd rfl) rfl rfl ?_
          refine g_cmp_ne 37 41 (gd rfl) rfl rfl (fun c34 => ?_) (fun c34 => ?_)
          · skip
            refine g_lconst 0 42 (gd rfl) rfl rfl ?_
            refine g_lastore 43 (gd rfl) rfl (n := 32) rfl (in_ix i9 rfl) ?_
            have hI42 := inv_sL (q := 168) (j := y3_5.toNatClampNeg) (x := (Int64.ofInt 0)) hI26 rfl (l_rng (Int64.ofInt 0))
            refine g_iinc 46 (gd rfl) rfl rfl (Nat.le_of_ble_eq_true rfl) (fun z43 e43 => ?_)
            have i43 := in_add 1 32 e43 i9 (in_c 1 rfl) rfl rfl
            refine g_goto 3 (gd rfl) rfl ?_
            exact gg_w (by first | exact Nat.le_add_right _ _ | exact gw2 | exact gw3 | exact gwe rfl | exact gwf rfl | exact gwg rfl | exact gwh rfl | omega) (gg_f (gf_cons rfl (gf_cons rfl (gf_cons rfl (gf_cons rfl (gf_cons rfl (gf_cons rfl gf_nil)))))) (ih3 (sL (sI sc3 167 y3_5.toNatClampNeg (Int32.ofInt (-1))) 168 y3_5.toNatClampNeg (Int64.ofInt 0)) z43 hI42 (fr_sL rfl (fr_sI rfl hFc3)) (in_w 0 32 i43 rfl) nz3_2 (m_up mm3 (t_add e43 i9 (in_c 1 rfl) rfl) (in_w 1 1 (in_c 1 rfl) rfl))))
          · skip
            refine g_lconst 1 38 (gd rfl) rfl rfl ?_
            refine g_goto 42 (gd rfl) rfl ?_
            refine g_lastore 43 (gd rfl) rfl (n := 32) rfl (in_ix i9 rfl) ?_
            have hI42 := inv_sL (q := 168) (j := y3_5.toNatClampNeg) (x := (Int64.ofInt 1)) hI26 rfl (l_rng (Int64.ofInt 1))
            refine g_iinc 46 (gd rfl) rfl rfl (Nat.le_of_ble_eq_true rfl) (fun z43 e43 => ?_)
            have i43 := in_add 1 32 e43 i9 (in_c 1 rfl) rfl rfl
            refine g_goto 3 (gd rfl) rfl ?_
            exact gg_w (by first | exact Nat.le_add_right _ _ | exact gw2 | exact gw3 | exact gwe rfl | exact gwf rfl | exact gwg rfl | exact gwh rfl | omega) (gg_f (gf_cons rfl (gf_cons rfl (gf_cons rfl (gf_cons rfl (gf_cons rfl (gf_cons rfl gf_nil)))))) (ih3 (sL (sI sc3 167 y3_5.toNatClampNeg (Int32.ofInt (-1))) 168 y3_5.toNatClampNeg (Int64.ofInt 1)) z43 hI42 (fr_sL rfl (fr_sI rfl hFc3)) (in_w 0 32 i43 rfl) nz3_2 (m_up mm3 (t_add e43 i9 (in_c 1 rfl) rfl) (in_w 1 1 (in_c 1 rfl) rfl))))
        · skip
          refine g_iconst 0 22 (gd rfl) rfl rfl ?_
          refine g_goto 26 (gd rfl) rfl ?_
          refine g_iastore 27 (gd rfl) rfl (n := 32) rfl (in_ix i9 rfl) ?_
          have hI26 := inv_sI (q := 167) (j := y3_5.toNatClampNeg) hIc3 rfl (in_w (-2147483648) 2147483647 (in_c 0 rfl) rfl)
          refine g_aload 29 (gd rfl) rfl rfl ?_
          refine g_iload 31 (gd rfl) rfl rfl ?_
          refine g_iload 33 (gd rfl) rfl rfl ?_
          refine g_iload_n 34 (gd rfl) rfl rfl ?_
          refine g_cmp_ne 37 41 (gd rfl) rfl rfl (fun c34 => ?_) (fun c34 => ?_)
          · skip
            refine g_lconst 0 42 (gd rfl) rfl rfl ?_
            refine g_lastore 43 (gd rfl) rfl (n := 32) rfl (in_ix i9 rfl) ?_
            have hI42 := inv_sL (q := 168) (j := y3_5.toNatClampNeg) (x := (Int64.ofInt 0)) hI26 rfl (l_rng (Int64.ofInt 0))
            refine g_iinc 46 (gd rfl) rfl rfl (Nat.le_of_ble_eq_true rfl) (fun z43 e43 => ?_)
            have i43 := in_add 1 32 e43 i9 (in_c 1 rfl) rfl rfl
            refine g_goto 3 (gd rfl) rfl ?_
            exact gg_w (by first | exact Nat.le_add_right _ _ | exact gw2 | exact gw3 | exact gwe rfl | exact gwf rfl | exact gwg rfl | exact gwh rfl | omega) (gg_f (gf_cons rfl (gf_cons rfl (gf_cons rfl (gf_cons rfl (gf_cons rfl (gf_cons rfl gf_nil)))))) (ih3 (sL (sI sc3 167 y3_5.toNatClampNeg (Int32.ofInt 0)) 168 y3_5.toNatClampNeg (Int64.ofInt 0)) z43 hI42 (fr_sL rfl (fr_sI rfl hFc3)) (in_w 0 32 i43 rfl) nz3_2 (m_up mm3 (t_add e43 i9 (in_c 1 rfl) rfl) (in_w 1 1 (in_c 1 rfl) rfl))))
          · skip
            refine g_lconst 1 38 (gd rfl) rfl rfl ?_
            refine g_goto 42 (gd rfl) rfl ?_
            refine g_lastore 43 (gd rfl) rfl (n := 32) rfl (in_ix i9 rfl) ?_
            have hI42 := inv_sL (q := 168) (j := y3_5.toNatClampNeg) (x := (Int64.ofInt 1)) hI26 rfl (l_rng (Int64.ofInt 1))
            refine g_iinc 46 (gd rfl) rfl rfl (Nat.le_of_ble_eq_true rfl) (fun z43 e43 => ?_)
            have i43 := in_add 1 32 e43 i9 (in_c 1 rfl) rfl rfl
            refine g_goto 3 (gd rfl) rfl ?_
            exact gg_w (by first | exact Nat.le_add_right _ _ | exact gw2 | exact gw3 | exact gwe rfl | exact gwf rfl | exact gwg rfl | exact gwh rfl | omega) (gg_f (gf_cons rfl (gf_cons rfl (gf_cons rfl (gf_cons rfl (gf_cons rfl (gf_cons rfl gf_nil)))))) (ih3 (sL (sI sc3 167 y3_5.toNatClampNeg (Int32.ofInt 0)) 168 y3_5.toNatClampNeg (Int64.ofInt 1)) z43 hI42 (fr_sL rfl (fr_sI rfl hFc3)) (in_w 0 32 i43 rfl) nz3_2 (m_up mm3 (t_add e43 i9 (in_c 1 rfl) rfl) (in_w 1 1 (in_c 1 rfl) rfl))))
  refine g_enter2 (k := 370) (N := 12029435) (by first | exact dq1 hd rfl | exact dq0 hd rfl | exact dq2 hd rfl | exact dq3 hd rfl | omega) rfl (Nat.le_of_ble_eq_true rfl) ?_
  refine g_iconst 0 1 (gd rfl) rfl rfl ?_
  refine g_istore 3 (gd rfl) rfl (Nat.le_of_ble_eq_true rfl) ?_
  exact gg_w (by first | exact Nat.le_of_ble_eq_true rfl | omega) (gg_f (gf_cons rfl (gf_cons rfl (gf_cons rfl (gf_cons rfl (gf_cons rfl (gf_cons rfl gf_nil)))))) (ct3 33 s (Int32.ofInt 0) hI fr_rf (in_w 0 32 (in_c 0 rfl) rfl) (nz_r h2 rfl) (m_in 33 (in_w 0 32 (in_c 0 rfl) rfl) rfl)))

def fm_371 : FM := ([165, 167], [166, 168], [(109, 0)], [])
/-- GraphHouseModel.shortest -/
theorem k_371 {Z : AmZ} {A : Nat → Nat} {s : GS} {ex : va_W} {d : Nat} {X : AmX} {x1 : Int32} {x2 : Int32} {x3 : Int32} {x4 : Int32} (hd : 4 ≤ d) (hI : Inv s)  : GC Z d 371 [.ref (A 109), .int x1, .int x2, .int x3, .int x4] (WW Z A s ++ ex) 0 0 (fun v u => ∃ t : GS, Inv t ∧ Fr fm_371 s t ∧ ∃ z : Int32, v = some (.int z) ∧ u = WW Z A t ++ ex ∧ In z (-2147483648) 2147483647) X := by
  intro post xp hP hX
  obtain ⟨u_109_20, e_109_20⟩ : ∃ w, w = s.2.2.1 109 20 := ⟨_, rfl⟩
  have ro_109_20 := inv_F hI 0 32 rfl e_109_20
  have ct151 : ∀ (sc151 : GS) , Inv sc151 → Fr fm_371 s sc151 → (In x1 0 31) → (In x2 0 31) → (In x3 2 2) → (In x4 0 31) → ((x3).toInt ≠ 0) → GG Z (d - 1) 371 post (gx xp) (901) 151 (fun j => xlook j [(0, .ref (A 109)), (1, .int x1), (2, .int x2), (3, .int x3), (4, .int x4)]) [] (WW Z A sc151 ++ ex) 0 0 := by
    intro sc151  hIc151 hFc151 j151_1 j151_2 j151_3 j151_4 nz151_3
    refine g_iconst 0 152 (gd rfl) rfl rfl ?_
    refine g_istore 154 (gd rfl) rfl (Nat.le_of_ble_eq_true rfl) ?_
    refine g_iload 156 (gd rfl) rfl rfl ?_
    refine g_if_eq 159 182 (gd rfl) rfl rfl (fun c156 => ?_) (fun c156 => ?_)
    · skip
      refine g_iconst 0 183 (gd rfl) rfl rfl ?_
      exact g_ireturn (gd rfl) rfl rfl (hP _ _ ⟨sc151, hIc151, hFc151, (Int32.ofInt 0), rfl, rfl, in_w (-2147483648) 2147483647 (in_c 0 rfl) rfl⟩)
    · skip
      exact zn_ne c156 (in_c 0 rfl) rfl
  refine g_enter2 (k := 371) (N := 1801) (by first | exact dq1 hd rfl | exact dq0 hd rfl | exact dq2 hd rfl | exact dq3 hd rfl | omega) rfl (Nat.le_of_ble_eq_true rfl) ?_
  refine g_aload_n 1 (gd rfl) rfl rfl ?_
  refine g_aload_n 2 (gd rfl) rfl rfl ?_
  refine g_iload_n 3 (gd rfl) rfl rfl ?_
  refine g_callv (X := _) (As := [.int x1]) (r := [.ref (A 109)]) (b := A 109) (q := 109) 6 (gd rfl) rfl rfl rfl rfl rfl (ww_o rfl) (Nat.le_of_ble_eq_true rfl) (mc := 0) (ms := 0) (Nat.zero_le _) (Nat.zero_le _) (P := fun v u => _) ?_ (fun e u h => h) (fun v u h => h)
  intro po3 xx3 hp3 hx3
  refine g_enter2 (k := 272) (N := 300) (by first | exact dq1 hd rfl | exact dq0 hd rfl | exact dq2 hd rfl | exact dq3 hd rfl | omega) rfl (Nat.le_of_ble_eq_true rfl) ?_
  refine g_iload_n 1 (gd rfl) rfl rfl ?_
  refine g_if_lt 4 16 (gd rfl) rfl rfl (fun c3x1 => ?_) (fun c3x1 => ?_)
  · skip
    have i3x1 := z_lt (-2147483648) (-1) c3x1 (i_rng x1) rfl
    refine g_iconst 0 17 (gd rfl) rfl rfl ?_
    refine g_ireturn (gd rfl) rfl (nb01 (in_w 0 1 (in_c 0 rfl) rfl)) (hp3 _ _ ?_)
    show GG _ _ _ _ _ _ _ _ [.int (Int32.ofInt 0), .ref (A 109)] _ _ _
    refine g_if_eq 9 42 (gd rfl) rfl rfl (fun c6 => ?_) (fun c6 => ?_)
    · skip
      refine g_iconst 0 43 (gd rfl) rfl rfl ?_
      refine g_callv (X := _) (As := [.int (Int32.ofInt 0)]) (r := []) (b := A 109) (q := 109) 46 (gd rfl) rfl rfl rfl rfl rfl (ww_o rfl) (Nat.le_of_ble_eq_true rfl) (mc := 0) (ms := 0) (Nat.zero_le _) (Nat.zero_le _) (P := fun v u => _) ?_ (fun e u h => h) (fun v u h => h)
      intro po43 xx43 hp43 hx43
      refine g_enter2 (k := 271) (N := 300) (by first | exact dq1 hd rfl | exact dq0 hd rfl | exact dq2 hd rfl | exact dq3 hd rfl | omega) rfl (Nat.le_of_ble_eq_true rfl) ?_
      refine g_aload_n 1 (gd rfl) rfl rfl ?_
      refine g_iload_n 2 (gd rfl) rfl rfl ?_
      refine g_iconst 1 3 (gd rfl) rfl rfl ?_
      refine g_callv (X := _) (As := [.int (Int32.ofInt 0), .int (Int32.ofInt 1)]) (r := []) (b := A 109) (q := 109) 6 (gd rfl) rfl rfl rfl rfl rfl (ww_o rfl) (Nat.le_of_ble_eq_true rfl) (mc := 0) (ms := 0) (Nat.zero_le _) (Nat.zero_le _) (P := fun v u => _) ?_ (fun e u h => h) (fun v u h => h)
      intro po43x3 xx43x3 hp43x3 hx43x3
      refine g_enter2 (k := 270) (N := 300) (by first | exact dq1 hd rfl | exact dq0 hd rfl | exact dq2 hd rfl | exact dq3 hd rfl | omega) rfl (Nat.le_of_ble_eq_true rfl) ?_
      refine g_aload_n 1 (gd rfl) rfl rfl ?_
      refine g_iload_n 2 (gd rfl) rfl rfl ?_
      refine g_if_ne 5 9 (gd rfl) rfl rfl (fun c43x3x2 => ?_) (fun c43x3x2 => ?_)
      · skip
        exact zn_ne c43x3x2 (in_c 0 rfl) rfl
      · skip
        refine g_iconst 1 6 (gd rfl) rfl rfl ?_
        refine g_goto 18 (gd rfl) rfl ?_
        refine g_putI 21 (gd rfl) rfl rfl rfl rfl ?_
        have hI43x3x18 := inv_sF (q := 109) (j := 0) hI rfl (in_w 0 2 (in_c 1 rfl) rfl)
        refine g_aload_n 22 (gd rfl) rfl rfl ?_
        refine g_getI 25 (gd rfl) rfl rfl rfl (fun z43x3x22 e43x3x22 => ?_)
        have q43x3x22 : (Int32.ofInt 1) = z43x3x22 := (sF_get).trans e43x3x22.symm
        subst q43x3x22
        refine g_if_le 28 32 (gd rfl) rfl rfl (fun c43x3x25 => ?_) (fun c43x3x25 => ?_)
        · skip
          exact zn_le c43x3x25 (in_c 1 rfl) rfl
        · skip
          refine g_iconst 1 29 (gd rfl) rfl rfl ?_
          refine g_goto 33 (gd rfl) rfl ?_
          refine g_ireturn (gd rfl) rfl (nb01 (in_w 0 1 (in_c 1 rfl) rfl)) (hp43x3 _ _ ?_)
          show GG _ _ _ _ _ _ _ _ [.int (Int32.ofInt 1)] _ _ _
          refine g_ireturn (gd rfl) rfl (nb01 (in_w 0 1 (in_c 1 rfl) rfl)) (hp43 _ _ ?_)
          show GG _ _ _ _ _ _ _ _ [.int (Int32.ofInt 1)] _ _ _
          refine g_if_eq 49 51 (gd rfl) rfl rfl (fun c46 => ?_) (fun c46 => ?_)
          · skip
            exact zn_eq c46 (in_c 1 rfl) rfl
          · skip
            refine g_iconst 0 50 (gd rfl) rfl rfl ?_
            exact g_ireturn (gd rfl) rfl rfl (hP _ _ ⟨(sF s 109 0 (Int32.ofInt 1)), hI43x3x18, (fr_sF rfl fr_rf), (Int32.ofInt 0), rfl, rfl, in_w (-2147483648) 2147483647 (in_c 0 rfl) rfl⟩)
    · skip
      exact zn_ne c6 (in_c 0 rfl) rfl
  · skip
    have i3x1 := z_ge 0 2147483647 c3x1 (i_rng x1) rfl
    refine g_iload_n 5 (gd rfl) rfl rfl ?_
    refine g_aload_n 6 (gd rfl) rfl rfl ?_
    refine g_getI 9 (gd rfl) rfl rfl rfl (fun z3x6 e3x6 => ?_)
    have q3x6 : u_109_20 = z3x6 := (e_109_20).trans e3x6.symm
    subst q3x6
    refine g_cmp_ge 12 16 (gd rfl) rfl rfl (fun c3x9 => ?_) (fun c3x9 => ?_)
    · skip
      refine g_iconst 0 17 (gd rfl) rfl rfl ?_
      refine g_ireturn (gd rfl) rfl (nb01 (in_w 0 1 (in_c 0 rfl) rfl)) (hp3 _ _ ?_)
      show GG _ _ _ _ _ _ _ _ [.int (Int32.ofInt 0), .ref (A 109)] _ _ _
      refine g_if_eq 9 42 (gd rfl) rfl rfl (fun c6 => ?_) (fun c6 => ?_)
      · skip
        refine g_iconst 0 43 (gd rfl) rfl rfl ?_
        refine g_callv (X := _) (As := [.int (Int32.ofInt 0)]) (r := []) (b := A 109) (q := 109) 46 (gd rfl) rfl rfl rfl rfl rfl (ww_o rfl) (Nat.le_of_ble_eq_true rfl) (mc := 0) (ms := 0) (Nat.zero_le _) (Nat.zero_le _) (P := fun v u => _) ?_ (fun e u h => h) (fun v u h => h)
        intro po43 xx43 hp43 hx43
        refine g_enter2 (k := 271) (N := 300) (by first | exact dq1 hd rfl | exact dq0 hd rfl | exact dq2 hd rfl | exact dq3 hd rfl | omega) rfl (Nat.le_of_ble_eq_true rfl) ?_
        refine g_aload_n 1 (gd rfl) rfl rfl ?_
        refine g_iload_n 2 (gd rfl) rfl rfl ?_
        refine g_iconst 1 3 (gd rfl) rfl rfl ?_
        refine g_callv (X := _) (As := [.int (Int32.ofInt 0), .int (Int32.ofInt 1)]) (r := []) (b := A 109) (q := 109) 6 (gd rfl) rfl rfl rfl rfl rfl (ww_o rfl) (Nat.le_of_ble_eq_true rfl) (mc := 0) (ms := 0) (Nat.zero_le _) (Nat.zero_le _) (P := fun v u => _) ?_ (fun e u h => h) (fun v u h => h)
        intro po43x3 xx43x3 hp43x3 hx43x3
        refine g_enter2 (k := 270) (N := 300) (by first | exact dq1 hd rfl | exact dq0 hd rfl | exact dq2 hd rfl | exact dq3 hd rfl | omega) rfl (Nat.le_of_ble_eq_true rfl) ?_
        refine g_aload_n 1 (gd rfl) rfl rfl ?_
        refine g_iload_n 2 (gd rfl) rfl rfl ?_
        refine g_if_ne 5 9 (gd rfl) rfl rfl (fun c43x3x2 => ?_) (fun c43x3x2 => ?_)
        · skip
          exact zn_ne c43x3x2 (in_c 0 rfl) rfl
        · skip
          refine g_iconst 1 6 (gd rfl) rfl rfl ?_
          refine g_goto 18 (gd rfl) rfl ?_
          refine g_putI 21 (gd rfl) rfl rfl rfl rfl ?_
          have hI43x3x18 := inv_sF (q := 109) (j := 0) hI rfl (in_w 0 2 (in_c 1 rfl) rfl)
          refine g_aload_n 22 (gd rfl) rfl rfl ?_
          refine g_getI 25 (gd rfl) rfl rfl rfl (fun z43x3x22 e43x3x22 => ?_)
          have q43x3x22 : (Int32.ofInt 1) = z43x3x22 := (sF_get).trans e43x3x22.symm
          subst q43x3x22
          refine g_if_le 28 32 (gd rfl) rfl rfl (fun c43x3x25 => ?_) (fun c43x3x25 => ?_)
          · skip
            exact zn_le c43x3x25 (in_c 1 rfl) rfl
          · skip
            refine g_iconst 1 29 (gd rfl) rfl rfl ?_
            refine g_goto 33 (gd rfl) rfl ?_
            refine g_ireturn (gd rfl) rfl (nb01 (in_w 0 1 (in_c 1 rfl) rfl)) (hp43x3 _ _ ?_)
            show GG _ _ _ _ _ _ _ _ [.int (Int32.ofInt 1)] _ _ _
            refine g_ireturn (gd rfl) rfl (nb01 (in_w 0 1 (in_c 1 rfl) rfl)) (hp43 _ _ ?_)
            show GG _ _ _ _ _ _ _ _ [.int (Int32.ofInt 1)] _ _ _
            refine g_if_eq 49 51 (gd rfl) rfl rfl (fun c46 => ?_) (fun c46 => ?_)
            · skip
              exact zn_eq c46 (in_c 1 rfl) rfl
            · skip
              refine g_iconst 0 50 (gd rfl) rfl rfl ?_
              exact g_ireturn (gd rfl) rfl rfl (hP _ _ ⟨(sF s 109 0 (Int32.ofInt 1)), hI43x3x18, (fr_sF rfl fr_rf), (Int32.ofInt 0), rfl, rfl, in_w (-2147483648) 2147483647 (in_c 0 rfl) rfl⟩)
      · skip
        exact zn_ne c6 (in_c 0 rfl) rfl
    · skip
      have i3x9 := r_lt1 0 31 c3x9 i3x1 ro_109_20 rfl
      have i3x9a := r_lt2 1 32 c3x9 i3x1 ro_109_20 rfl
      refine g_iconst 1 13 (gd rfl) rfl rfl ?_
      refine g_goto 17 (gd rfl) rfl ?_
      refine g_ireturn (gd rfl) rfl (nb01 (in_w 0 1 (in_c 1 rfl) rfl)) (hp3 _ _ ?_)
      show GG _ _ _ _ _ _ _ _ [.int (Int32.ofInt 1), .ref (A 109)] _ _ _
      refine g_if_eq 9 42 (gd rfl) rfl rfl (fun c6 => ?_) (fun c6 => ?_)
      · skip
        exact zn_eq c6 (in_c 1 rfl) rfl
      · skip
        refine g_aload_n 10 (gd rfl) rfl rfl ?_
        refine g_iload_n 11 (gd rfl) rfl rfl ?_
        refine g_callv (X := _) (As := [.int x2]) (r := [.ref (A 109)]) (b := A 109) (q := 109) 14 (gd rfl) rfl rfl rfl rfl rfl (ww_o rfl) (Nat.le_of_ble_eq_true rfl) (mc := 0) (ms := 0) (Nat.zero_le _) (Nat.zero_le _) (P := fun v u => _) ?_ (fun e u h => h) (fun v u h => h)
        intro po11 xx11 hp11 hx11
        refine g_enter2 (k := 272) (N := 300) (by first | exact dq1 hd rfl | exact dq0 hd rfl | exact dq2 hd rfl | exact dq3 hd rfl | omega) rfl (Nat.le_of_ble_eq_true rfl) ?_
        refine g_iload_n 1 (gd rfl) rfl rfl ?_
        refine g_if_lt 4 16 (gd rfl) rfl rfl (fun c11x1 => ?_) (fun c11x1 => ?_)
        · skip
          have i11x1 := z_lt (-2147483648) (-1) c11x1 (i_rng x2) rfl
          refine g_iconst 0 17 (gd rfl) rfl rfl ?_
          refine g_ireturn (gd rfl) rfl (nb01 (in_w 0 1 (in_c 0 rfl) rfl)) (hp11 _ _ ?_)
          show GG _ _ _ _ _ _ _ _ [.int (Int32.ofInt 0), .ref (A 109)] _ _ _
          refine g_if_eq 17 42 (gd rfl) rfl rfl (fun c14 => ?_) (fun c14 => ?_)
          · skip
            refine g_iconst 0 43 (gd rfl) rfl rfl ?_
            refine g_callv (X := _) (As := [.int (Int32.ofInt 0)]) (r := []) (b := A 109) (q := 109) 46 (gd rfl) rfl rfl rfl rfl rfl (ww_o rfl) (Nat.le_of_ble_eq_true rfl) (mc := 0) (ms := 0) (Nat.zero_le _) (Nat.zero_le _) (P := fun v u => _) ?_ (fun e u h => h) (fun v u h => h)
            intro po43 xx43 hp43 hx43
            refine g_enter2 (k := 271) (N := 300) (by first | exact dq1 hd rfl | exact dq0 hd rfl | exact dq2 hd rfl | exact dq3 hd rfl | omega) rfl (Nat.le_of_ble_eq_true rfl) ?_
            refine g_aload_n 1 (gd rfl) rfl rfl ?_
            refine g_iload_n 2 (gd rfl) rfl rfl ?_
            refine g_iconst 1 3 (gd rfl) rfl rfl ?_
            refine g_callv (X := _) (As := [.int (Int32.ofInt 0), .int (Int32.ofInt 1)]) (r := []) (b := A 109) (q := 109) 6 (gd rfl) rfl rfl rfl rfl rfl (ww_o rfl) (Nat.le_of_ble_eq_true rfl) (mc := 0) (ms := 0) (Nat.zero_le _) (Nat.zero_le _) (P := fun v u => _) ?_ (fun e u h => h) (fun v u h => h)
            intro po43x3 xx43x3 hp43x3 hx43x3
            refine g_enter2 (k := 270) (N := 300) (by first | exact dq1 hd rfl | exact dq0 hd rfl | exact dq2 hd rfl | exact dq3 hd rfl | omega) rfl (Nat.le_of_ble_eq_true rfl) ?_
            refine g_aload_n 1 (gd rfl) rfl rfl ?_
            refine g_iload_n 2 (gd rfl) rfl rfl ?_
            refine g_if_ne 5 9 (gd rfl) rfl rfl (fun c43x3x2 => ?_) (fun c43x3x2 => ?_)
            · skip
              exact zn_ne c43x3x2 (in_c 0 rfl) rfl
            · skip
              refine g_iconst 1 6 (gd rfl) rfl rfl ?_
              refine g_goto 18 (gd rfl) rfl ?_
              refine g_putI 21 (gd rfl) rfl rfl rfl rfl ?_
              have hI43x3x18 := inv_sF (q := 109) (j := 0) hI rfl (in_w 0 2 (in_c 1 rfl) rfl)
              refine g_aload_n 22 (gd rfl) rfl rfl ?_
              refine g_getI 25 (gd rfl) rfl rfl rfl (fun z43x3x22 e43x3x22 => ?_)
              have q43x3x22 : (Int32.ofInt 1) = z43x3x22 := (sF_get).trans e43x3x22.symm
              subst q43x3x22
              refine g_if_le 28 32 (gd rfl) rfl rfl (fun c43x3x25 => ?_) (fun c43x3x25 => ?_)
              · skip
                exact zn_le c43x3x25 (in_c 1 rfl) rfl
              · skip
                refine g_iconst 1 29 (gd rfl) rfl rfl ?_
                refine g_goto 33 (gd rfl) rfl ?_
                refine g_ireturn (gd rfl) rfl (nb01 (in_w 0 1 (in_c 1 rfl) rfl)) (hp43x3 _ _ ?_)
                show GG _ _ _ _ _ _ _ _ [.int (Int32.ofInt 1)] _ _ _
                refine g_ireturn (gd rfl) rfl (nb01 (in_w 0 1 (in_c 1 rfl) rfl)) (hp43 _ _ ?_)
                show GG _ _ _ _ _ _ _ _ [.int (Int32.ofInt 1)] _ _ _
                refine g_if_eq 49 51 (gd rfl) rfl rfl (fun c46 => ?_) (fun c46 => ?_)
                · skip
                  exact zn_eq c46 (in_c 1 rfl) rfl
                · skip
                  refine g_iconst 0 50 (gd rfl) rfl rfl ?_
                  exact g_ireturn (gd rfl) rfl rfl (hP _ _ ⟨(sF s 109 0 (Int32.ofInt 1)), hI43x3x18, (fr_sF rfl fr_rf), (Int32.ofInt 0), rfl, rfl, in_w (-2147483648) 2147483647 (in_c 0 rfl) rfl⟩)
          · skip
            exact zn_ne c14 (in_c 0 rfl) rfl
        · skip
          have i11x1 := z_ge 0 2147483647 c11x1 (i_rng x2) rfl
          refine g_iload_n 5 (gd rfl) rfl rfl ?_
          refine g_aload_n 6 (gd rfl) rfl rfl ?_
          refine g_getI 9 (gd rfl) rfl rfl rfl (fun z11x6 e11x6 => ?_)
          have q11x6 : u_109_20 = z11x6 := (e_109_20).trans e11x6.symm
          subst q11x6
          refine g_cmp_ge 12 16 (gd rfl) rfl rfl (fun c11x9 => ?_) (fun c11x9 => ?_)
          · skip
            have i11x9 := r_le2 1 2147483647 c11x9 i3x9a i11x1 rfl
            refine g_iconst 0 17 (gd rfl) rfl rfl ?_
            refine g_ireturn (gd rfl) rfl (nb01 (in_w 0 1 (in_c 0 rfl) rfl)) (hp11 _ _ ?_)
            show GG _ _ _ _ _ _ _ _ [.int (Int32.ofInt 0), .ref (A 109)] _ _ _
            refine g_if_eq 17 42 (gd rfl) rfl rfl (fun c14 => ?_) (fun c14 => ?_)
            · skip
              refine g_iconst 0 43 (gd rfl) rfl rfl ?_
              refine g_callv (X := _) (As := [.int (Int32.ofInt 0)]) (r := []) (b := A 109) (q := 109) 46 (gd rfl) rfl rfl rfl rfl rfl (ww_o rfl) (Nat.le_of_ble_eq_true rfl) (mc := 0) (ms := 0) (Nat.zero_le _) (Nat.zero_le _) (P := fun v u => _) ?_ (fun e u h => h) (fun v u h => h)
              intro po43 xx43 hp43 hx43
              refine g_enter2 (k := 271) (N := 300) (by first | exact dq1 hd rfl | exact dq0 hd rfl | exact dq2 hd rfl | exact dq3 hd rfl | omega) rfl (Nat.le_of_ble_eq_true rfl) ?_
              refine g_aload_n 1 (gd rfl) rfl rfl ?_
              refine g_iload_n 2 (gd rfl) rfl rfl ?_
              refine g_iconst 1 3 (gd rfl) rfl rfl ?_
              refine g_callv (X := _) (As := [.int (Int32.ofInt 0), .int (Int32.ofInt 1)]) (r := []) (b := A 109) (q := 109) 6 (gd rfl) rfl rfl rfl rfl rfl (ww_o rfl) (Nat.le_of_ble_eq_true rfl) (mc := 0) (ms := 0) (Nat.zero_le _) (Nat.zero_le _) (P := fun v u => _) ?_ (fun e u h => h) (fun v u h => h)
              intro po43x3 xx43x3 hp43x3 hx43x3
              refine g_enter2 (k := 270) (N := 300) (by first | exact dq1 hd rfl | exact dq0 hd rfl | exact dq2 hd rfl | exact dq3 hd rfl | omega) rfl (Nat.le_of_ble_eq_true rfl) ?_
              refine g_aload_n 1 (gd rfl) rfl rfl ?_
              refine g_iload_n 2 (gd rfl) rfl rfl ?_
              refine g_if_ne 5 9 (gd rfl) rfl rfl (fun c43x3x2 => ?_) (fun c43x3x2 => ?_)
              · skip
                exact zn_ne c43x3x2 (in_c 0 rfl) rfl
              · skip
                refine g_iconst 1 6 (gd rfl) rfl rfl ?_
                refine g_goto 18 (gd rfl) rfl ?_
                refine g_putI 21 (gd rfl) rfl rfl rfl rfl ?_
                have hI43x3x18 := inv_sF (q := 109) (j := 0) hI rfl (in_w 0 2 (in_c 1 rfl) rfl)
                refine g_aload_n 22 (gd rfl) rfl rfl ?_
                refine g_getI 25 (gd rfl) rfl rfl rfl (fun z43x3x22 e43x3x22 => ?_)
                have q43x3x22 : (Int32.ofInt 1) = z43x3x22 := (sF_get).trans e43x3x22.symm
                subst q43x3x22
                refine g_if_le 28 32 (gd rfl) rfl rfl (fun c43x3x25 => ?_) (fun c43x3x25 => ?_)
                · skip
                  exact zn_le c43x3x25 (in_c 1 rfl) rfl
                · skip
                  refine g_iconst 1 29 (gd rfl) rfl rfl ?_
                  refine g_goto 33 (gd rfl) rfl ?_
                  refine g_ireturn (gd rfl) rfl (nb01 (in_w 0 1 (in_c 1 rfl) rfl)) (hp43x3 _ _ ?_)
                  show GG _ _ _ _ _ _ _ _ [.int (Int32.ofInt 1)] _ _ _
                  refine g_ireturn (gd rfl) rfl (nb01 (in_w 0 1 (in_c 1 rfl) rfl)) (hp43 _ _ ?_)
                  show GG _ _ _ _ _ _ _ _ [.int (Int32.ofInt 1)] _ _ _
                  refine g_if_eq 49 51 (gd rfl) rfl rfl (fun c46 => ?_) (fun c46 => ?_)
                  · skip
                    exact zn_eq c46 (in_c 1 rfl) rfl
                  · skip
                    refine g_iconst 0 50 (gd rfl) rfl rfl ?_
                    exact g_ireturn (gd rfl) rfl rfl (hP _ _ ⟨(sF s 109 0 (Int32.ofInt 1)), hI43x3x18, (fr_sF rfl fr_rf), (Int32.ofInt 0), rfl, rfl, in_w (-2147483648) 2147483647 (in_c 0 rfl) rfl⟩)
            · skip
              exact zn_ne c14 (in_c 0 rfl) rfl
          · skip
            have i11x9 := r_lt1 0 31 c11x9 i11x1 i3x9a rfl
            refine g_iconst 1 13 (gd rfl) rfl rfl ?_
            refine g_goto 17 (gd rfl) rfl ?_
            refine g_ireturn (gd rfl) rfl (nb01 (in_w 0 1 (in_c 1 rfl) rfl)) (hp11 _ _ ?_)
            show GG _ _ _ _ _ _ _ _ [.int (Int32.ofInt 1), .ref (A 109)] _ _ _
            refine g_if_eq 17 42 (gd rfl) rfl rfl (fun c14 => ?_) (fun c14 => ?_)
            · skip
              exact zn_eq c14 (in_c 1 rfl) rfl
            · skip
              refine g_iload_n 18 (gd rfl) rfl rfl ?_
              refine g_i2l 19 (gd rfl) rfl (fun z18 e18 => ?_)
              have i18 := l_i e18 (i_rng x3)
              refine g_lconst 0 20 (gd rfl) rfl rfl ?_
              refine g_ldc2_w 2 23 (gd rfl) rfl rfl ?_
              refine g_calls (As := [.long z18, .long (Int64.ofInt 0), .long (Int64.ofInt 2)]) (r := [.ref (A 109)]) 26 (gd rfl) rfl rfl rfl rfl rfl (Nat.le_of_ble_eq_true rfl) (mc := 0) (ms := 0) (Nat.zero_le _) (Nat.zero_le _) (P := fun v u => _) ?_ (fun v u h => h)
              intro po23 xx23 hp23 hx23
              refine g_enter2 (k := 269) (N := 300) (by first | exact dq1 hd rfl | exact dq0 hd rfl | exact dq2 hd rfl | exact dq3 hd rfl | omega) rfl (Nat.le_of_ble_eq_true rfl) ?_
              refine g_lload_n 1 (gd rfl) rfl rfl ?_
              refine g_lload_n 2 (gd rfl) rfl rfl ?_
              refine g_lcmp 3 (gd rfl) rfl (fun z23x2 e23x2 => ?_)
              have i23x2 := lc_in e23x2
              refine g_if_lt 6 17 (gd rfl) rfl rfl (fun c23x3 => ?_) (fun c23x3 => ?_)
              · skip
                have i23x3 := z_lt (-1) (-1) c23x3 i23x2 rfl
                have c23x3a := lc_lt e23x2 c23x3
                have i23x3a := lr_lt1 (-2147483648) (-1) c23x3a i18 (l_c 0 rfl) rfl
                have i23x3b := l_b e18 i23x3a
                refine g_iconst 0 18 (gd rfl) rfl rfl ?_
                refine g_ireturn (gd rfl) rfl (nb01 (in_w 0 1 (in_c 0 rfl) rfl)) (hp23 _ _ ?_)
                show GG _ _ _ _ _ _ _ _ [.int (Int32.ofInt 0), .ref (A 109)] _ _ _
                refine g_if_eq 29 42 (gd rfl) rfl rfl (fun c26 => ?_) (fun c26 => ?_)
                · skip
                  refine g_iconst 0 43 (gd rfl) rfl rfl ?_
                  refine g_callv (X := _) (As := [.int (Int32.ofInt 0)]) (r := []) (b := A 109) (q := 109) 46 (gd rfl) rfl rfl rfl rfl rfl (ww_o rfl) (Nat.le_of_ble_eq_true rfl) (mc := 0) (ms := 0) (Nat.zero_le _) (Nat.zero_le _) (P := fun v u => _) ?_ (fun e u h => h) (fun v u h => h)
                  intro po43 xx43 hp43 hx43
                  refine g_enter2 (k := 271) (N := 300) (by first | exact dq1 hd rfl | exact dq0 hd rfl | exact dq2 hd rfl | exact dq3 hd rfl | omega) rfl (Nat.le_of_ble_eq_true rfl) ?_
                  refine g_aload_n 1 (gd rfl) rfl rfl ?_
                  refine g_iload_n 2 (gd rfl) rfl rfl ?_
                  refine g_iconst 1 3 (gd rfl) rfl rfl ?_
                  refine g_callv (X := _) (As := [.int (Int32.ofInt 0), .int (Int32.ofInt 1)]) (r := []) (b := A 109) (q := 109) 6 (gd rfl) rfl rfl rfl rfl rfl (ww_o rfl) (Nat.le_of_ble_eq_true rfl) (mc := 0) (ms := 0) (Nat.zero_le _) (Nat.zero_le _) (P := fun v u => _) ?_ (fun e u h => h) (fun v u h => h)
                  intro po43x3 xx43x3 hp43x3 hx43x3
                  refine g_enter2 (k := 270) (N := 300) (by first | exact dq1 hd rfl | exact dq0 hd rfl | exact dq2 hd rfl | exact dq3 hd rfl | omega) rfl (Nat.le_of_ble_eq_true rfl) ?_
                  refine g_aload_n 1 (gd rfl) rfl rfl ?_
                  refine g_iload_n 2 (gd rfl) rfl rfl ?_
                  refine g_if_ne 5 9 (gd rfl) rfl rfl (fun c43x3x2 => ?_) (fun c43x3x2 => ?_)
                  · skip
                    exact zn_ne c43x3x2 (in_c 0 rfl) rfl
                  · skip
                    refine g_iconst 1 6 (gd rfl) rfl rfl ?_
                    refine g_goto 18 (gd rfl) rfl ?_
                    refine g_putI 21 (gd rfl) rfl rfl rfl rfl ?_
                    have hI43x3x18 := inv_sF (q := 109) (j := 0) hI rfl (in_w 0 2 (in_c 1 rfl) rfl)
                    refine g_aload_n 22 (gd rfl) rfl rfl ?_
                    refine g_getI 25 (gd rfl) rfl rfl rfl (fun z43x3x22 e43x3x22 => ?_)
                    have q43x3x22 : (Int32.ofInt 1) = z43x3x22 := (sF_get).trans e43x3x22.symm
                    subst q43x3x22
                    refine g_if_le 28 32 (gd rfl) rfl rfl (fun c43x3x25 => ?_) (fun c43x3x25 => ?_)
                    · skip
                      exact zn_le c43x3x25 (in_c 1 rfl) rfl
                    · skip
                      refine g_iconst 1 29 (gd rfl) rfl rfl ?_
                      refine g_goto 33 (gd rfl) rfl ?_
                      refine g_ireturn (gd rfl) rfl (nb01 (in_w 0 1 (in_c 1 rfl) rfl)) (hp43x3 _ _ ?_)
                      show GG _ _ _ _ _ _ _ _ [.int (Int32.ofInt 1)] _ _ _
                      refine g_ireturn (gd rfl) rfl (nb01 (in_w 0 1 (in_c 1 rfl) rfl)) (hp43 _ _ ?_)
                      show GG _ _ _ _ _ _ _ _ [.int (Int32.ofInt 1)] _ _ _
                      refine g_if_eq 49 51 (gd rfl) rfl rfl (fun c46 => ?_) (fun c46 => ?_)
                      · skip
                        exact zn_eq c46 (in_c 1 rfl) rfl
                      · skip
                        refine g_iconst 0 50 (gd rfl) rfl rfl ?_
                        exact g_ireturn (gd rfl) rfl rfl (hP _ _ ⟨(sF s 109 0 (Int32.ofInt 1)), hI43x3x18, (fr_sF rfl fr_rf), (Int32.ofInt 0), rfl, rfl, in_w (-2147483648) 2147483647 (in_c 0 rfl) rfl⟩)
                · skip
                  exact zn_ne c26 (in_c 0 rfl) rfl
              · skip
                have i23x3 := z_ge 0 1 c23x3 i23x2 rfl
                have c23x3a := lc_ge e23x2 c23x3
                have i23x3a := lr_le2 0 2147483647 c23x3a (l_c 0 rfl) i18 rfl
                have i23x3b := l_b e18 i23x3a
                refine g_lload_n 7 (gd rfl) rfl rfl ?_
                refine g_lload 9 (gd rfl) rfl rfl ?_
                refine g_lcmp 10 (gd rfl) rfl (fun z23x9 e23x9 => ?_)
                have i23x9 := lc_in e23x9
                refine g_if_gt 13 17 (gd rfl) rfl rfl (fun c23x10 => ?_) (fun c23x10 => ?_)
                · skip
                  have i23x10 := z_gt 1 1 c23x10 i23x9 rfl
                  have c23x10a := lc_gt e23x9 c23x10
                  have i23x10a := lr_lt2 3 2147483647 c23x10a (l_c 2 rfl) i23x3a rfl
                  have i23x10b := l_b e18 i23x10a
                  refine g_iconst 0 18 (gd rfl) rfl rfl ?_
                  refine g_ireturn (gd rfl) rfl (nb01 (in_w 0 1 (in_c 0 rfl) rfl)) (hp23 _ _ ?_)
                  show GG _ _ _ _ _ _ _ _ [.int (Int32.ofInt 0), .ref (A 109)] _ _ _
                  refine g_if_eq 29 42 (gd rfl) rfl rfl (fun c26 => ?_) (fun c26 => ?_)
                  · skip
                    refine g_iconst 0 43 (gd rfl) rfl rfl ?_
                    refine g_callv (X := _) (As := [.int (Int32.ofInt 0)]) (r := []) (b := A 109) (q := 109) 46 (gd rfl) rfl rfl rfl rfl rfl (ww_o rfl) (Nat.le_of_ble_eq_true rfl) (mc := 0) (ms := 0) (Nat.zero_le _) (Nat.zero_le _) (P := fun v u => _) ?_ (fun e u h => h) (fun v u h => h)
                    intro po43 xx43 hp43 hx43
                    refine g_enter2 (k := 271) (N := 300) (by first | exact dq1 hd rfl | exact dq0 hd rfl | exact dq2 hd rfl | exact dq3 hd rfl | omega) rfl (Nat.le_of_ble_eq_true rfl) ?_
                    refine g_aload_n 1 (gd rfl) rfl rfl ?_
                    refine g_iload_n 2 (gd rfl) rfl rfl ?_
                    refine g_iconst 1 3 (gd rfl) rfl rfl ?_
                    refine g_callv (X := _) (As := [.int (Int32.ofInt 0), .int (Int32.ofInt 1)]) (r := []) (b := A 109) (q := 109) 6 (gd rfl) rfl rfl rfl rfl rfl (ww_o rfl) (Nat.le_of_ble_eq_true rfl) (mc := 0) (ms := 0) (Nat.zero_le _) (Nat.zero_le _) (P := fun v u => _) ?_ (fun e u h => h) (fun v u h => h)
                    intro po43x3 xx43x3 hp43x3 hx43x3
                    refine g_enter2 (k := 270) (N := 300) (by first | exact dq1 hd rfl | exact dq0 hd rfl | exact dq2 hd rfl | exact dq3 hd rfl | omega) rfl (Nat.le_of_ble_eq_true rfl) ?_
                    refine g_aload_n 1 (gd rfl) rfl rfl ?_
                    refine g_iload_n 2 (gd rfl) rfl rfl ?_
                    refine g_if_ne 5 9 (gd rfl) rfl rfl (fun c43x3x2 => ?_) (fun c43x3x2 => ?_)
                    · skip
                      exact zn_ne c43x3x2 (in_c 0 rfl) rfl
                    · skip
                      refine g_iconst 1 6 (gd rfl) rfl rfl ?_
                      refine g_goto 18 (gd rfl) rfl ?_
                      refine g_putI 21 (gd rfl) rfl rfl rfl rfl ?_
                      have hI43x3x18 := inv_sF (q := 109) (j := 0) hI rfl (in_w 0 2 (in_c 1 rfl) rfl)
                      refine g_aload_n 22 (gd rfl) rfl rfl ?_
                      refine g_getI 25 (gd rfl) rfl rfl rfl (fun z43x3x22 e43x3x22 => ?_)
                      have q43x3x22 : (Int32.ofInt 1) = z43x3x22 := (sF_get).trans e43x3x22.symm
                      subst q43x3x22
                      refine g_if_le 28 32 (gd rfl) rfl rfl (fun c43x3x25 => ?_) (fun c43x3x25 => ?_)
                      · skip
                        exact zn_le c43x3x25 (in_c 1 rfl) rfl
                      · skip
                        refine g_iconst 1 29 (gd rfl) rfl rfl ?_
                        refine g_goto 33 (gd rfl) rfl ?_
                        refine g_ireturn (gd rfl) rfl (nb01 (in_w 0 1 (in_c 1 rfl) rfl)) (hp43x3 _ _ ?_)
                        show GG _ _ _ _ _ _ _ _ [.int (Int32.ofInt 1)] _ _ _
                        refine g_ireturn (gd rfl) rfl (nb01 (in_w 0 1 (in_c 1 rfl) rfl)) (hp43 _ _ ?_)
                        show GG _ _ _ _ _ _ _ _ [.int (Int32.ofInt 1)] _ _ _
                        refine g_if_eq 49 51 (gd rfl) rfl rfl (fun c46 => ?_) (fun c46 => ?_)
                        · skip
                          exact zn_eq c46 (in_c 1 rfl) rfl
                        · skip
                          refine g_iconst 0 50 (gd rfl) rfl rfl ?_
                          exact g_ireturn (gd rfl) rfl rfl (hP _ _ ⟨(sF s 109 0 (Int32.ofInt 1)), hI43x3x18, (fr_sF rfl fr_rf), (Int32.ofInt 0), rfl, rfl, in_w (-2147483648) 2147483647 (in_c 0 rfl) rfl⟩)
                  · skip
                    exact zn_ne c26 (in_c 0 rfl) rfl
                · skip
                  have i23x10 := z_le (-1) 0 c23x10 i23x9 rfl
                  have c23x10a := lc_le e23x9 c23x10
                  have i23x10a := lr_le1 0 2 c23x10a i23x3a (l_c 2 rfl) rfl
                  have i23x10b := l_b e18 i23x10a
                  refine g_iconst 1 14 (gd rfl) rfl rfl ?_
                  refine g_goto 18 (gd rfl) rfl ?_
                  refine g_ireturn (gd rfl) rfl (nb01 (in_w 0 1 (in_c 1 rfl) rfl)) (hp23 _ _ ?_)
                  show GG _ _ _ _ _ _ _ _ [.int (Int32.ofInt 1), .ref (A 109)] _ _ _
                  refine g_if_eq 29 42 (gd rfl) rfl rfl (fun c26 => ?_) (fun c26 => ?_)
                  · skip
                    exact zn_eq c26 (in_c 1 rfl) rfl
                  · skip
                    refine g_aload_n 30 (gd rfl) rfl rfl ?_
                    refine g_iload 32 (gd rfl) rfl rfl ?_
                    refine g_callv (X := _) (As := [.int x4]) (r := [.ref (A 109)]) (b := A 109) (q := 109) 35 (gd rfl) rfl rfl rfl rfl rfl (ww_o rfl) (Nat.le_of_ble_eq_true rfl) (mc := 0) (ms := 0) (Nat.zero_le _) (Nat.zero_le _) (P := fun v u => _) ?_ (fun e u h => h) (fun v u h => h)
                    intro po32 xx32 hp32 hx32
                    refine g_enter2 (k := 272) (N := 300) (by first | exact dq1 hd rfl | exact dq0 hd rfl | exact dq2 hd rfl | exact dq3 hd rfl | omega) rfl (Nat.le_of_ble_eq_true rfl) ?_
                    refine g_iload_n 1 (gd rfl) rfl rfl ?_
                    refine g_if_lt 4 16 (gd rfl) rfl rfl (fun c32x1 => ?_) (fun c32x1 => ?_)
                    · skip
                      have i32x1 := z_lt (-2147483648) (-1) c32x1 (i_rng x4) rfl
                      refine g_iconst 0 17 (gd rfl) rfl rfl ?_
                      refine g_ireturn (gd rfl) rfl (nb01 (in_w 0 1 (in_c 0 rfl) rfl)) (hp32 _ _ ?_)
                      show GG _ _ _ _ _ _ _ _ [.int (Int32.ofInt 0), .ref (A 109)] _ _ _
                      refine g_if_eq 38 42 (gd rfl) rfl rfl (fun c35 => ?_) (fun c35 => ?_)
                      · skip
                        refine g_iconst 0 43 (gd rfl) rfl rfl ?_
                        refine g_callv (X := _) (As := [.int (Int32.ofInt 0)]) (r := []) (b := A 109) (q := 109) 46 (gd rfl) rfl rfl rfl rfl rfl (ww_o rfl) (Nat.le_of_ble_eq_true rfl) (mc := 0) (ms := 0) (Nat.zero_le _) (Nat.zero_le _) (P := fun v u => _) ?_ (fun e u h => h) (fun v u h => h)
                        intro po43 xx43 hp43 hx43
                        refine g_enter2 (k := 271) (N := 300) (by first | exact dq1 hd rfl | exact dq0 hd rfl | exact dq2 hd rfl | exact dq3 hd rfl | omega) rfl (Nat.le_of_ble_eq_true rfl) ?_
                        refine g_aload_n 1 (gd rfl) rfl rfl ?_
                        refine g_iload_n 2 (gd rfl) rfl rfl ?_
                        refine g_iconst 1 3 (gd rfl) rfl rfl ?_
                        refine g_callv (X := _) (As := [.int (Int32.ofInt 0), .int (Int32.ofInt 1)]) (r := []) (b := A 109) (q := 109) 6 (gd rfl) rfl rfl rfl rfl rfl (ww_o rfl) (Nat.le_of_ble_eq_true rfl) (mc := 0) (ms := 0) (Nat.zero_le _) (Nat.zero_le _) (P := fun v u => _) ?_ (fun e u h => h) (fun v u h => h)
                        intro po43x3 xx43x3 hp43x3 hx43x3
                        refine g_enter2 (k := 270) (N := 300) (by first | exact dq1 hd rfl | exact dq0 hd rfl | exact dq2 hd rfl | exact dq3 hd rfl | omega) rfl (Nat.le_of_ble_eq_true rfl) ?_
                        refine g_aload_n 1 (gd rfl) rfl rfl ?_
                        refine g_iload_n 2 (gd rfl) rfl rfl ?_
                        refine g_if_ne 5 9 (gd rfl) rfl rfl (fun c43x3x2 => ?_) (fun c43x3x2 => ?_)
                        · skip
                          exact zn_ne c43x3x2 (in_c 0 rfl) rfl
                        · skip
                          refine g_iconst 1 6 (gd rfl) rfl rfl ?_
                          refine g_goto 18 (gd rfl) rfl ?_
                          refine g_putI 21 (gd rfl) rfl rfl rfl rfl ?_
                          have hI43x3x18 := inv_sF (q := 109) (j := 0) hI rfl (in_w 0 2 (in_c 1 rfl) rfl)
                          refine g_aload_n 22 (gd rfl) rfl rfl ?_
                          refine g_getI 25 (gd rfl) rfl rfl rfl (fun z43x3x22 e43x3x22 => ?_)
                          have q43x3x22 : (Int32.ofInt 1) = z43x3x22 := (sF_get).trans e43x3x22.symm
                          subst q43x3x22
                          refine g_if_le 28 32 (gd rfl) rfl rfl (fun c43x3x25 => ?_) (fun c43x3x25 => ?_)
                          · skip
                            exact zn_le c43x3x25 (in_c 1 rfl) rfl
                          · skip
                            refine g_iconst 1 29 (gd rfl) rfl rfl ?_
                            refine g_goto 33 (gd rfl) rfl ?_
                            refine g_ireturn (gd rfl) rfl (nb01 (in_w 0 1 (in_c 1 rfl) rfl)) (hp43x3 _ _ ?_)
                            show GG _ _ _ _ _ _ _ _ [.int (Int32.ofInt 1)] _ _ _
                            refine g_ireturn (gd rfl) rfl (nb01 (in_w 0 1 (in_c 1 rfl) rfl)) (hp43 _ _ ?_)
                            show GG _ _ _ _ _ _ _ _ [.int (Int32.ofInt 1)] _ _ _
                            refine g_if_eq 49 51 (gd rfl) rfl rfl (fun c46 => ?_) (fun c46 => ?_)
                            · skip
                              exact zn_eq c46 (in_c 1 rfl) rfl
                            · skip
                              refine g_iconst 0 50 (gd rfl) rfl rfl ?_
                              exact g_ireturn (gd rfl) rfl rfl (hP _ _ ⟨(sF s 109 0 (Int32.ofInt 1)), hI43x3x18, (fr_sF rfl fr_rf), (Int32.ofInt 0), rfl, rfl, in_w (-2147483648) 2147483647 (in_c 0 rfl) rfl⟩)
                      · skip
                        exact zn_ne c35 (in_c 0 rfl) rfl
                    · skip
                      have i32x1 := z_ge 0 2147483647 c32x1 (i_rng x4) rfl
                      refine g_iload_n 5 (gd rfl) rfl rfl ?_
                      refine g_aload_n 6 (gd rfl) rfl rfl ?_
                      refine g_getI 9 (gd rfl) rfl rfl rfl (fun z32x6 e32x6 => ?_)
                      have q32x6 : u_109_20 = z32x6 := (e_109_20).trans e32x6.symm
                      subst q32x6
                      refine g_cmp_ge 12 16 (gd rfl) rfl rfl (fun c32x9 => ?_) (fun c32x9 => ?_)
                      · skip
                        have i32x9 := r_le2 1 2147483647 c32x9 i3x9a i32x1 rfl
                        refine g_iconst 0 17 (gd rfl) rfl rfl ?_
                        refine g_ireturn (gd rfl) rfl (nb01 (in_w 0 1 (in_c 0 rfl) rfl)) (hp32 _ _ ?_)
                        show GG _ _ _ _ _ _ _ _ [.int (Int32.ofInt 0), .ref (A 109)] _ _ _
                        refine g_if_eq 38 42 (gd rfl) rfl rfl (fun c35 => ?_) (fun c35 => ?_)
                        · skip
                          refine g_iconst 0 43 (gd rfl) rfl rfl ?_
                          refine g_callv (X := _) (As := [.int (Int32.ofInt 0)]) (r := []) (b := A 109) (q := 109) 46 (gd rfl) rfl rfl rfl rfl rfl (ww_o rfl) (Nat.le_of_ble_eq_true rfl) (mc := 0) (ms := 0) (Nat.zero_le _) (Nat.zero_le _) (P := fun v u => _) ?_ (fun e u h => h) (fun v u h => h)
                          intro po43 xx43 hp43 hx43
                          refine g_enter2 (k := 271) (N := 300) (by first | exact dq1 hd rfl | exact dq0 hd rfl | exact dq2 hd rfl | exact dq3 hd rfl | omega) rfl (Nat.le_of_ble_eq_true rfl) ?_
                          refine g_aload_n 1 (gd rfl) rfl rfl ?_
                          refine g_iload_n 2 (gd rfl) rfl rfl ?_
                          refine g_iconst 1 3 (gd rfl) rfl rfl ?_
                          refine g_callv (X := _) (As := [.int (Int32.ofInt 0), .int (Int32.ofInt 1)]) (r := []) (b := A 109) (q := 109) 6 (gd rfl) rfl rfl rfl rfl rfl (ww_o rfl) (Nat.le_of_ble_eq_true rfl) (mc := 0) (ms := 0) (Nat.zero_le _) (Nat.zero_le _) (P := fun v u => _) ?_ (fun e u h => h) (fun v u h => h)
                          intro po43x3 xx43x3 hp43x3 hx43x3
                          refine g_enter2 (k := 270) (N := 300) (by first | exact dq1 hd rfl | exact dq0 hd rfl | exact dq2 hd rfl | exact dq3 hd rfl | omega) rfl (Nat.le_of_ble_eq_true rfl) ?_
                          refine g_aload_n 1 (gd rfl) rfl rfl ?_
                          refine g_iload_n 2 (gd rfl) rfl rfl ?_
                          refine g_if_ne 5 9 (gd rfl) rfl rfl (fun c43x3x2 => ?_) (fun c43x3x2 => ?_)
                          · skip
                            exact zn_ne c43x3x2 (in_c 0 rfl) rfl
                          · skip
                            refine g_iconst 1 6 (gd rfl) rfl rfl ?_
                            refine g_goto 18 (gd rfl) rfl ?_
                            refine g_putI 21 (gd rfl) rfl rfl rfl rfl ?_
                            have hI43x3x18 := inv_sF (q := 109) (j := 0) hI rfl (in_w 0 2 (in_c 1 rfl) rfl)
                            refine g_aload_n 22 (gd rfl) rfl rfl ?_
                            refine g_getI 25 (gd rfl) rfl rfl rfl (fun z43x3x22 e43x3x22 => ?_)
                            have q43x3x22 : (Int32.ofInt 1) = z43x3x22 := (sF_get).trans e43x3x22.symm
                            subst q43x3x22
                            refine g_if_le 28 32 (gd rfl) rfl rfl (fun c43x3x25 => ?_) (fun c43x3x25 => ?_)
                            · skip
                              exact zn_le c43x3x25 (in_c 1 rfl) rfl
                            · skip
                              refine g_iconst 1 29 (gd rfl) rfl rfl ?_
                              refine g_goto 33 (gd rfl) rfl ?_
                              refine g_ireturn (gd rfl) rfl (nb01 (in_w 0 1 (in_c 1 rfl) rfl)) (hp43x3 _ _ ?_)
                              show GG _ _ _ _ _ _ _ _ [.int (Int32.ofInt 1)] _ _ _
                              refine g_ireturn (gd rfl) rfl (nb01 (in_w 0 1 (in_c 1 rfl) rfl)) (hp43 _ _ ?_)
                              show GG _ _ _ _ _ _ _ _ [.int (Int32.ofInt 1)] _ _ _
                              refine g_if_eq 49 51 (gd rfl) rfl rfl (fun c46 => ?_) (fun c46 => ?_)
                              · skip
                                exact zn_eq c46 (in_c 1 rfl) rfl
                              · skip
                                refine g_iconst 0 50 (gd rfl) rfl rfl ?_
                                exact g_ireturn (gd rfl) rfl rfl (hP _ _ ⟨(sF s 109 0 (Int32.ofInt 1)), hI43x3x18, (fr_sF rfl fr_rf), (Int32.ofInt 0), rfl, rfl, in_w (-2147483648) 2147483647 (in_c 0 rfl) rfl⟩)
                        · skip
                          exact zn_ne c35 (in_c 0 rfl) rfl
                      · skip
                        have i32x9 := r_lt1 0 31 c32x9 i32x1 i3x9a rfl
                        refine g_iconst 1 13 (gd rfl) rfl rfl ?_
                        refine g_goto 17 (gd rfl) rfl ?_
                        refine g_ireturn (gd rfl) rfl (nb01 (in_w 0 1 (in_c 1 rfl) rfl)) (hp32 _ _ ?_)
                        show GG _ _ _ _ _ _ _ _ [.int (Int32.ofInt 1), .ref (A 109)] _ _ _
                        refine g_if_eq 38 42 (gd rfl) rfl rfl (fun c35 => ?_) (fun c35 => ?_)
                        · skip
                          exact zn_eq c35 (in_c 1 rfl) rfl
                        · skip
                          refine g_iconst 1 39 (gd rfl) rfl rfl ?_
                          refine g_goto 43 (gd rfl) rfl ?_
                          refine g_callv (X := _) (As := [.int (Int32.ofInt 1)]) (r := []) (b := A 109) (q := 109) 46 (gd rfl) rfl rfl rfl rfl rfl (ww_o rfl) (Nat.le_of_ble_eq_true rfl) (mc := 0) (ms := 0) (Nat.zero_le _) (Nat.zero_le _) (P := fun v u => _) ?_ (fun e u h => h) (fun v u h => h)
                          intro po43 xx43 hp43 hx43
                          refine g_enter2 (k := 271) (N := 300) (by first | exact dq1 hd rfl | exact dq0 hd rfl | exact dq2 hd rfl | exact dq3 hd rfl | omega) rfl (Nat.le_of_ble_eq_true rfl) ?_
                          refine g_aload_n 1 (gd rfl) rfl rfl ?_
                          refine g_iload_n 2 (gd rfl) rfl rfl ?_
                          refine g_iconst 1 3 (gd rfl) rfl rfl ?_
                          refine g_callv (X := _) (As := [.int (Int32.ofInt 1), .int (Int32.ofInt 1)]) (r := []) (b := A 109) (q := 109) 6 (gd rfl) rfl rfl rfl rfl rfl (ww_o rfl) (Nat.le_of_ble_eq_true rfl) (mc := 0) (ms := 0) (Nat.zero_le _) (Nat.zero_le _) (P := fun v u => _) ?_ (fun e u h => h) (fun v u h => h)
                          intro po43x3 xx43x3 hp43x3 hx43x3
                          refine g_enter2 (k := 270) (N := 300) (by first | exact dq1 hd rfl | exact dq0 hd rfl | exact dq2 hd rfl | exact dq3 hd rfl | omega) rfl (Nat.le_of_ble_eq_true rfl) ?_
                          refine g_aload_n 1 (gd rfl) rfl rfl ?_
                          refine g_iload_n 2 (gd rfl) rfl rfl ?_
                          refine g_if_ne 5 9 (gd rfl) rfl rfl (fun c43x3x2 => ?_) (fun c43x3x2 => ?_)
                          · skip
                            refine g_iload_n 10 (gd rfl) rfl rfl ?_
                            refine g_if_ne 13 17 (gd rfl) rfl rfl (fun c43x3x10 => ?_) (fun c43x3x10 => ?_)
                            · skip
                              refine g_iconst 0 18 (gd rfl) rfl rfl ?_
                              refine g_putI 21 (gd rfl) rfl rfl rfl rfl ?_
                              have hI43x3x18 := inv_sF (q := 109) (j := 0) hI rfl (in_w 0 2 (in_c 0 rfl) rfl)
                              refine g_aload_n 22 (gd rfl) rfl rfl ?_
                              refine g_getI 25 (gd rfl) rfl rfl rfl (fun z43x3x22 e43x3x22 => ?_)
                              have q43x3x22 : (Int32.ofInt 0) = z43x3x22 := (sF_get).trans e43x3x22.symm
                              subst q43x3x22
                              refine g_if_le 28 32 (gd rfl) rfl rfl (fun c43x3x25 => ?_) (fun c43x3x25 => ?_)
                              · skip
                                refine g_iconst 0 33 (gd rfl) rfl rfl ?_
                                refine g_ireturn (gd rfl) rfl (nb01 (in_w 0 1 (in_c 0 rfl) rfl)) (hp43x3 _ _ ?_)
                                show GG _ _ _ _ _ _ _ _ [.int (Int32.ofInt 0)] _ _ _
                                refine g_ireturn (gd rfl) rfl (nb01 (in_w 0 1 (in_c 0 rfl) rfl)) (hp43 _ _ ?_)
                                show GG _ _ _ _ _ _ _ _ [.int (Int32.ofInt 0)] _ _ _
                                refine g_if_eq 49 51 (gd rfl) rfl rfl (fun c46 => ?_) (fun c46 => ?_)
                                · skip
                                  refine g_aload_n 52 (gd rfl) rfl rfl ?_
                                  refine g_iload_n 53 (gd rfl) rfl rfl ?_
                                  refine g_iconst 0 54 (gd rfl) rfl rfl ?_
                                  refine g_aload_n 55 (gd rfl) rfl rfl ?_
                                  refine g_getA (q2 := 165) 58 (gd rfl) rfl rfl rfl rfl ?_
                                  refine g_aload_n 59 (gd rfl) rfl rfl ?_
                                  refine g_getA (q2 := 166) 62 (gd rfl) rfl rfl rfl rfl ?_
                                  refine g_callv (X := _) (As := [.int x1, .int (Int32.ofInt 0), .ref (A 165), .ref (A 166)]) (r := []) (b := A 109) (q := 109) 65 (gd rfl) rfl rfl rfl rfl rfl (ww_o rfl) (Nat.le_of_ble_eq_true rfl) (Nat.zero_le _) (Nat.zero_le _) (k_370_109_165_166 (by first | exact dq1 hd rfl | exact dq0 hd rfl | exact dq2 hd rfl | exact dq3 hd rfl | omega) hI43x3x18 (in_w 0 31 i3x9 rfl) (in_w 0 0 (in_c 0 rfl) rfl)) (fun e u h => h) (fun v u h => ?_)
                                  obtain ⟨s62, hI62, hF62, rfl, rfl⟩ := h
                                  show GG _ _ _ _ _ _ _ _ [] _ _ _
                                  refine g_aload_n 66 (gd rfl) rfl rfl ?_
                                  refine g_iload_n 67 (gd rfl) rfl rfl ?_
                                  refine g_iconst 1 68 (gd rfl) rfl rfl ?_
                                  refine g_aload_n 69 (gd rfl) rfl rfl ?_
                                  refine g_getA (q2 := 167) 72 (gd rfl) rfl rfl rfl rfl ?_
                                  refine g_aload_n 73 (gd rfl) rfl rfl ?_
                                  refine g_getA (q2 := 168) 76 (gd rfl) rfl rfl rfl rfl ?_
                                  refine g_callv (X := _) (As := [.int x2, .int (Int32.ofInt 1), .ref (A 167), .ref (A 168)]) (r := []) (b := A 109) (q := 109) 79 (gd rfl) rfl rfl rfl rfl rfl (ww_o rfl) (Nat.le_of_ble_eq_true rfl) (Nat.zero_le _) (Nat.zero_le _) (k_370_109_167_168 (by first | exact dq1 hd rfl | exact dq0 hd rfl | exact dq2 hd rfl | exact dq3 hd rfl | omega) hI62 (in_w 0 31 i11x9 rfl) (in_w 1 1 (in_c 1 rfl) rfl)) (fun e u h => h) (fun v u h => ?_)
                                  obtain ⟨s76, hI76, hF76, rfl, rfl⟩ := h
                                  show GG _ _ _ _ _ _ _ _ [] _ _ _
                                  refine g_iload_n 80 (gd rfl) rfl rfl ?_
                                  refine g_if_ne 83 90 (gd rfl) rfl rfl (fun c80 => ?_) (fun c80 => ?_)
                                  · skip
                                    have i80 := z_ne 1 2 c80 i23x10b rfl
                                    refine g_iload_n 91 (gd rfl) rfl rfl ?_
                                    refine g_iconst 1 92 (gd rfl) rfl rfl ?_
                                    refine g_cmp_ne 95 103 (gd rfl) rfl rfl (fun c92 => ?_) (fun c92 => ?_)
                                    · skip
                                      have i92 := r_ne1 2 2 c92 i80 (in_c 1 rfl) rfl
                                      refine g_aload_n 104 (gd rfl) rfl rfl ?_
                                      refine g_getA (q2 := 165) 107 (gd rfl) rfl rfl rfl rfl ?_
                                      refine g_iload 109 (gd rfl) rfl rfl ?_
                                      refine g_iaload 110 (gd rfl) rfl (n := 32) rfl (in_ix i32x9 rfl) (fun z109 e109 => ?_)
                                      refine g_if_lt 113 151 (gd rfl) rfl rfl (fun c110 => ?_) (fun c110 => ?_)
                                      · skip
                                        have i110 := z_lt (-2147483648) (-1) c110 (i_rng z109) rfl
                                        exact gg_w (by first | exact Nat.le_of_ble_eq_true rfl | omega) (gg_f (gf_cons rfl (gf_cons rfl (gf_cons rfl (gf_cons rfl (gf_cons rfl gf_nil))))) (ct151 s76  hI76 (fr_tr rfl (fr_tr rfl (fr_sF rfl fr_rf) hF62) hF76) (in_w 0 31 i3x9 rfl) (in_w 0 31 i11x9 rfl) (in_w 2 2 i92 rfl) (in_w 0 31 i32x9 rfl) c80))
                                      · skip
                                        have i110 := z_ge 0 2147483647 c110 (i_rng z109) rfl
                                        refine g_aload_n 114 (gd rfl) rfl rfl ?_
                                        refine g_getA (q2 := 167) 117 (gd rfl) rfl rfl rfl rfl ?_
                                        refine g_iload 119 (gd rfl) rfl rfl ?_
                                        refine g_iaload 120 (gd rfl) rfl (n := 32) rfl (in_ix i32x9 rfl) (fun z119 e119 => ?_)
                                        refine g_if_lt 123 151 (gd rfl) rfl rfl (fun c120 => ?_) (fun c120 => ?_)
                                        · skip
                                          have i120 := z_lt (-2147483648) (-1) c120 (i_rng z119) rfl
                                          exact gg_w (by first | exact Nat.le_of_ble_eq_true rfl | omega) (gg_f (gf_cons rfl (gf_cons rfl (gf_cons rfl (gf_cons rfl (gf_cons rfl gf_nil))))) (ct151 s76  hI76 (fr_tr rfl (fr_tr rfl (fr_sF rfl fr_rf) hF62) hF76) (in_w 0 31 i3x9 rfl) (in_w 0 31 i11x9 rfl) (in_w 2 2 i92 rfl) (in_w 0 31 i32x9 rfl) c80))
                                        · skip
                                          have i120 := z_ge 0 2147483647 c120 (i_rng z119) rfl
                                          refine g_aload_n 124 (gd rfl) rfl rfl ?_
                                          refine g_getA (q2 := 165) 127 (gd rfl) rfl rfl rfl rfl ?_
                                          refine g_iload 129 (gd rfl) rfl rfl ?_
                                          refine g_iaload 130 (gd rfl) rfl (n := 32) rfl (in_ix i32x9 rfl) (fun z129 e129 => ?_)
                                          have q129 : z109 = z129 := (e109).trans e129.symm
                                          subst q129
                                          refine g_aload_n 131 (gd rfl) rfl rfl ?_
                                          refine g_getA (q2 := 167) 134 (gd rfl) rfl rfl rfl rfl ?_
                                          refine g_iload 136 (gd rfl) rfl rfl ?_
                                          refine g_iaload 137 (gd rfl) rfl (n := 32) rfl (in_ix i32x9 rfl) (fun z136 e136 => ?_)
                                          have q136 : z119 = z136 := (e119).trans e136.symm
                                          subst q136
                                          refine g_iadd 138 (gd rfl) rfl (fun z137 e137 => ?_)
                                          refine g_aload_n 139 (gd rfl) rfl rfl ?_
                                          refine g_getA (q2 := 165) 142 (gd rfl) rfl rfl rfl rfl ?_
                                          refine g_iload_n 143 (gd rfl) rfl rfl ?_
                                          refine g_iaload 144 (gd rfl) rfl (n := 32) rfl (in_ix i11x9 rfl) (fun z143 e143 => ?_)
                                          refine g_cmp_ne 147 151 (gd rfl) rfl rfl (fun c144 => ?_) (fun c144 => ?_)
                                          · skip
                                            exact gg_w (by first | exact Nat.le_of_ble_eq_true rfl | omega) (gg_f (gf_cons rfl (gf_cons rfl (gf_cons rfl (gf_cons rfl (gf_cons rfl gf_nil))))) (ct151 s76  hI76 (fr_tr rfl (fr_tr rfl (fr_sF rfl fr_rf) hF62) hF76) (in_w 0 31 i3x9 rfl) (in_w 0 31 i11x9 rfl) (in_w 2 2 i92 rfl) (in_w 0 31 i32x9 rfl) c80))
                                          · skip
                                            refine g_iconst 1 148 (gd rfl) rfl rfl ?_
                                            refine g_goto 152 (gd rfl) rfl ?_
                                            refine g_istore 154 (gd rfl) rfl (Nat.le_of_ble_eq_true rfl) ?_
                                            refine g_iload 156 (gd rfl) rfl rfl ?_
                                            refine g_if_eq 159 182 (gd rfl) rfl rfl (fun c156 => ?_) (fun c156 => ?_)
                                            · skip
                                              exact zn_eq c156 (in_c 1 rfl) rfl
                                            · skip
                                              refine g_aload_n 160 (gd rfl) rfl rfl ?_
                                              refine g_getA (q2 := 166) 163 (gd rfl) rfl rfl rfl rfl ?_
                                              refine g_iload 165 (gd rfl) rfl rfl ?_
                                              refine g_laload 166 (gd rfl) rfl (n := 32) rfl (in_ix i32x9 rfl) (fun z165 e165 => ?_)
                                              refine g_aload_n 167 (gd rfl) rfl rfl ?_
                                              refine g_getA (q2 := 168) 170 (gd rfl) rfl rfl rfl rfl ?_
                                              refine g_iload 172 (gd rfl) rfl rfl ?_
                                              refine g_laload 173 (gd rfl) rfl (n := 32) rfl (in_ix i32x9 rfl) (fun z172 e172 => ?_)
                                              refine g_lmul 174 (gd rfl) rfl (fun z173 e173 => ?_)
                                              refine g_ldc2_w 1000000007 177 (gd rfl) rfl rfl ?_
                                              refine g_lrem 178 (gd rfl) rfl (by decide) (fun z177 e177 => ?_)
                                              have i177 := l_rem (-1000000006) 1000000006 e177 rfl
                                              refine g_l2i 179 (gd rfl) rfl (fun z178 e178 => ?_)
                                              refine g_goto 183 (gd rfl) rfl ?_
                                              exact g_ireturn (gd rfl) rfl rfl (hP _ _ ⟨s76, hI76, (fr_tr rfl (fr_tr rfl (fr_sF rfl fr_rf) hF62) hF76), z178, rfl, rfl, in_w (-2147483648) 2147483647 (i_rng z178) rfl⟩)
                                    · skip
                                      have i92 := r_eq1 1 1 c92 i80 (in_c 1 rfl) rfl
                                      refine g_aload_n 96 (gd rfl) rfl rfl ?_
                                      refine g_getA (q2 := 166) 99 (gd rfl) rfl rfl rfl rfl ?_
                                      refine g_iload_n 100 (gd rfl) rfl rfl ?_
                                      refine g_laload 101 (gd rfl) rfl (n := 32) rfl (in_ix i11x9 rfl) (fun z100 e100 => ?_)
                                      refine g_l2i 102 (gd rfl) rfl (fun z101 e101 => ?_)
                                      exact g_ireturn (gd rfl) rfl rfl (hP _ _ ⟨s76, hI76, (fr_tr rfl (fr_tr rfl (fr_sF rfl fr_rf) hF62) hF76), z101, rfl, rfl, in_w (-2147483648) 2147483647 (i_rng z101) rfl⟩)
                                  · skip
                                    have i80 := z_eq 0 0 c80 i23x10b rfl
                                    refine g_aload_n 84 (gd rfl) rfl rfl ?_
                                    refine g_getA (q2 := 165) 87 (gd rfl) rfl rfl rfl rfl ?_
                                    refine g_iload_n 88 (gd rfl) rfl rfl ?_
                                    refine g_iaload 89 (gd rfl) rfl (n := 32) rfl (in_ix i11x9 rfl) (fun z88 e88 => ?_)
                                    exact g_ireturn (gd rfl) rfl rfl (hP _ _ ⟨s76, hI76, (fr_tr rfl (fr_tr rfl (fr_sF rfl fr_rf) hF62) hF76), z88, rfl, rfl, in_w (-2147483648) 2147483647 (i_rng z88) rfl⟩)
                                · skip
                                  exact zn_ne c46 (in_c 0 rfl) rfl
                              · skip
                                exact zn_gt c43x3x25 (in_c 0 rfl) rfl
                            · skip
                              exact zn_eq c43x3x10 (in_c 1 rfl) rfl
                          · skip
                            exact zn_eq c43x3x2 (in_c 1 rfl) rfl

def fm_380 : FM := ([138], [], [(109, 0)], [])
/-- GraphHouseModel.figures -/
theorem k_380 {Z : AmZ} {A : Nat → Nat} {s : GS} {ex : va_W} {d : Nat} {X : AmX} {x1 : Int32} (hd : 4 ≤ d) (hI : Inv s)  : GC Z d 380 [.ref (A 109), .int x1] (WW Z A s ++ ex) 0 0 (fun v u => ∃ t : GS, Inv t ∧ Fr fm_380 s t ∧ ∃ z : Int64, v = some (.long z) ∧ u = WW Z A t ++ ex) X := by
  intro post xp hP hX
  obtain ⟨u_109_20, e_109_20⟩ : ∃ w, w = s.2.2.1 109 20 := ⟨_, rfl⟩
  have ro_109_20 := inv_F hI 0 32 rfl e_109_20
  have ct25 : ∀ (k25 : Nat) (sc25 : GS) (y25_2 : Int64) (y25_4 : Int32), Inv sc25 → Fr fm_380 s sc25 → (In x1 0 1) → (In y25_4 0 32) → 32 - (y25_4).toInt < (k25 : Int) → GG Z (d - 1) 380 post (gx xp) (1 + k25 * 31501) 25 (fun j => xlook j [(0, .ref (A 109)), (1, .int x1), (2, .long y25_2), (4, .int y25_4)]) [] (WW Z A sc25 ++ ex) 0 0 := by
    intro k25
    induction k25 with
    | zero => intro sc25 y25_2 y25_4 hIc25 hFc25 j25_1 j25_4 mm25; exact m_no mm25 j25_4 rfl
    | succ k25 ih25 =>
      intro sc25 y25_2 y25_4 hIc25 hFc25 j25_1 j25_4 mm25
      refine gg_w (M := 1 + k25 * 31501 + 31501) gws ?_
      have ct40 : ∀ (k40 : Nat) (sc40 : GS) (y40_2 : Int64) (y40_5 : Int32), Inv sc40 → Fr fm_380 s sc40 → (In y25_4 0 31) → (In y40_5 1 32) → 32 - (y40_5).toInt < (k40 : Int) → GG Z (d - 1) 380 post (gx xp) (1 + k25 * 31501 + 1 + k40 * 900) 40 (fun j => xlook j [(0, .ref (A 109)), (1, .int x1), (2, .long y40_2), (4, .int y25_4), (5, .int y40_5)]) [] (WW Z A sc40 ++ ex) 0 0 := by
        intro k40
        induction k40 with
        | zero => intro sc40 y40_2 y40_5 hIc40 hFc40 j40_4 j40_5 mm40; exact m_no mm40 j40_5 rfl
        | succ k40 ih40 =>
          intro sc40 y40_2 y40_5 hIc40 hFc40 j40_4 j40_5 mm40
          refine gg_w (M := 1 + k25 * 31501 + 1 + k40 * 900 + 900) gws ?_
          refine g_iload 42 (gd rfl) rfl rfl ?_
          refine g_aload_n 43 (gd rfl) rfl rfl ?_
          refine g_getI 46 (gd rfl) rfl rfl rfl (fun z43 e43 => ?_)
          have q43 : u_109_20 = z43 := (fr_F e_109_20 hFc40 rfl).trans e43.symm
          subst q43
          refine g_cmp_ge 49 119 (gd rfl) rfl rfl (fun c46 => ?_) (fun c46 => ?_)
          · skip
            refine g_iinc 122 (gd rfl) rfl rfl (Nat.le_of_ble_eq_true rfl) (fun z119 e119 => ?_)
            have i119 := in_add 1 32 e119 j40_4 (in_c 1 rfl) rfl rfl
            refine g_goto 25 (gd rfl) rfl ?_
            exact gg_w (by first | exact Nat.le_add_right _ _ | exact gw2 | exact gw3 | exact gwe rfl | exact gwf rfl | exact gwg rfl | exact gwh rfl | omega) (gg_f (gf_cons rfl (gf_cons rfl (gf_cons rfl (gf_cons rfl gf_nil)))) (ih25 sc40 y40_2 z119 hIc40 hFc40 (in_w 0 1 j25_1 rfl) (in_w 0 32 i119 rfl) (m_up mm25 (t_add e119 j40_4 (in_c 1 rfl) rfl) (in_w 1 1 (in_c 1 rfl) rfl))))
          · skip
            have i46 := r_lt1 1 31 c46 j40_5 ro_109_20 rfl
            have i46a := r_lt2 2 32 c46 j40_5 ro_109_20 rfl
            refine g_aload_n 50 (gd rfl) rfl rfl ?_
            refine g_getA (q2 := 138) 53 (gd rfl) rfl rfl rfl rfl ?_
            refine g_iload 55 (gd rfl) rfl rfl ?_
            refine g_iaload 56 (gd rfl) rfl (n := 32) rfl (in_ix j40_4 rfl) (fun z55 e55 => ?_)
            refine g_aload_n 57 (gd rfl) rfl rfl ?_
            refine g_getA (q2 := 138) 60 (gd rfl) rfl rfl rfl rfl ?_
            refine g_iload 62 (gd rfl) rfl rfl ?_
            refine g_iaload 63 (gd rfl) rfl (n := 32) rfl (in_ix i46 rfl) (fun z62 e62 => ?_)
            refine g_iand 64 (gd rfl) rfl (fun z63 e63 => ?_)
            refine g_calls (As := [.int z63]) (r := []) 67 (gd rfl) rfl rfl rfl rfl rfl (Nat.le_of_ble_eq_true rfl) (Nat.zero_le _) (Nat.zero_le _) (k_336 (by first | exact dq1 hd rfl | exact dq0 hd rfl | exact dq2 hd rfl | exact dq3 hd rfl | omega) hIc40 ) (fun v u h => ?_)
            obtain ⟨z64, rfl, rfl, i64, p64⟩ := h
            show GG _ _ _ _ _ _ _ _ [.int z64] _ _ _
            refine g_i2l 68 (gd rfl) rfl (fun z67 e67 => ?_)
            have i67 := l_i e67 i64
            refine g_lstore 70 (gd rfl) rfl (Nat.le_of_ble_eq_true rfl) ?_
            refine g_lload_n 71 (gd rfl) rfl rfl ?_
            refine g_iload_n 72 (gd rfl) rfl rfl ?_
            refine g_iconst 1 73 (gd rfl) rfl rfl ?_
            refine g_cmp_ne 76 90 (gd rfl) rfl rfl (fun c73 => ?_) (fun c73 => ?_)
            · skip
              have i73 := r_ne1 0 0 c73 j25_1 (in_c 1 rfl) rfl
              refine g_aload_n 91 (gd rfl) rfl rfl ?_
              refine g_getA (q2 := 138) 94 (gd rfl) rfl rfl rfl rfl ?_
              refine g_iload 96 (gd rfl) rfl rfl ?_
              refine g_iaload 97 (gd rfl) rfl (n := 32) rfl (in_ix j40_4 rfl) (fun z96 e96 => ?_)
              have q96 : z55 = z96 := (e55).trans e96.symm
              subst q96
              refine g_iload 99 (gd rfl) rfl rfl ?_
              refine g_calls (As := [.int z55, .int y40_5]) (r := [.long y40_2]) 102 (gd rfl) rfl rfl rfl rfl rfl (Nat.le_of_ble_eq_true rfl) (mc := 0) (ms := 0) (Nat.zero_le _) (Nat.zero_le _) (P := fun v u => _) ?_ (fun v u h => h)
              intro po99 xx99 hp99 hx99
              refine g_enter2 (k := 311) (N := 300) (by first | exact dq1 hd rfl | exact dq0 hd rfl | exact dq2 hd rfl | exact dq3 hd rfl | omega) rfl (Nat.le_of_ble_eq_true rfl) ?_
              refine g_iload_n 1 (gd rfl) rfl rfl ?_
              refine g_iload_n 2 (gd rfl) rfl rfl ?_
              refine g_ishr 3 (gd rfl) rfl (fun z99x2 e99x2 => ?_)
              refine g_iconst 1 4 (gd rfl) rfl rfl ?_
              refine g_iand 5 (gd rfl) rfl (fun z99x4 e99x4 => ?_)
              have i99x4 := in_and2 e99x4 (in_c 1 rfl) rfl
              refine g_iconst 1 6 (gd rfl) rfl rfl ?_
              refine g_cmp_ne 9 13 (gd rfl) rfl rfl (fun c99x6 => ?_) (fun c99x6 => ?_)
              · skip
                have i99x6 := r_ne1 0 0 c99x6 i99x4 (in_c 1 rfl) rfl
                refine g_iconst 0 14 (gd rfl) rfl rfl ?_
                refine g_ireturn (gd rfl) rfl (nb01 (in_w 0 1 (in_c 0 rfl) rfl)) (hp99 _ _ ?_)
                show GG _ _ _ _ _ _ _ _ [.int (Int32.ofInt 0), .long y40_2] _ _ _
                refine g_if_eq 105 110 (gd rfl) rfl rfl (fun c102 => ?_) (fun c102 => ?_)
                · skip
                  refine g_lconst 0 111 (gd rfl) rfl rfl ?_
                  refine g_ladd 112 (gd rfl) rfl (fun z111 e111 => ?_)
                  refine g_lstore_n 113 (gd rfl) rfl (Nat.le_of_ble_eq_true rfl) ?_
                  refine g_iinc 116 (gd rfl) rfl rfl (Nat.le_of_ble_eq_true rfl) (fun z113 e113 => ?_)
                  have i113 := in_add 2 32 e113 i46 (in_c 1 rfl) rfl rfl
                  refine g_goto 40 (gd rfl) rfl ?_
                  exact gg_w (by first | exact Nat.le_add_right _ _ | exact gw2 | exact gw3 | exact gwe rfl | exact gwf rfl | exact gwg rfl | exact gwh rfl | omega) (gg_f (gf_cons rfl (gf_cons rfl (gf_cons rfl (gf_cons rfl (gf_cons rfl gf_nil))))) (ih40 sc40 z111 z113 hIc40 hFc40 (in_w 0 31 j40_4 rfl) (in_w 1 32 i113 rfl) (m_up mm40 (t_add e113 i46 (in_c 1 rfl) rfl) (in_w 1 1 (in_c 1 rfl) rfl))))
                · skip
                  exact zn_ne c102 (in_c 0 rfl) rfl
              · skip
                have i99x6 := r_eq1 1 1 c99x6 i99x4 (in_c 1 rfl) rfl
                refine g_iconst 1 10 (gd rfl) rfl rfl ?_
                refine g_goto 14 (gd rfl) rfl ?_
                refine g_ireturn (gd rfl) rfl (nb01 (in_w 0 1 (in_c 1 rfl) rfl)) (hp99 _ _ ?_)
                show GG _ _ _ _ _ _ _ _ [.int (Int32.ofInt 1), .long y40_2] _ _ _
                refine g_if_eq 105 110 (gd rfl) rfl rfl (fun c102 => ?_) (fun c102 => ?_)
                · skip
                  exact zn_eq c102 (in_c 1 rfl) rfl
                · skip
                  refine g_lload 107 (gd rfl) rfl rfl ?_
                  refine g_goto 111 (gd rfl) rfl ?_
                  refine g_ladd 112 (gd rfl) rfl (fun z111 e111 => ?_)
                  refine g_lstore_n 113 (gd rfl) rfl (Nat.le_of_ble_eq_true rfl) ?_
                  refine g_iinc 116 (gd rfl) rfl rfl (Nat.le_of_ble_eq_true rfl) (fun z113 e113 => ?_)
                  have i113 := in_add 2 32 e113 i46 (in_c 1 rfl) rfl rfl
                  refine g_goto 40 (gd rfl) rfl ?_
                  exact gg_w (by first | exact Nat.le_add_right _ _ | exact gw2 | exact gw3 | exact gwe rfl | exact gwf rfl | exact gwg rfl | exact gwh rfl | omega) (gg_f (gf_cons rfl (gf_cons rfl (gf_cons rfl (gf_cons rfl (gf_cons rfl gf_nil))))) (ih40 sc40 z111 z113 hIc40 hFc40 (in_w 0 31 j40_4 rfl) (in_w 1 32 i113 rfl) (m_up mm40 (t_add e113 i46 (in_c 1 rfl) rfl) (in_w 1 1 (in_c 1 rfl) rfl))))
            · skip
              have i73 := r_eq1 1 1 c73 j25_1 (in_c 1 rfl) rfl
              refine g_lload 78 (gd rfl) rfl rfl ?_
              refine g_lload 80 (gd rfl) rfl rfl ?_
              refine g_lconst 1 81 (gd rfl) rfl rfl ?_
              refine g_lsub 82 (gd rfl) rfl (fun z81 e81 => ?_)
              have i81 := l_sub (-1) 31 e81 i67 (l_c 1 rfl) rfl
              refine g_lmul 83 (gd rfl) rfl (fun z82 e82 => ?_)
              refine g_ldc2_w 2 86 (gd rfl) rfl rfl ?_
              refine g_ldiv 87 (gd rfl) rfl (by decide) (fun z86 e86 => ?_)
              refine g_goto 111 (gd rfl) rfl ?_
              refine g_ladd 112 (gd rfl) rfl (fun z111 e111 => ?_)
              refine g_lstore_n 113 (gd rfl) rfl (Nat.le_of_ble_eq_true rfl) ?_
              refine g_iinc 116 (gd rfl) rfl rfl (Nat.le_of_ble_eq_true rfl) (fun z113 e113 => ?_)
              have i113 := in_add 2 32 e113 i46 (in_c 1 rfl) rfl rfl
              refine g_goto 40 (gd rfl) rfl ?_
              exact gg_w (by first | exact Nat.le_add_right _ _ | exact gw2 | exact gw3 | exact gwe rfl | exact gwf rfl | exact gwg rfl | exact gwh rfl | omega) (gg_f (gf_cons rfl (gf_cons rfl (gf_cons rfl (gf_cons rfl (gf_cons rfl gf_nil))))) (ih40 sc40 z111 z113 hIc40 hFc40 (in_w 0 31 j40_4 rfl) (in_w 1 32 i113 rfl) (m_up mm40 (t_add e113 i46 (in_c 1 rfl) rfl) (in_w 1 1 (in_c 1 rfl) rfl))))
      refine g_iload 27 (gd rfl) rfl rfl ?_
      refine g_aload_n 28 (gd rfl) rfl rfl ?_
      refine g_getI 31 (gd rfl) rfl rfl rfl (fun z28 e28 => ?_)
      have q28 : u_109_20 = z28 := (fr_F e_109_20 hFc25 rfl).trans e28.symm
      subst q28
      refine g_cmp_ge 34 125 (gd rfl) rfl rfl (fun c31 => ?_) (fun c31 => ?_)
      · skip
        refine g_iload_n 126 (gd rfl) rfl rfl ?_
        refine g_if_ne 129 137 (gd rfl) rfl rfl (fun c126 => ?_) (fun c126 => ?_)
        · skip
          have i126 := z_ne 1 1 c126 j25_1 rfl
          refine g_lload_n 138 (gd rfl) rfl rfl ?_
          refine g_ldc2_w 2 141 (gd rfl) rfl rfl ?_
          refine g_ldiv 142 (gd rfl) rfl (by decide) (fun z141 e141 => ?_)
          exact g_lreturn (gd rfl) rfl (hP _ _ ⟨sc25, hIc25, hFc25, z141, rfl, rfl⟩)
        · skip
          have i126 := z_eq 0 0 c126 j25_1 rfl
          refine g_lload_n 130 (gd rfl) rfl rfl ?_
          refine g_ldc2_w 3 133 (gd rfl) rfl rfl ?_
          refine g_ldiv 134 (gd rfl) rfl (by decide) (fun z133 e133 => ?_)
          refine g_goto 142 (gd rfl) rfl ?_
          exact g_lreturn (gd rfl) rfl (hP _ _ ⟨sc25, hIc25, hFc25, z133, rfl, rfl⟩)
      · skip
        have i31 := r_lt1 0 31 c31 j25_4 ro_109_20 rfl
        have i31a := r_lt2 1 32 c31 j25_4 ro_109_20 rfl
        refine g_iload 36 (gd rfl) rfl rfl ?_
        refine g_iconst 1 37 (gd rfl) rfl rfl ?_
        refine g_iadd 38 (gd rfl) rfl (fun z37 e37 => ?_)
        have i37 := in_add 1 32 e37 i31 (in_c 1 rfl) rfl rfl
        refine g_istore 40 (gd rfl) rfl (Nat.le_of_ble_eq_true rfl) ?_
        exact gg_w (by first | exact Nat.le_add_right _ _ | exact gw2 | exact gw3 | exact gwe rfl | exact gwf rfl | exact gwg rfl | exact gwh rfl | omega) (gg_f (gf_cons rfl (gf_cons rfl (gf_cons rfl (gf_cons rfl (gf_cons rfl gf_nil))))) (ct40 32 sc25 y25_2 z37 hIc25 hFc25 (in_w 0 31 i31 rfl) (in_w 1 32 i37 rfl) (m_in 32 (in_w 1 32 i37 rfl) rfl)))
  refine g_enter2 (k := 380) (N := 1040434) (by first | exact dq1 hd rfl | exact dq0 hd rfl | exact dq2 hd rfl | exact dq3 hd rfl | omega) rfl (Nat.le_of_ble_eq_true rfl) ?_
  refine g_aload_n 1 (gd rfl) rfl rfl ?_
  refine g_iload_n 2 (gd rfl) rfl rfl ?_
  refine g_i2l 3 (gd rfl) rfl (fun z2 e2 => ?_)
  have i2 := l_i e2 (i_rng x1)
  refine g_lconst 0 4 (gd rfl) rfl rfl ?_
  refine g_lconst 1 5 (gd rfl) rfl rfl ?_
  refine g_calls (As := [.long z2, .long (Int64.ofInt 0), .long (Int64.ofInt 1)]) (r := [.ref (A 109)]) 8 (gd rfl) rfl rfl rfl rfl rfl (Nat.le_of_ble_eq_true rfl) (mc := 0) (ms := 0) (Nat.zero_le _) (Nat.zero_le _) (P := fun v u => _) ?_ (fun v u h => h)
  intro po5 xx5 hp5 hx5
  refine g_enter2 (k := 269) (N := 300) (by first | exact dq1 hd rfl | exact dq0 hd rfl | exact dq2 hd rfl | exact dq3 hd rfl | omega) rfl (Nat.le_of_ble_eq_true rfl) ?_
  refine g_lload_n 1 (gd rfl) rfl rfl ?_
  refine g_lload_n 2 (gd rfl) rfl rfl ?_
  refine g_lcmp 3 (gd rfl) rfl (fun z5x2 e5x2 => ?_)
  have i5x2 := lc_in e5x2
  refine g_if_lt 6 17 (gd rfl) rfl rfl (fun c5x3 => ?_) (fun c5x3 => ?_)
  · skip
    have i5x3 := z_lt (-1) (-1) c5x3 i5x2 rfl
    have c5x3a := lc_lt e5x2 c5x3
    have i5x3a := lr_lt1 (-2147483648) (-1) c5x3a i2 (l_c 0 rfl) rfl
    have i5x3b := l_b e2 i5x3a
    refine g_iconst 0 18 (gd rfl) rfl rfl ?_
    refine g_ireturn (gd rfl) rfl (nb01 (in_w 0 1 (in_c 0 rfl) rfl)) (hp5 _ _ ?_)
    show GG _ _ _ _ _ _ _ _ [.int (Int32.ofInt 0), .ref (A 109)] _ _ _
    refine g_callv (X := _) (As := [.int (Int32.ofInt 0)]) (r := []) (b := A 109) (q := 109) 11 (gd rfl) rfl rfl rfl rfl rfl (ww_o rfl) (Nat.le_of_ble_eq_true rfl) (mc := 0) (ms := 0) (Nat.zero_le _) (Nat.zero_le _) (P := fun v u => _) ?_ (fun e u h => h) (fun v u h => h)
    intro po8 xx8 hp8 hx8
    refine g_enter2 (k := 271) (N := 300) (by first | exact dq1 hd rfl | exact dq0 hd rfl | exact dq2 hd rfl | exact dq3 hd rfl | omega) rfl (Nat.le_of_ble_eq_true rfl) ?_
    refine g_aload_n 1 (gd rfl) rfl rfl ?_
    refine g_iload_n 2 (gd rfl) rfl rfl ?_
    refine g_iconst 1 3 (gd rfl) rfl rfl ?_
    refine g_callv (X := _) (As := [.int (Int32.ofInt 0), .int (Int32.ofInt 1)]) (r := []) (b := A 109) (q := 109) 6 (gd rfl) rfl rfl rfl rfl rfl (ww_o rfl) (Nat.le_of_ble_eq_true rfl) (mc := 0) (ms := 0) (Nat.zero_le _) (Nat.zero_le _) (P := fun v u => _) ?_ (fun e u h => h) (fun v u h => h)
    intro po8x3 xx8x3 hp8x3 hx8x3
    refine g_enter2 (k := 270) (N := 300) (by first | exact dq1 hd rfl | exact dq0 hd rfl | exact dq2 hd rfl | exact dq3 hd rfl | omega) rfl (Nat.le_of_ble_eq_true rfl) ?_
    refine g_aload_n 1 (gd rfl) rfl rfl ?_
    refine g_iload_n 2 (gd rfl) rfl rfl ?_
    refine g_if_ne 5 9 (gd rfl) rfl rfl (fun c8x3x2 => ?_) (fun c8x3x2 => ?_)
    · skip
      exact zn_ne c8x3x2 (in_c 0 rfl) rfl
    · skip
      refine g_iconst 1 6 (gd rfl) rfl rfl ?_
      refine g_goto 18 (gd rfl) rfl ?_
      refine g_putI 21 (gd rfl) rfl rfl rfl rfl ?_
      have hI8x3x18 := inv_sF (q := 109) (j := 0) hI rfl (in_w 0 2 (in_c 1 rfl) rfl)
      refine g_aload_n 22 (gd rfl) rfl rfl ?_
      refine g_getI 25 (gd rfl) rfl rfl rfl (fun z8x3x22 e8x3x22 => ?_)
      have q8x3x22 : (Int32.ofInt 1) = z8x3x22 := (sF_get).trans e8x3x22.symm
      subst q8x3x22
      refine g_if_le 28 32 (gd rfl) rfl rfl (fun c8x3x25 => ?_) (fun c8x3x25 => ?_)
      · skip
        exact zn_le c8x3x25 (in_c 1 rfl) rfl
      · skip
        refine g_iconst 1 29 (gd rfl) rfl rfl ?_
        refine g_goto 33 (gd rfl) rfl ?_
        refine g_ireturn (gd rfl) rfl (nb01 (in_w 0 1 (in_c 1 rfl) rfl)) (hp8x3 _ _ ?_)
        show GG _ _ _ _ _ _ _ _ [.int (Int32.ofInt 1)] _ _ _
        refine g_ireturn (gd rfl) rfl (nb01 (in_w 0 1 (in_c 1 rfl) rfl)) (hp8 _ _ ?_)
        show GG _ _ _ _ _ _ _ _ [.int (Int32.ofInt 1)] _ _ _
        refine g_if_eq 14 16 (gd rfl) rfl rfl (fun c11 => ?_) (fun c11 => ?_)
        · skip
          exact zn_eq c11 (in_c 1 rfl) rfl
        · skip
          refine g_lconst 0 15 (gd rfl) rfl rfl ?_
          exact g_lreturn (gd rfl) rfl (hP _ _ ⟨(sF s 109 0 (Int32.ofInt 1)), hI8x3x18, (fr_sF rfl fr_rf), (Int64.ofInt 0), rfl, rfl⟩)
  · skip
    have i5x3 := z_ge 0 1 c5x3 i5x2 rfl
    have c5x3a := lc_ge e5x2 c5x3
    have i5x3a := lr_le2 0 2147483647 c5x3a (l_c 0 rfl) i2 rfl
    have i5x3b := l_b e2 i5x3a
    refine g_lload_n 7 (gd rfl) rfl rfl ?_
    refine g_lload 9 (gd rfl) rfl rfl ?_
    refine g_lcmp 10 (gd rfl) rfl (fun z5x9 e5x9 => ?_)
    have i5x9 := lc_in e5x9
    refine g_if_gt 13 17 (gd rfl) rfl rfl (fun c5x10 => ?_) (fun c5x10 => ?_)
    · skip
      have i5x10 := z_gt 1 1 c5x10 i5x9 rfl
      have c5x10a := lc_gt e5x9 c5x10
      have i5x10a := lr_lt2 2 2147483647 c5x10a (l_c 1 rfl) i5x3a rfl
      have i5x10b := l_b e2 i5x10a
      refine g_iconst 0 18 (gd rfl) rfl rfl ?_
      refine g_ireturn (gd rfl) rfl (nb01 (in_w 0 1 (in_c 0 rfl) rfl)) (hp5 _ _ ?_)
      show GG _ _ _ _ _ _ _ _ [.int (Int32.ofInt 0), .ref (A 109)] _ _ _
      refine g_callv (X := _) (As := [.int (Int32.ofInt 0)]) (r := []) (b := A 109) (q := 109) 11 (gd rfl) rfl rfl rfl rfl rfl (ww_o rfl) (Nat.le_of_ble_eq_true rfl) (mc := 0) (ms := 0) (Nat.zero_le _) (Nat.zero_le _) (P := fun v u => _) ?_ (fun e u h => h) (fun v u h => h)
      intro po8 xx8 hp8 hx8
      refine g_enter2 (k := 271) (N := 300) (by first | exact dq1 hd rfl | exact dq0 hd rfl | exact dq2 hd rfl | exact dq3 hd rfl | omega) rfl (Nat.le_of_ble_eq_true rfl) ?_
      refine g_aload_n 1 (gd rfl) rfl rfl ?_
      refine g_iload_n 2 (gd rfl) rfl rfl ?_
      refine g_iconst 1 3 (gd rfl) rfl rfl ?_
      refine g_callv (X := _) (As := [.int (Int32.ofInt 0), .int (Int32.ofInt 1)]) (r := []) (b := A 109) (q := 109) 6 (gd rfl) rfl rfl rfl rfl rfl (ww_o rfl) (Nat.le_of_ble_eq_true rfl) (mc := 0) (ms := 0) (Nat.zero_le _) (Nat.zero_le _) (P := fun v u => _) ?_ (fun e u h => h) (fun v u h => h)
      intro po8x3 xx8x3 hp8x3 hx8x3
      refine g_enter2 (k := 270) (N := 300) (by first | exact dq1 hd rfl | exact dq0 hd rfl | exact dq2 hd rfl | exact dq3 hd rfl | omega) rfl (Nat.le_of_ble_eq_true rfl) ?_
      refine g_aload_n 1 (gd rfl) rfl rfl ?_
      refine g_iload_n 2 (gd rfl) rfl rfl ?_
      refine g_if_ne 5 9 (gd rfl) rfl rfl (fun c8x3x2 => ?_) (fun c8x3x2 => ?_)
      · skip
        exact zn_ne c8x3x2 (in_c 0 rfl) rfl
      · skip
        refine g_iconst 1 6 (gd rfl) rfl rfl ?_
        refine g_goto 18 (gd rfl) rfl ?_
        refine g_putI 21 (gd rfl) rfl rfl rfl rfl ?_
        have hI8x3x18 := inv_sF (q := 109) (j := 0) hI rfl (in_w 0 2 (in_c 1 rfl) rfl)
        refine g_aload_n 22 (gd rfl) rfl rfl ?_
        refine g_getI 25 (gd rfl) rfl rfl rfl (fun z8x3x22 e8x3x22 => ?_)
        have q8x3x22 : (Int32.ofInt 1) = z8x3x22 := (sF_get).trans e8x3x22.symm
        subst q8x3x22
        refine g_if_le 28 32 (gd rfl) rfl rfl (fun c8x3x25 => ?_) (fun c8x3x25 => ?_)
        · skip
          exact zn_le c8x3x25 (in_c 1 rfl) rfl
        · skip
          refine g_iconst 1 29 (gd rfl) rfl rfl ?_
          refine g_goto 33 (gd rfl) rfl ?_
          refine g_ireturn (gd rfl) rfl (nb01 (in_w 0 1 (in_c 1 rfl) rfl)) (hp8x3 _ _ ?_)
          show GG _ _ _ _ _ _ _ _ [.int (Int32.ofInt 1)] _ _ _
          refine g_ireturn (gd rfl) rfl (nb01 (in_w 0 1 (in_c 1 rfl) rfl)) (hp8 _ _ ?_)
          show GG _ _ _ _ _ _ _ _ [.int (Int32.ofInt 1)] _ _ _
          refine g_if_eq 14 16 (gd rfl) rfl rfl (fun c11 => ?_) (fun c11 => ?_)
          · skip
            exact zn_eq c11 (in_c 1 rfl) rfl
          · skip
            refine g_lconst 0 15 (gd rfl) rfl rfl ?_
            exact g_lreturn (gd rfl) rfl (hP _ _ ⟨(sF s 109 0 (Int32.ofInt 1)), hI8x3x18, (fr_sF rfl fr_rf), (Int64.ofInt 0), rfl, rfl⟩)
    · skip
      have i5x10 := z_le (-1) 0 c5x10 i5x9 rfl
      have c5x10a := lc_le e5x9 c5x10
      have i5x10a := lr_le1 0 1 c5x10a i5x3a (l_c 1 rfl) rfl
      have i5x10b := l_b e2 i5x10a
      refine g_iconst 1 14 (gd rfl) rfl rfl ?_
      refine g_goto 18 (gd rfl) rfl ?_
      refine g_ireturn (gd rfl) rfl (nb01 (in_w 0 1 (in_c 1 rfl) rfl)) (hp5 _ _ ?_)
      show GG _ _ _ _ _ _ _ _ [.int (Int32.ofInt 1), .ref (A 109)] _ _ _
      refine g_callv (X := _) (As := [.int (Int32.ofInt 1)]) (r := []) (b := A 109) (q := 109) 11 (gd rfl) rfl rfl rfl rfl rfl (ww_o rfl) (Nat.le_of_ble_eq_true rfl) (mc := 0) (ms := 0) (Nat.zero_le _) (Nat.zero_le _) (P := fun v u => _) ?_ (fun e u h => h) (fun v u h => h)
      intro po8 xx8 hp8 hx8
      refine g_enter2 (k := 271) (N := 300) (by first | exact dq1 hd rfl | exact dq0 hd rfl | exact dq2 hd rfl | exact dq3 hd rfl | omega) rfl (Nat.le_of_ble_eq_true rfl) ?_
      refine g_aload_n 1 (gd rfl) rfl rfl ?_
      refine g_iload_n 2 (gd rfl) rfl rfl ?_
      refine g_iconst 1 3 (gd rfl) rfl rfl ?_
      refine g_callv (X := _) (As := [.int (Int32.ofInt 1), .int (Int32.ofInt 1)]) (r := []) (b := A 109) (q := 109) 6 (gd rfl) rfl rfl rfl rfl rfl (ww_o rfl) (Nat.le_of_ble_eq_true rfl) (mc := 0) (ms := 0) (Nat.zero_le _) (Nat.zero_le _) (P := fun v u => _) ?_ (fun e u h => h) (fun v u h => h)
      intro po8x3 xx8x3 hp8x3 hx8x3
      refine g_enter2 (k := 270) (N := 300) (by first | exact dq1 hd rfl | exact dq0 hd rfl | exact dq2 hd rfl | exact dq3 hd rfl | omega) rfl (Nat.le_of_ble_eq_true rfl) ?_
      refine g_aload_n 1 (gd rfl) rfl rfl ?_
      refine g_iload_n 2 (gd rfl) rfl rfl ?_
      refine g_if_ne 5 9 (gd rfl) rfl rfl (fun c8x3x2 => ?_) (fun c8x3x2 => ?_)
      · skip
        refine g_iload_n 10 (gd rfl) rfl rfl ?_
        refine g_if_ne 13 17 (gd rfl) rfl rfl (fun c8x3x10 => ?_) (fun c8x3x10 => ?_)
        · skip
          refine g_iconst 0 18 (gd rfl) rfl rfl ?_
          refine g_putI 21 (gd rfl) rfl rfl rfl rfl ?_
          have hI8x3x18 := inv_sF (q := 109) (j := 0) hI rfl (in_w 0 2 (in_c 0 rfl) rfl)
          refine g_aload_n 22 (gd rfl) rfl rfl ?_
          refine g_getI 25 (gd rfl) rfl rfl rfl (fun z8x3x22 e8x3x22 => ?_)
          have q8x3x22 : (Int32.ofInt 0) = z8x3x22 := (sF_get).trans e8x3x22.symm
          subst q8x3x22
          refine g_if_le 28 32 (gd rfl) rfl rfl (fun c8x3x25 => ?_) (fun c8x3x25 => ?_)
          · skip
            refine g_iconst 0 33 (gd rfl) rfl rfl ?_
            refine g_ireturn (gd rfl) rfl (nb01 (in_w 0 1 (in_c 0 rfl) rfl)) (hp8x3 _ _ ?_)
            show GG _ _ _ _ _ _ _ _ [.int (Int32.ofInt 0)] _ _ _
            refine g_ireturn (gd rfl) rfl (nb01 (in_w 0 1 (in_c 0 rfl) rfl)) (hp8 _ _ ?_)
            show GG _ _ _ _ _ _ _ _ [.int (Int32.ofInt 0)] _ _ _
            refine g_if_eq 14 16 (gd rfl) rfl rfl (fun c11 => ?_) (fun c11 => ?_)
            · skip
              refine g_aload_n 17 (gd rfl) rfl rfl ?_
              refine g_callv (X := _) (As := []) (r := []) (b := A 109) (q := 109) 20 (gd rfl) rfl rfl rfl rfl rfl (ww_o rfl) (Nat.le_of_ble_eq_true rfl) (Nat.zero_le _) (Nat.zero_le _) (k_335 (by first | exact dq1 hd rfl | exact dq0 hd rfl | exact dq2 hd rfl | exact dq3 hd rfl | omega) hI8x3x18 ) (fun e u h => h) (fun v u h => ?_)
              obtain ⟨s17, hI17, hF17, rfl, rfl, p17⟩ := h
              show GG _ _ _ _ _ _ _ _ [] _ _ _
              refine g_lconst 0 21 (gd rfl) rfl rfl ?_
              refine g_lstore_n 22 (gd rfl) rfl (Nat.le_of_ble_eq_true rfl) ?_
              refine g_iconst 0 23 (gd rfl) rfl rfl ?_
              refine g_istore 25 (gd rfl) rfl (Nat.le_of_ble_eq_true rfl) ?_
              exact gg_w (by first | exact Nat.le_of_ble_eq_true rfl | omega) (gg_f (gf_cons rfl (gf_cons rfl (gf_cons rfl (gf_cons rfl gf_nil)))) (ct25 33 s17 (Int64.ofInt 0) (Int32.ofInt 0) hI17 (fr_tr rfl (fr_sF rfl fr_rf) hF17) (in_w 0 1 i5x10b rfl) (in_w 0 32 (in_c 0 rfl) rfl) (m_in 33 (in_w 0 32 (in_c 0 rfl) rfl) rfl)))
            · skip
              exact zn_ne c11 (in_c 0 rfl) rfl
          · skip
            exact zn_gt c8x3x25 (in_c 0 rfl) rfl
        · skip
          exact zn_eq c8x3x10 (in_c 1 rfl) rfl
      · skip
        exact zn_eq c8x3x2 (in_c 1 rfl) rfl

def fm_383 : FM := ([], [175], [], [])
/-- GraphHouseModel.follow -/
theorem k_383 {Z : AmZ} {A : Nat → Nat} {s : GS} {ex : va_W} {d : Nat} {X : AmX} {x1 : Int64} {x2 : Int64} (hd : 1 ≤ d) (hI : Inv s)  : GC Z d 383 [.ref (A 109), .long x1, .long x2] (WW Z A s ++ ex) 0 0 (fun v u => ∃ t : GS, Inv t ∧ Fr fm_383 s t ∧ v = none ∧ u = WW Z A t ++ ex) X := by
  intro post xp hP hX
  have ct3 : ∀ (k3 : Nat) (sc3 : GS) (y3_5 : Int32), Inv sc3 → Fr fm_383 s sc3 → (In y3_5 0 60) → 60 - (y3_5).toInt < (k3 : Int) → GG Z (d - 1) 383 post (gx xp) (1 + k3 * 900) 3 (fun j => xlook j [(0, .ref (A 109)), (1, .long x1), (3, .long x2), (5, .int y3_5)]) [] (WW Z A sc3 ++ ex) 0 0 := by
    intro k3
    induction k3 with
    | zero => intro sc3 y3_5 hIc3 hFc3 j3_5 mm3; exact m_no mm3 j3_5 rfl
    | succ k3 ih3 =>
      intro sc3 y3_5 hIc3 hFc3 j3_5 mm3
      refine gg_w (M := 1 + k3 * 900 + 900) gws ?_
      refine g_iload 5 (gd rfl) rfl rfl ?_
      refine g_bipush 60 7 (gd rfl) rfl rfl ?_
      refine g_cmp_ge 10 42 (gd rfl) rfl rfl (fun c7 => ?_) (fun c7 => ?_)
      · skip
        have i7 := r_le2 60 60 c7 (in_c 60 rfl) j3_5 rfl
        exact g_return (gd rfl) rfl (hP _ _ ⟨sc3, hIc3, hFc3, rfl, rfl⟩)
      · skip
        have i7 := r_lt1 0 59 c7 j3_5 (in_c 60 rfl) rfl
        refine g_aload_n 11 (gd rfl) rfl rfl ?_
        refine g_getA (q2 := 175) 14 (gd rfl) rfl rfl rfl rfl ?_
        refine g_iload 16 (gd rfl) rfl rfl ?_
        refine g_dup2 17 (gd rfl) rfl rfl rfl ?_
        refine g_laload 18 (gd rfl) rfl (n := 60) rfl (in_ix i7 rfl) (fun z17 e17 => ?_)
        refine g_lload_n 19 (gd rfl) rfl rfl ?_
        refine g_iload 21 (gd rfl) rfl rfl ?_
        refine g_lshr 22 (gd rfl) rfl (fun z21 e21 => ?_)
        refine g_lconst 1 23 (gd rfl) rfl rfl ?_
        refine g_land 24 (gd rfl) rfl (fun z23 e23 => ?_)
        have i23 := inl_and2 e23 (l_c 1 rfl) rfl
        refine g_lconst 1 25 (gd rfl) rfl rfl ?_
        refine g_lcmp 26 (gd rfl) rfl (fun z25 e25 => ?_)
        have i25 := lc_in e25
        refine g_if_ne 29 33 (gd rfl) rfl rfl (fun c26 => ?_) (fun c26 => ?_)
        · skip
          have c26a := lc_ne e25 c26
          have i26 := lr_ne1 0 0 c26a i23 (l_c 1 rfl) rfl
          refine g_lconst 0 34 (gd rfl) rfl rfl ?_
          refine g_lor 35 (gd rfl) rfl (fun z34 e34 => ?_)
          refine g_lastore 36 (gd rfl) rfl (n := 60) rfl (in_ix i7 rfl) ?_
          have hI35 := inv_sL (q := 175) (j := y3_5.toNatClampNeg) (x := z34) hIc3 rfl (l_rng z34)
          refine g_iinc 39 (gd rfl) rfl rfl (Nat.le_of_ble_eq_true rfl) (fun z36 e36 => ?_)
          have i36 := in_add 1 60 e36 i7 (in_c 1 rfl) rfl rfl
          refine g_goto 3 (gd rfl) rfl ?_
          exact gg_w (by first | exact Nat.le_add_right _ _ | exact gw2 | exact gw3 | exact gwe rfl | exact gwf rfl | exact gwg rfl | exact gwh rfl | omega) (gg_f (gf_cons rfl (gf_cons rfl (gf_cons rfl (gf_cons rfl gf_nil)))) (ih3 (sL sc3 175 y3_5.toNatClampNeg z34) z36 hI35 (fr_sL rfl hFc3) (in_w 0 60 i36 rfl) (m_up mm3 (t_add e36 i7 (in_c 1 rfl) rfl) (in_w 1 1 (in_c 1 rfl) rfl))))
        · skip
          have i26 := z_eq 0 0 c26 i25 rfl
          have c26a := lc_eq e25 c26
          have i26a := lr_eq1 1 1 c26a i23 (l_c 1 rfl) rfl
          refine g_lload_n 30 (gd rfl) rfl rfl ?_
          refine g_goto 34 (gd rfl) rfl ?_
          refine g_lor 35 (gd rfl) rfl (fun z34 e34 => ?_)
          refine g_lastore 36 (gd rfl) rfl (n := 60) rfl (in_ix i7 rfl) ?_
          have hI35 := inv_sL (q := 175) (j := y3_5.toNatClampNeg) (x := z34) hIc3 rfl (l_rng z34)
          refine g_iinc 39 (gd rfl) rfl rfl (Nat.le_of_ble_eq_true rfl) (fun z36 e36 => ?_)
          have i36 := in_add 1 60 e36 i7 (in_c 1 rfl) rfl rfl
          refine g_goto 3 (gd rfl) rfl ?_
          exact gg_w (by first | exact Nat.le_add_right _ _ | exact gw2 | exact gw3 | exact gwe rfl | exact gwf rfl | exact gwg rfl | exact gwh rfl | omega) (gg_f (gf_cons rfl (gf_cons rfl (gf_cons rfl (gf_cons rfl gf_nil)))) (ih3 (sL sc3 175 y3_5.toNatClampNeg z34) z36 hI35 (fr_sL rfl hFc3) (in_w 0 60 i36 rfl) (m_up mm3 (t_add e36 i7 (in_c 1 rfl) rfl) (in_w 1 1 (in_c 1 rfl) rfl))))
  refine g_enter2 (k := 383) (N := 55801) (by first | exact dq1 hd rfl | exact dq0 hd rfl | exact dq2 hd rfl | exact dq3 hd rfl | omega) rfl (Nat.le_of_ble_eq_true rfl) ?_
  refine g_iconst 0 1 (gd rfl) rfl rfl ?_
  refine g_istore 3 (gd rfl) rfl (Nat.le_of_ble_eq_true rfl) ?_
  exact gg_w (by first | exact Nat.le_of_ble_eq_true rfl | omega) (gg_f (gf_cons rfl (gf_cons rfl (gf_cons rfl (gf_cons rfl gf_nil)))) (ct3 61 s (Int32.ofInt 0) hI fr_rf (in_w 0 60 (in_c 0 rfl) rfl) (m_in 61 (in_w 0 60 (in_c 0 rfl) rfl) rfl)))

def fm_384 : FM := ([180], [175, 181, 182], [(109, 97), (109, 98)], [])
/-- GraphHouseModel.flush -/
theorem k_384 {Z : AmZ} {A : Nat → Nat} {s : GS} {ex : va_W} {d : Nat} {X : AmX}  (hd : 2 ≤ d) (hI : Inv s)  : GC Z d 384 [.ref (A 109)] (WW Z A s ++ ex) 0 0 (fun v u => ∃ t : GS, Inv t ∧ Fr fm_384 s t ∧ v = none ∧ u = WW Z A t ++ ex) X := by
  intro post xp hP hX
  obtain ⟨u_109_96, e_109_96⟩ : ∃ w, w = s.2.2.1 109 96 := ⟨_, rfl⟩
  have ro_109_96 := inv_F hI 0 10 rfl e_109_96
  obtain ⟨u_109_99, e_109_99⟩ : ∃ w, w = s.2.2.1 109 99 := ⟨_, rfl⟩
  have ro_109_99 := inv_F hI 0 1 rfl e_109_99
  refine g_enter2 (k := 384) (N := 900) (by first | exact dq1 hd rfl | exact dq0 hd rfl | exact dq2 hd rfl | exact dq3 hd rfl | omega) rfl (Nat.le_of_ble_eq_true rfl) ?_
  refine g_aload_n 1 (gd rfl) rfl rfl ?_
  refine g_getZ 4 (gd rfl) rfl rfl rfl (fun z1 e1 => ?_)
  have i1 := inv_F hI 0 1 rfl e1
  refine g_if_eq 7 123 (gd rfl) rfl rfl (fun c4 => ?_) (fun c4 => ?_)
  · skip
    have i4 := z_eq 0 0 c4 i1 rfl
    refine g_aload_n 124 (gd rfl) rfl rfl ?_
    refine g_iconst 0 125 (gd rfl) rfl rfl ?_
    refine g_putZ 128 (gd rfl) rfl rfl rfl rfl (in01 (in_w 0 1 (in_c 0 rfl) rfl)) ?_
    have hI125 := inv_sF (q := 109) (j := 97) hI rfl (in_w 0 1 (in_c 0 rfl) rfl)
    refine g_aload_n 129 (gd rfl) rfl rfl ?_
    refine g_iconst 0 130 (gd rfl) rfl rfl ?_
    refine g_putZ 133 (gd rfl) rfl rfl rfl rfl (in01 (in_w 0 1 (in_c 0 rfl) rfl)) ?_
    have hI130 := inv_sF (q := 109) (j := 98) hI125 rfl (in_w 0 1 (in_c 0 rfl) rfl)
    exact g_return (gd rfl) rfl (hP _ _ ⟨(sF (sF s 109 97 (Int32.ofInt 0)) 109 98 (Int32.ofInt 0)), hI130, (fr_sF rfl (fr_sF rfl fr_rf)), rfl, rfl⟩)
  · skip
    have i4 := z_ne 1 1 c4 i1 rfl
    refine g_aload_n 8 (gd rfl) rfl rfl ?_
    refine g_aload_n 9 (gd rfl) rfl rfl ?_
    refine g_getA (q2 := 182) 12 (gd rfl) rfl rfl rfl rfl ?_
    refine g_aload_n 13 (gd rfl) rfl rfl ?_
    refine g_getI 16 (gd rfl) rfl rfl rfl (fun z13 e13 => ?_)
    have q13 : u_109_96 = z13 := (e_109_96).trans e13.symm
    subst q13
    refine g_laload 17 (gd rfl) rfl (n := 12) rfl (in_ix ro_109_96 rfl) (fun z16 e16 => ?_)
    refine g_aload_n 18 (gd rfl) rfl rfl ?_
    refine g_getL 21 (gd rfl) rfl rfl rfl (fun z18 e18 => ?_)
    refine g_callv (X := _) (As := [.long z16, .long z18]) (r := []) (b := A 109) (q := 109) 24 (gd rfl) rfl rfl rfl rfl rfl (ww_o rfl) (Nat.le_of_ble_eq_true rfl) (Nat.zero_le _) (Nat.zero_le _) (k_383 (by first | exact dq1 hd rfl | exact dq0 hd rfl | exact dq2 hd rfl | exact dq3 hd rfl | omega) hI ) (fun e u h => h) (fun v u h => ?_)
    obtain ⟨s21, hI21, hF21, rfl, rfl⟩ := h
    show GG _ _ _ _ _ _ _ _ [] _ _ _
    refine g_aload_n 25 (gd rfl) rfl rfl ?_
    refine g_getA (q2 := 181) 28 (gd rfl) rfl rfl rfl rfl ?_
    refine g_aload_n 29 (gd rfl) rfl rfl ?_
    refine g_getI 32 (gd rfl) rfl rfl rfl (fun z29 e29 => ?_)
    have q29 : u_109_96 = z29 := (fr_F (e_109_96) hF21 rfl).trans e29.symm
    subst q29
    refine g_dup2 33 (gd rfl) rfl rfl rfl ?_
    refine g_laload 34 (gd rfl) rfl (n := 12) rfl (in_ix ro_109_96 rfl) (fun z33 e33 => ?_)
    refine g_aload_n 35 (gd rfl) rfl rfl ?_
    refine g_getA (q2 := 180) 38 (gd rfl) rfl rfl rfl rfl ?_
    refine g_aload_n 39 (gd rfl) rfl rfl ?_
    refine g_getI 42 (gd rfl) rfl rfl rfl (fun z39 e39 => ?_)
    have q39 : u_109_96 = z39 := (fr_F (e_109_96) hF21 rfl).trans e39.symm
    subst q39
    refine g_baload 43 (gd rfl) rfl (n := 12) rfl (in_ix ro_109_96 rfl) (fun z42 e42 => ?_)
    have i42 := inv_I hI21 (n := 12) (t := 3) 0 1 rfl (in_ix ro_109_96 rfl) rfl e42
    refine g_if_eq 46 53 (gd rfl) rfl rfl (fun c43 => ?_) (fun c43 => ?_)
    · skip
      have i43 := z_eq 0 0 c43 i42 rfl
      refine g_lconst 0 54 (gd rfl) rfl rfl ?_
      refine g_lor 55 (gd rfl) rfl (fun z54 e54 => ?_)
      refine g_lastore 56 (gd rfl) rfl (n := 12) rfl (in_ix ro_109_96 rfl) ?_
      have hI55 := inv_sL (q := 181) (j := u_109_96.toNatClampNeg) (x := z54) hI21 rfl (l_rng z54)
      refine g_aload_n 57 (gd rfl) rfl rfl ?_
      refine g_getA (q2 := 182) 60 (gd rfl) rfl rfl rfl rfl ?_
      refine g_aload_n 61 (gd rfl) rfl rfl ?_
      refine g_getI 64 (gd rfl) rfl rfl rfl (fun z61 e61 => ?_)
      have q61 : u_109_96 = z61 := (sL_F (fr_F (e_109_96) hF21 rfl)).trans e61.symm
      subst q61
      refine g_aload_n 65 (gd rfl) rfl rfl ?_
      refine g_getL 68 (gd rfl) rfl rfl rfl (fun z65 e65 => ?_)
      refine g_aload_n 69 (gd rfl) rfl rfl ?_
      refine g_getZ 72 (gd rfl) rfl rfl rfl (fun z69 e69 => ?_)
      have q69 : u_109_99 = z69 := (sL_F (fr_F (e_109_99) hF21 rfl)).trans e69.symm
      subst q69
      refine g_if_eq 75 87 (gd rfl) rfl rfl (fun c72 => ?_) (fun c72 => ?_)
      · skip
        have i72 := z_eq 0 0 c72 ro_109_99 rfl
        refine g_lconst 0 88 (gd rfl) rfl rfl ?_
        refine g_lor 89 (gd rfl) rfl (fun z88 e88 => ?_)
        refine g_lastore 90 (gd rfl) rfl (n := 12) rfl (in_ix ro_109_96 rfl) ?_
        have hI89 := inv_sL (q := 182) (j := u_109_96.toNatClampNeg) (x := z88) hI55 rfl (l_rng z88)
        refine g_aload_n 91 (gd rfl) rfl rfl ?_
        refine g_getA (q2 := 180) 94 (gd rfl) rfl rfl rfl rfl ?_
        refine g_aload_n 95 (gd rfl) rfl rfl ?_
        refine g_getI 98 (gd rfl) rfl rfl rfl (fun z95 e95 => ?_)
        have q95 : u_109_96 = z95 := (sL_F (sL_F (fr_F (e_109_96) hF21 rfl))).trans e95.symm
        subst q95
        refine g_aload_n 99 (gd rfl) rfl rfl ?_
        refine g_getA (q2 := 180) 102 (gd rfl) rfl rfl rfl rfl ?_
        refine g_aload_n 103 (gd rfl) rfl rfl ?_
        refine g_getI 106 (gd rfl) rfl rfl rfl (fun z103 e103 => ?_)
        have q103 : u_109_96 = z103 := (sL_F (sL_F (fr_F (e_109_96) hF21 rfl))).trans e103.symm
        subst q103
        refine g_baload 107 (gd rfl) rfl (n := 12) rfl (in_ix ro_109_96 rfl) (fun z106 e106 => ?_)
        have q106 : z42 = z106 := (sL_I (sL_I (e42))).trans e106.symm
        subst q106
        refine g_if_eq 110 121 (gd rfl) rfl rfl (fun c107 => ?_) (fun c107 => ?_)
        · skip
          refine g_iconst 0 122 (gd rfl) rfl rfl ?_
          refine g_bastore 123 (gd rfl) rfl (n := 12) rfl (in_ix ro_109_96 rfl) ?_
          have hI122 := inv_sI (q := 180) (j := u_109_96.toNatClampNeg) hI89 rfl (in_w 0 1 (nar01 (in_w 0 1 (in_c 0 rfl) rfl)) rfl)
          refine g_aload_n 124 (gd rfl) rfl rfl ?_
          refine g_iconst 0 125 (gd rfl) rfl rfl ?_
          refine g_putZ 128 (gd rfl) rfl rfl rfl rfl (in01 (in_w 0 1 (in_c 0 rfl) rfl)) ?_
          have hI125 := inv_sF (q := 109) (j := 97) hI122 rfl (in_w 0 1 (in_c 0 rfl) rfl)
          refine g_aload_n 129 (gd rfl) rfl rfl ?_
          refine g_iconst 0 130 (gd rfl) rfl rfl ?_
          refine g_putZ 133 (gd rfl) rfl rfl rfl rfl (in01 (in_w 0 1 (in_c 0 rfl) rfl)) ?_
          have hI130 := inv_sF (q := 109) (j := 98) hI125 rfl (in_w 0 1 (in_c 0 rfl) rfl)
          exact g_return (gd rfl) rfl (hP _ _ ⟨(sF (sF (sI (sL (sL s21 181 u_109_96.toNatClampNeg z54) 182 u_109_96.toNatClampNeg z88) 180 u_109_96.toNatClampNeg (vp_nar .boolean (Int32.ofInt 0))) 109 97 (Int32.ofInt 0)) 109 98 (Int32.ofInt 0)), hI130, (fr_sF rfl (fr_sF rfl (fr_sI rfl (fr_sL rfl (fr_sL rfl (fr_tr rfl fr_rf hF21)))))), rfl, rfl⟩)
        · skip
          exact zn_ne c107 i43 rfl
      · skip
        have i72 := z_ne 1 1 c72 ro_109_99 rfl
        refine g_aload_n 76 (gd rfl) rfl rfl ?_
        refine g_getA (q2 := 182) 79 (gd rfl) rfl rfl rfl rfl ?_
        refine g_aload_n 80 (gd rfl) rfl rfl ?_
        refine g_getI 83 (gd rfl) rfl rfl rfl (fun z80 e80 => ?_)
        have q80 : u_109_96 = z80 := (sL_F (fr_F (e_109_96) hF21 rfl)).trans e80.symm
        subst q80
        refine g_laload 84 (gd rfl) rfl (n := 12) rfl (in_ix ro_109_96 rfl) (fun z83 e83 => ?_)
        refine g_goto 88 (gd rfl) rfl ?_
        refine g_lor 89 (gd rfl) rfl (fun z88 e88 => ?_)
        refine g_lastore 90 (gd rfl) rfl (n := 12) rfl (in_ix ro_109_96 rfl) ?_
        have hI89 := inv_sL (q := 182) (j := u_109_96.toNatClampNeg) (x := z88) hI55 rfl (l_rng z88)
        refine g_aload_n 91 (gd rfl) rfl rfl ?_
        refine g_getA (q2 := 180) 94 (gd rfl) rfl rfl rfl rfl ?_
        refine g_aload_n 95 (gd rfl) rfl rfl ?_
        refine g_getI 98 (gd rfl) rfl rfl rfl (fun z95 e95 => ?_)
        have q95 : u_109_96 = z95 := (sL_F (sL_F (fr_F (e_109_96) hF21 rfl))).trans e95.symm
        subst q95
        refine g_aload_n 99 (gd rfl) rfl rfl ?_
        refine g_getA (q2 := 180) 102 (gd rfl) rfl rfl rfl rfl ?_
        refine g_aload_n 103 (gd rfl) rfl rfl ?_
        refine g_getI 106 (gd rfl) rfl rfl rfl (fun z103 e103 => ?_)
        have q103 : u_109_96 = z103 := (sL_F (sL_F (fr_F (e_109_96) hF21 rfl))).trans e103.symm
        subst q103
        refine g_baload 107 (gd rfl) rfl (n := 12) rfl (in_ix ro_109_96 rfl) (fun z106 e106 => ?_)
        have q106 : z42 = z106 := (sL_I (sL_I (e42))).trans e106.symm
        subst q106
        refine g_if_eq 110 121 (gd rfl) rfl rfl (fun c107 => ?_) (fun c107 => ?_)
        · skip
          refine g_iconst 0 122 (gd rfl) rfl rfl ?_
          refine g_bastore 123 (gd rfl) rfl (n := 12) rfl (in_ix ro_109_96 rfl) ?_
          have hI122 := inv_sI (q := 180) (j := u_109_96.toNatClampNeg) hI89 rfl (in_w 0 1 (nar01 (in_w 0 1 (in_c 0 rfl) rfl)) rfl)
          refine g_aload_n 124 (gd rfl) rfl rfl ?_
          refine g_iconst 0 125 (gd rfl) rfl rfl ?_
          refine g_putZ 128 (gd rfl) rfl rfl rfl rfl (in01 (in_w 0 1 (in_c 0 rfl) rfl)) ?_
          have hI125 := inv_sF (q := 109) (j := 97) hI122 rfl (in_w 0 1 (in_c 0 rfl) rfl)
          refine g_aload_n 129 (gd rfl) rfl rfl ?_
          refine g_iconst 0 130 (gd rfl) rfl rfl ?_
          refine g_putZ 133 (gd rfl) rfl rfl rfl rfl (in01 (in_w 0 1 (in_c 0 rfl) rfl)) ?_
          have hI130 := inv_sF (q := 109) (j := 98) hI125 rfl (in_w 0 1 (in_c 0 rfl) rfl)
          exact g_return (gd rfl) rfl (hP _ _ ⟨(sF (sF (sI (sL (sL s21 181 u_109_96.toNatClampNeg z54) 182 u_109_96.toNatClampNeg z88) 180 u_109_96.toNatClampNeg (vp_nar .boolean (Int32.ofInt 0))) 109 97 (Int32.ofInt 0)) 109 98 (Int32.ofInt 0)), hI130, (fr_sF rfl (fr_sF rfl (fr_sI rfl (fr_sL rfl (fr_sL rfl (fr_tr rfl fr_rf hF21)))))), rfl, rfl⟩)
        · skip
          exact zn_ne c107 i43 rfl
    · skip
      have i43 := z_ne 1 1 c43 i42 rfl
      refine g_aload_n 47 (gd rfl) rfl rfl ?_
      refine g_getL 50 (gd rfl) rfl rfl rfl (fun z47 e47 => ?_)
      refine g_goto 54 (gd rfl) rfl ?_
      refine g_lor 55 (gd rfl) rfl (fun z54 e54 => ?_)
      refine g_lastore 56 (gd rfl) rfl (n := 12) rfl (in_ix ro_109_96 rfl) ?_
      have hI55 := inv_sL (q := 181) (j := u_109_96.toNatClampNeg) (x := z54) hI21 rfl (l_rng z54)
      refine g_aload_n 57 (gd rfl) rfl rfl ?_
      refine g_getA (q2 := 182) 60 (gd rfl) rfl rfl rfl rfl ?_
      refine g_aload_n 61 (gd rfl) rfl rfl ?_
      refine g_getI 64 (gd rfl) rfl rfl rfl (fun z61 e61 => ?_)
      have q61 : u_109_96 = z61 := (sL_F (fr_F (e_109_96) hF21 rfl)).trans e61.symm
      subst q61
      refine g_aload_n 65 (gd rfl) rfl rfl ?_
      refine g_getL 68 (gd rfl) rfl rfl rfl (fun z65 e65 => ?_)
      refine g_aload_n 69 (gd rfl) rfl rfl ?_
      refine g_getZ 72 (gd rfl) rfl rfl rfl (fun z69 e69 => ?_)
      have q69 : u_109_99 = z69 := (sL_F (fr_F (e_109_99) hF21 rfl)).trans e69.symm
      subst q69
      refine g_if_eq 75 87 (gd rfl) rfl rfl (fun c72 => ?_) (fun c72 => ?_)
      · skip
        have i72 := z_eq 0 0 c72 ro_109_99 rfl
        refine g_lconst 0 88 (gd rfl) rfl rfl ?_
        refine g_lor 89 (gd rfl) rfl (fun z88 e88 => ?_)
        refine g_lastore 90 (gd rfl) rfl (n := 12) rfl (in_ix ro_109_96 rfl) ?_
        have hI89 := inv_sL (q := 182) (j := u_109_96.toNatClampNeg) (x := z88) hI55 rfl (l_rng z88)
        refine g_aload_n 91 (gd rfl) rfl rfl ?_
        refine g_getA (q2 := 180) 94 (gd rfl) rfl rfl rfl rfl ?_
        refine g_aload_n 95 (gd rfl) rfl rfl ?_
        refine g_getI 98 (gd rfl) rfl rfl rfl (fun z95 e95 => ?_)
        have q95 : u_109_96 = z95 := (sL_F (sL_F (fr_F (e_109_96) hF21 rfl))).trans e95.symm
        subst q95
        refine g_aload_n 99 (gd rfl) rfl rfl ?_
        refine g_getA (q2 := 180) 102 (gd rfl) rfl rfl rfl rfl ?_
        refine g_aload_n 103 (gd rfl) rfl rfl ?_
        refine g_getI 106 (gd rfl) rfl rfl rfl (fun z103 e103 => ?_)
        have q103 : u_109_96 = z103 := (sL_F (sL_F (fr_F (e_109_96) hF21 rfl))).trans e103.symm
        subst q103
        refine g_baload 107 (gd rfl) rfl (n := 12) rfl (in_ix ro_109_96 rfl) (fun z106 e106 => ?_)
        have q106 : z42 = z106 := (sL_I (sL_I (e42))).trans e106.symm
        subst q106
        refine g_if_eq 110 121 (gd rfl) rfl rfl (fun c107 => ?_) (fun c107 => ?_)
        · skip
          exact zn_eq c107 i43 rfl
        · skip
          refine g_aload_n 111 (gd rfl) rfl rfl ?_
          refine g_getZ 114 (gd rfl) rfl rfl rfl (fun z111 e111 => ?_)
          have q111 : u_109_99 = z111 := (sL_F (sL_F (fr_F (e_109_99) hF21 rfl))).trans e111.symm
          subst q111
          refine g_if_eq 117 121 (gd rfl) rfl rfl (fun c114 => ?_) (fun c114 => ?_)
          · skip
            refine g_iconst 0 122 (gd rfl) rfl rfl ?_
            refine g_bastore 123 (gd rfl) rfl (n := 12) rfl (in_ix ro_109_96 rfl) ?_
            have hI122 := inv_sI (q := 180) (j := u_109_96.toNatClampNeg) hI89 rfl (in_w 0 1 (nar01 (in_w 0 1 (in_c 0 rfl) rfl)) rfl)
            refine g_aload_n 124 (gd rfl) rfl rfl ?_
            refine g_iconst 0 125 (gd rfl) rfl rfl ?_
            refine g_putZ 128 (gd rfl) rfl rfl rfl rfl (in01 (in_w 0 1 (in_c 0 rfl) rfl)) ?_
            have hI125 := inv_sF (q := 109) (j := 97) hI122 rfl (in_w 0 1 (in_c 0 rfl) rfl)
            refine g_aload_n 129 (gd rfl) rfl rfl ?_
            refine g_iconst 0 130 (gd rfl) rfl rfl ?_
            refine g_putZ 133 (gd rfl) rfl rfl rfl rfl (in01 (in_w 0 1 (in_c 0 rfl) rfl)) ?_
            have hI130 := inv_sF (q := 109) (j := 98) hI125 rfl (in_w 0 1 (in_c 0 rfl) rfl)
            exact g_return (gd rfl) rfl (hP _ _ ⟨(sF (sF (sI (sL (sL s21 181 u_109_96.toNatClampNeg z54) 182 u_109_96.toNatClampNeg z88) 180 u_109_96.toNatClampNeg (vp_nar .boolean (Int32.ofInt 0))) 109 97 (Int32.ofInt 0)) 109 98 (Int32.ofInt 0)), hI130, (fr_sF rfl (fr_sF rfl (fr_sI rfl (fr_sL rfl (fr_sL rfl (fr_tr rfl fr_rf hF21)))))), rfl, rfl⟩)
          · skip
            exact zn_ne c114 i72 rfl
      · skip
        have i72 := z_ne 1 1 c72 ro_109_99 rfl
        refine g_aload_n 76 (gd rfl) rfl rfl ?_
        refine g_getA (q2 := 182) 79 (gd rfl) rfl rfl rfl rfl ?_
        refine g_aload_n 80 (gd rfl) rfl rfl ?_
        refine g_getI 83 (gd rfl) rfl rfl rfl (fun z80 e80 => ?_)
        have q80 : u_109_96 = z80 := (sL_F (fr_F (e_109_96) hF21 rfl)).trans e80.symm
        subst q80
        refine g_laload 84 (gd rfl) rfl (n := 12) rfl (in_ix ro_109_96 rfl) (fun z83 e83 => ?_)
        refine g_goto 88 (gd rfl) rfl ?_
        refine g_lor 89 (gd rfl) rfl (fun z88 e88 => ?_)
        refine g_lastore 90 (gd rfl) rfl (n := 12) rfl (in_ix ro_109_96 rfl) ?_
        have hI89 := inv_sL (q := 182) (j := u_109_96.toNatClampNeg) (x := z88) hI55 rfl (l_rng z88)
        refine g_aload_n 91 (gd rfl) rfl rfl ?_
        refine g_getA (q2 := 180) 94 (gd rfl) rfl rfl rfl rfl ?_
        refine g_aload_n 95 (gd rfl) rfl rfl ?_
        refine g_getI 98 (gd rfl) rfl rfl rfl (fun z95 e95 => ?_)
        have q95 : u_109_96 = z95 := (sL_F (sL_F (fr_F (e_109_96) hF21 rfl))).trans e95.symm
        subst q95
        refine g_aload_n 99 (gd rfl) rfl rfl ?_
        refine g_getA (q2 := 180) 102 (gd rfl) rfl rfl rfl rfl ?_
        refine g_aload_n 103 (gd rfl) rfl rfl ?_
        refine g_getI 106 (gd rfl) rfl rfl rfl (fun z103 e103 => ?_)
        have q103 : u_109_96 = z103 := (sL_F (sL_F (fr_F (e_109_96) hF21 rfl))).trans e103.symm
        subst q103
        refine g_baload 107 (gd rfl) rfl (n := 12) rfl (in_ix ro_109_96 rfl) (fun z106 e106 => ?_)
        have q106 : z42 = z106 := (sL_I (sL_I (e42))).trans e106.symm
        subst q106
        refine g_if_eq 110 121 (gd rfl) rfl rfl (fun c107 => ?_) (fun c107 => ?_)
        · skip
          exact zn_eq c107 i43 rfl
        · skip
          refine g_aload_n 111 (gd rfl) rfl rfl ?_
          refine g_getZ 114 (gd rfl) rfl rfl rfl (fun z111 e111 => ?_)
          have q111 : u_109_99 = z111 := (sL_F (sL_F (fr_F (e_109_99) hF21 rfl))).trans e111.symm
          subst q111
          refine g_if_eq 117 121 (gd rfl) rfl rfl (fun c114 => ?_) (fun c114 => ?_)
          · skip
            exact zn_eq c114 i72 rfl
          · skip
            refine g_iconst 1 118 (gd rfl) rfl rfl ?_
            refine g_goto 122 (gd rfl) rfl ?_
            refine g_bastore 123 (gd rfl) rfl (n := 12) rfl (in_ix ro_109_96 rfl) ?_
            have hI122 := inv_sI (q := 180) (j := u_109_96.toNatClampNeg) hI89 rfl (in_w 0 1 (nar01 (in_w 0 1 (in_c 1 rfl) rfl)) rfl)
            refine g_aload_n 124 (gd rfl) rfl rfl ?_
            refine g_iconst 0 125 (gd rfl) rfl rfl ?_
            refine g_putZ 128 (gd rfl) rfl rfl rfl rfl (in01 (in_w 0 1 (in_c 0 rfl) rfl)) ?_
            have hI125 := inv_sF (q := 109) (j := 97) hI122 rfl (in_w 0 1 (in_c 0 rfl) rfl)
            refine g_aload_n 129 (gd rfl) rfl rfl ?_
            refine g_iconst 0 130 (gd rfl) rfl rfl ?_
            refine g_putZ 133 (gd rfl) rfl rfl rfl rfl (in01 (in_w 0 1 (in_c 0 rfl) rfl)) ?_
            have hI130 := inv_sF (q := 109) (j := 98) hI125 rfl (in_w 0 1 (in_c 0 rfl) rfl)
            exact g_return (gd rfl) rfl (hP _ _ ⟨(sF (sF (sI (sL (sL s21 181 u_109_96.toNatClampNeg z54) 182 u_109_96.toNatClampNeg z88) 180 u_109_96.toNatClampNeg (vp_nar .boolean (Int32.ofInt 1))) 109 97 (Int32.ofInt 0)) 109 98 (Int32.ofInt 0)), hI130, (fr_sF rfl (fr_sF rfl (fr_sI rfl (fr_sL rfl (fr_sL rfl (fr_tr rfl fr_rf hF21)))))), rfl, rfl⟩)

def fm_385 : FM := ([176, 177, 180], [175, 178, 179, 181, 182], [(109, 97), (109, 98)], [])
/-- GraphHouseModel.endSequence -/
theorem k_385 {Z : AmZ} {A : Nat → Nat} {s : GS} {ex : va_W} {d : Nat} {X : AmX}  (hd : 3 ≤ d) (hI : Inv s)  : GC Z d 385 [.ref (A 109)] (WW Z A s ++ ex) 0 0 (fun v u => ∃ t : GS, Inv t ∧ Fr fm_385 s t ∧ v = none ∧ u = WW Z A t ++ ex) X := by
  intro post xp hP hX
  obtain ⟨u_109_96, e_109_96⟩ : ∃ w, w = s.2.2.1 109 96 := ⟨_, rfl⟩
  have ro_109_96 := inv_F hI 0 10 rfl e_109_96
  refine g_enter2 (k := 385) (N := 900) (by first | exact dq1 hd rfl | exact dq0 hd rfl | exact dq2 hd rfl | exact dq3 hd rfl | omega) rfl (Nat.le_of_ble_eq_true rfl) ?_
  refine g_aload_n 1 (gd rfl) rfl rfl ?_
  refine g_callv (X := _) (As := []) (r := []) (b := A 109) (q := 109) 4 (gd rfl) rfl rfl rfl rfl rfl (ww_o rfl) (Nat.le_of_ble_eq_true rfl) (Nat.zero_le _) (Nat.zero_le _) (k_384 (by first | exact dq1 hd rfl | exact dq0 hd rfl | exact dq2 hd rfl | exact dq3 hd rfl | omega) hI ) (fun e u h => h) (fun v u h => ?_)
  obtain ⟨s1, hI1, hF1, rfl, rfl⟩ := h
  show GG _ _ _ _ _ _ _ _ [] _ _ _
  refine g_aload_n 5 (gd rfl) rfl rfl ?_
  refine g_getA (q2 := 176) 8 (gd rfl) rfl rfl rfl rfl ?_
  refine g_aload_n 9 (gd rfl) rfl rfl ?_
  refine g_getI 12 (gd rfl) rfl rfl rfl (fun z9 e9 => ?_)
  have q9 : u_109_96 = z9 := (fr_F (e_109_96) hF1 rfl).trans e9.symm
  subst q9
  refine g_iconst 1 13 (gd rfl) rfl rfl ?_
  refine g_bastore 14 (gd rfl) rfl (n := 12) rfl (in_ix ro_109_96 rfl) ?_
  have hI13 := inv_sI (q := 176) (j := u_109_96.toNatClampNeg) hI1 rfl (in_w 0 1 (nar01 (in_w 0 1 (in_c 1 rfl) rfl)) rfl)
  refine g_aload_n 15 (gd rfl) rfl rfl ?_
  refine g_getA (q2 := 177) 18 (gd rfl) rfl rfl rfl rfl ?_
  refine g_aload_n 19 (gd rfl) rfl rfl ?_
  refine g_getI 22 (gd rfl) rfl rfl rfl (fun z19 e19 => ?_)
  have q19 : u_109_96 = z19 := (sI_F (fr_F (e_109_96) hF1 rfl)).trans e19.symm
  subst q19
  refine g_aload_n 23 (gd rfl) rfl rfl ?_
  refine g_getA (q2 := 177) 26 (gd rfl) rfl rfl rfl rfl ?_
  refine g_aload_n 27 (gd rfl) rfl rfl ?_
  refine g_getI 30 (gd rfl) rfl rfl rfl (fun z27 e27 => ?_)
  have q27 : u_109_96 = z27 := (sI_F (fr_F (e_109_96) hF1 rfl)).trans e27.symm
  subst q27
  refine g_baload 31 (gd rfl) rfl (n := 12) rfl (in_ix ro_109_96 rfl) (fun z30 e30 => ?_)
  have i30 := inv_I hI13 (n := 12) (t := 3) 0 1 rfl (in_ix ro_109_96 rfl) rfl e30
  refine g_if_ne 34 46 (gd rfl) rfl rfl (fun c31 => ?_) (fun c31 => ?_)
  · skip
    have i31 := z_ne 1 1 c31 i30 rfl
    refine g_iconst 1 47 (gd rfl) rfl rfl ?_
    refine g_goto 51 (gd rfl) rfl ?_
    refine g_bastore 52 (gd rfl) rfl (n := 12) rfl (in_ix ro_109_96 rfl) ?_
    have hI51 := inv_sI (q := 177) (j := u_109_96.toNatClampNeg) hI13 rfl (in_w 0 1 (nar01 (in_w 0 1 (in_c 1 rfl) rfl)) rfl)
    refine g_aload_n 53 (gd rfl) rfl rfl ?_
    refine g_getA (q2 := 178) 56 (gd rfl) rfl rfl rfl rfl ?_
    refine g_aload_n 57 (gd rfl) rfl rfl ?_
    refine g_getI 60 (gd rfl) rfl rfl rfl (fun z57 e57 => ?_)
    have q57 : u_109_96 = z57 := (sI_F (sI_F (fr_F (e_109_96) hF1 rfl))).trans e57.symm
    subst q57
    refine g_dup2 61 (gd rfl) rfl rfl rfl ?_
    refine g_laload 62 (gd rfl) rfl (n := 12) rfl (in_ix ro_109_96 rfl) (fun z61 e61 => ?_)
    refine g_aload_n 63 (gd rfl) rfl rfl ?_
    refine g_getA (q2 := 181) 66 (gd rfl) rfl rfl rfl rfl ?_
    refine g_aload_n 67 (gd rfl) rfl rfl ?_
    refine g_getI 70 (gd rfl) rfl rfl rfl (fun z67 e67 => ?_)
    have q67 : u_109_96 = z67 := (sI_F (sI_F (fr_F (e_109_96) hF1 rfl))).trans e67.symm
    subst q67
    refine g_laload 71 (gd rfl) rfl (n := 12) rfl (in_ix ro_109_96 rfl) (fun z70 e70 => ?_)
    refine g_lor 72 (gd rfl) rfl (fun z71 e71 => ?_)
    refine g_lastore 73 (gd rfl) rfl (n := 12) rfl (in_ix ro_109_96 rfl) ?_
    have hI72 := inv_sL (q := 178) (j := u_109_96.toNatClampNeg) (x := z71) hI51 rfl (l_rng z71)
    refine g_aload_n 74 (gd rfl) rfl rfl ?_
    refine g_getA (q2 := 179) 77 (gd rfl) rfl rfl rfl rfl ?_
    refine g_aload_n 78 (gd rfl) rfl rfl ?_
    refine g_getI 81 (gd rfl) rfl rfl rfl (fun z78 e78 => ?_)
    have q78 : u_109_96 = z78 := (sL_F (sI_F (sI_F (fr_F (e_109_96) hF1 rfl)))).trans e78.symm
    subst q78
    refine g_dup2 82 (gd rfl) rfl rfl rfl ?_
    refine g_laload 83 (gd rfl) rfl (n := 12) rfl (in_ix ro_109_96 rfl) (fun z82 e82 => ?_)
    refine g_aload_n 84 (gd rfl) rfl rfl ?_
    refine g_getA (q2 := 182) 87 (gd rfl) rfl rfl rfl rfl ?_
    refine g_aload_n 88 (gd rfl) rfl rfl ?_
    refine g_getI 91 (gd rfl) rfl rfl rfl (fun z88 e88 => ?_)
    have q88 : u_109_96 = z88 := (sL_F (sI_F (sI_F (fr_F (e_109_96) hF1 rfl)))).trans e88.symm
    subst q88
    refine g_laload 92 (gd rfl) rfl (n := 12) rfl (in_ix ro_109_96 rfl) (fun z91 e91 => ?_)
    refine g_lor 93 (gd rfl) rfl (fun z92 e92 => ?_)
    refine g_lastore 94 (gd rfl) rfl (n := 12) rfl (in_ix ro_109_96 rfl) ?_
    have hI93 := inv_sL (q := 179) (j := u_109_96.toNatClampNeg) (x := z92) hI72 rfl (l_rng z92)
    exact g_return (gd rfl) rfl (hP _ _ ⟨(sL (sL (sI (sI s1 176 u_109_96.toNatClampNeg (vp_nar .boolean (Int32.ofInt 1))) 177 u_109_96.toNatClampNeg (vp_nar .boolean (Int32.ofInt 1))) 178 u_109_96.toNatClampNeg z71) 179 u_109_96.toNatClampNeg z92), hI93, (fr_sL rfl (fr_sL rfl (fr_sI rfl (fr_sI rfl (fr_tr rfl fr_rf hF1))))), rfl, rfl⟩)
  · skip
    have i31 := z_eq 0 0 c31 i30 rfl
    refine g_aload_n 35 (gd rfl) rfl rfl ?_
    refine g_getA (q2 := 180) 38 (gd rfl) rfl rfl rfl rfl ?_
    refine g_aload_n 39 (gd rfl) rfl rfl ?_
    refine g_getI 42 (gd rfl) rfl rfl rfl (fun z39 e39 => ?_)
    have q39 : u_109_96 = z39 := (sI_F (fr_F (e_109_96) hF1 rfl)).trans e39.symm
    subst q39
    refine g_baload 43 (gd rfl) rfl (n := 12) rfl (in_ix ro_109_96 rfl) (fun z42 e42 => ?_)
    have i42 := inv_I hI13 (n := 12) (t := 3) 0 1 rfl (in_ix ro_109_96 rfl) rfl e42
    refine g_if_eq 46 50 (gd rfl) rfl rfl (fun c43 => ?_) (fun c43 => ?_)
    · skip
      have i43 := z_eq 0 0 c43 i42 rfl
      refine g_iconst 0 51 (gd rfl) rfl rfl ?_
      refine g_bastore 52 (gd rfl) rfl (n := 12) rfl (in_ix ro_109_96 rfl) ?_
      have hI51 := inv_sI (q := 177) (j := u_109_96.toNatClampNeg) hI13 rfl (in_w 0 1 (nar01 (in_w 0 1 (in_c 0 rfl) rfl)) rfl)
      refine g_aload_n 53 (gd rfl) rfl rfl ?_
      refine g_getA (q2 := 178) 56 (gd rfl) rfl rfl rfl rfl ?_
      refine g_aload_n 57 (gd rfl) rfl rfl ?_
      refine g_getI 60 (gd rfl) rfl rfl rfl (fun z57 e57 => ?_)
      have q57 : u_109_96 = z57 := (sI_F (sI_F (fr_F (e_109_96) hF1 rfl))).trans e57.symm
      subst q57
      refine g_dup2 61 (gd rfl) rfl rfl rfl ?_
      refine g_laload 62 (gd rfl) rfl (n := 12) rfl (in_ix ro_109_96 rfl) (fun z61 e61 => ?_)
      refine g_aload_n 63 (gd rfl) rfl rfl ?_
      refine g_getA (q2 := 181) 66 (gd rfl) rfl rfl rfl rfl ?_
      refine g_aload_n 67 (gd rfl) rfl rfl ?_
      refine g_getI 70 (gd rfl) rfl rfl rfl (fun z67 e67 => ?_)
      have q67 : u_109_96 = z67 := (sI_F (sI_F (fr_F (e_109_96) hF1 rfl))).trans e67.symm
      subst q67
      refine g_laload 71 (gd rfl) rfl (n := 12) rfl (in_ix ro_109_96 rfl) (fun z70 e70 => ?_)
      refine g_lor 72 (gd rfl) rfl (fun z71 e71 => ?_)
      refine g_lastore 73 (gd rfl) rfl (n := 12) rfl (in_ix ro_109_96 rfl) ?_
      have hI72 := inv_sL (q := 178) (j := u_109_96.toNatClampNeg) (x := z71) hI51 rfl (l_rng z71)
      refine g_aload_n 74 (gd rfl) rfl rfl ?_
      refine g_getA (q2 := 179) 77 (gd rfl) rfl rfl rfl rfl ?_
      refine g_aload_n 78 (gd rfl) rfl rfl ?_
      refine g_getI 81 (gd rfl) rfl rfl rfl (fun z78 e78 => ?_)
      have q78 : u_109_96 = z78 := (sL_F (sI_F (sI_F (fr_F (e_109_96) hF1 rfl)))).trans e78.symm
      subst q78
      refine g_dup2 82 (gd rfl) rfl rfl rfl ?_
      refine g_laload 83 (gd rfl) rfl (n := 12) rfl (in_ix ro_109_96 rfl) (fun z82 e82 => ?_)
      refine g_aload_n 84 (gd rfl) rfl rfl ?_
      refine g_getA (q2 := 182) 87 (gd rfl) rfl rfl rfl rfl ?_
      refine g_aload_n 88 (gd rfl) rfl rfl ?_
      refine g_getI 91 (gd rfl) rfl rfl rfl (fun z88 e88 => ?_)
      have q88 : u_109_96 = z88 := (sL_F (sI_F (sI_F (fr_F (e_109_96) hF1 rfl)))).trans e88.symm
      subst q88
      refine g_laload 92 (gd rfl) rfl (n := 12) rfl (in_ix ro_109_96 rfl) (fun z91 e91 => ?_)
      refine g_lor 93 (gd rfl) rfl (fun z92 e92 => ?_)
      refine g_lastore 94 (gd rfl) rfl (n := 12) rfl (in_ix ro_109_96 rfl) ?_
      have hI93 := inv_sL (q := 179) (j := u_109_96.toNatClampNeg) (x := z92) hI72 rfl (l_rng z92)
      exact g_return (gd rfl) rfl (hP _ _ ⟨(sL (sL (sI (sI s1 176 u_109_96.toNatClampNeg (vp_nar .boolean (Int32.ofInt 1))) 177 u_109_96.toNatClampNeg (vp_nar .boolean (Int32.ofInt 0))) 178 u_109_96.toNatClampNeg z71) 179 u_109_96.toNatClampNeg z92), hI93, (fr_sL rfl (fr_sL rfl (fr_sI rfl (fr_sI rfl (fr_tr rfl fr_rf hF1))))), rfl, rfl⟩)
    · skip
      have i43 := z_ne 1 1 c43 i42 rfl
      refine g_iconst 1 47 (gd rfl) rfl rfl ?_
      refine g_goto 51 (gd rfl) rfl ?_
      refine g_bastore 52 (gd rfl) rfl (n := 12) rfl (in_ix ro_109_96 rfl) ?_
      have hI51 := inv_sI (q := 177) (j := u_109_96.toNatClampNeg) hI13 rfl (in_w 0 1 (nar01 (in_w 0 1 (in_c 1 rfl) rfl)) rfl)
      refine g_aload_n 53 (gd rfl) rfl rfl ?_
      refine g_getA (q2 := 178) 56 (gd rfl) rfl rfl rfl rfl ?_
      refine g_aload_n 57 (gd rfl) rfl rfl ?_
      refine g_getI 60 (gd rfl) rfl rfl rfl (fun z57 e57 => ?_)
      have q57 : u_109_96 = z57 := (sI_F (sI_F (fr_F (e_109_96) hF1 rfl))).trans e57.symm
      subst q57
      refine g_dup2 61 (gd rfl) rfl rfl rfl ?_
      refine g_laload 62 (gd rfl) rfl (n := 12) rfl (in_ix ro_109_96 rfl) (fun z61 e61 => ?_)
      refine g_aload_n 63 (gd rfl) rfl rfl ?_
      refine g_getA (q2 := 181) 66 (gd rfl) rfl rfl rfl rfl ?_
      refine g_aload_n 67 (gd rfl) rfl rfl ?_
      refine g_getI 70 (gd rfl) rfl rfl rfl (fun z67 e67 => ?_)
      have q67 : u_109_96 = z67 := (sI_F (sI_F (fr_F (e_109_96) hF1 rfl))).trans e67.symm
      subst q67
      refine g_laload 71 (gd rfl) rfl (n := 12) rfl (in_ix ro_109_96 rfl) (fun z70 e70 => ?_)
      refine g_lor 72 (gd rfl) rfl (fun z71 e71 => ?_)
      refine g_lastore 73 (gd rfl) rfl (n := 12) rfl (in_ix ro_109_96 rfl) ?_
      have hI72 := inv_sL (q := 178) (j := u_109_96.toNatClampNeg) (x := z71) hI51 rfl (l_rng z71)
      refine g_aload_n 74 (gd rfl) rfl rfl ?_
      refine g_getA (q2 := 179) 77 (gd rfl) rfl rfl rfl rfl ?_
      refine g_aload_n 78 (gd rfl) rfl rfl ?_
      refine g_getI 81 (gd rfl) rfl rfl rfl (fun z78 e78 => ?_)
      have q78 : u_109_96 = z78 := (sL_F (sI_F (sI_F (fr_F (e_109_96) hF1 rfl)))).trans e78.symm
      subst q78
      refine g_dup2 82 (gd rfl) rfl rfl rfl ?_
      refine g_laload 83 (gd rfl) rfl (n := 12) rfl (in_ix ro_109_96 rfl) (fun z82 e82 => ?_)
      refine g_aload_n 84 (gd rfl) rfl rfl ?_
      refine g_getA (q2 := 182) 87 (gd rfl) rfl rfl rfl rfl ?_
      refine g_aload_n 88 (gd rfl) rfl rfl ?_
      refine g_getI 91 (gd rfl) rfl rfl rfl (fun z88 e88 => ?_)
      have q88 : u_109_96 = z88 := (sL_F (sI_F (sI_F (fr_F (e_109_96) hF1 rfl)))).trans e88.symm
      subst q88
      refine g_laload 92 (gd rfl) rfl (n := 12) rfl (in_ix ro_109_96 rfl) (fun z91 e91 => ?_)
      refine g_lor 93 (gd rfl) rfl (fun z92 e92 => ?_)
      refine g_lastore 94 (gd rfl) rfl (n := 12) rfl (in_ix ro_109_96 rfl) ?_
      have hI93 := inv_sL (q := 179) (j := u_109_96.toNatClampNeg) (x := z92) hI72 rfl (l_rng z92)
      exact g_return (gd rfl) rfl (hP _ _ ⟨(sL (sL (sI (sI s1 176 u_109_96.toNatClampNeg (vp_nar .boolean (Int32.ofInt 1))) 177 u_109_96.toNatClampNeg (vp_nar .boolean (Int32.ofInt 1))) 178 u_109_96.toNatClampNeg z71) 179 u_109_96.toNatClampNeg z92), hI93, (fr_sL rfl (fr_sL rfl (fr_sI rfl (fr_sI rfl (fr_tr rfl fr_rf hF1))))), rfl, rfl⟩)

def fm_390 : FM := ([132, 183], [], [], [])
/-- GraphHouseModel.goOn -/
theorem k_390 {Z : AmZ} {A : Nat → Nat} {s : GS} {ex : va_W} {d : Nat} {X : AmX} {x1 : Int32} {x2 : Int64} {x3 : Int32} {x4 : Int32} (hd : 1 ≤ d) (hI : Inv s) (h1 : In x1 0 319) (h3 : In x3 0 2000) (h4 : In x4 0 2000) (q_0 : QI s (x4).toInt) (q_1 : 0 ≤ (x3).toInt ∧ (x3).toInt ≤ (x4).toInt) : GC Z d 390 [.ref (A 109), .int x1, .long x2, .int x3, .int x4] (WW Z A s ++ ex) 0 0 (fun v u => ∃ t : GS, Inv t ∧ Fr fm_390 s t ∧ ∃ z : Int32, v = some (.int z) ∧ u = WW Z A t ++ ex ∧ In z 0 2000 ∧ (QI t (z).toInt) ∧ ((x4).toInt ≤ (z).toInt) ∧ (∀ i : Nat, (i : Int) < (x4).toInt → t.1 132 i = s.1 132 i)) X := by
  intro post xp hP hX
  obtain ⟨u_109_81, e_109_81⟩ : ∃ w, w = s.2.2.1 109 81 := ⟨_, rfl⟩
  have ro_109_81 := inv_F hI 0 60 rfl e_109_81
  have ct7 : ∀ (k7 : Nat) (sc7 : GS) (y7_6 : Int32) (y7_7 : Int32), Inv sc7 → Fr fm_390 s sc7 → (In y7_6 0 2000) → (In y7_7 0 60) → ((x4).toInt ≤ (y7_6).toInt) → (QI sc7 (y7_6).toInt) → (∀ i : Nat, (i : Int) < (x4).toInt → sc7.1 132 i = s.1 132 i) → 60 - (y7_7).toInt < (k7 : Int) → GG Z (d - 1) 390 post (gx xp) (1 + k7 * 900) 7 (fun j => xlook j [(0, .ref (A 109)), (1, .int x1), (2, .long x2), (4, .int x3), (5, .int x4), (6, .int y7_6), (7, .int y7_7)]) [] (WW Z A sc7 ++ ex) 0 0 := by
    intro k7
    induction k7 with
    | zero => intro sc7 y7_6 y7_7 hIc7 hFc7 j7_6 j7_7 n7_0 g7_0 g7_1 mm7; exact m_no mm7 j7_7 rfl
    | succ k7 ih7 =>
      intro sc7 y7_6 y7_7 hIc7 hFc7 j7_6 j7_7 n7_0 g7_0 g7_1 mm7
      refine gg_w (M := 1 + k7 * 900 + 900) gws ?_
      refine g_iload 9 (gd rfl) rfl rfl ?_
      refine g_aload_n 10 (gd rfl) rfl rfl ?_
      refine g_getI 13 (gd rfl) rfl rfl rfl (fun z10 e10 => ?_)
      have q10 : u_109_81 = z10 := (fr_F e_109_81 hFc7 rfl).trans e10.symm
      subst q10
      refine g_cmp_ge 16 120 (gd rfl) rfl rfl (fun c13 => ?_) (fun c13 => ?_)
      · skip
        refine g_iload 122 (gd rfl) rfl rfl ?_
        have n122 : QI sc7 (y7_6).toInt := by exact g7_0
        have n122a : (x4).toInt ≤ (y7_6).toInt := by first | exact n7_0 | ((first | have a0 := in_u h4 | (have a0 := h4; unfold In at a0)); (first | have a1 := in_u h3 | (have a1 := h3; unfold In at a1)); (first | have a2 := in_u h1 | (have a2 := h1; unfold In at a2)); (first | have a3 := in_u ro_109_81 | (have a3 := ro_109_81; unfold In at a3)); (first | have a4 := in_u j7_7 | (have a4 := j7_7; unfold In at a4)); (first | have a5 := in_u j7_6 | (have a5 := j7_6; unfold In at a5)); omega)
        have n122b : ∀ i : Nat, (i : Int) < (x4).toInt → sc7.1 132 i = s.1 132 i := by exact g7_1
        exact g_ireturn (gd rfl) rfl rfl (hP _ _ ⟨sc7, hIc7, hFc7, y7_6, rfl, rfl, in_w 0 2000 j7_6 rfl, n122, n122a, n122b⟩)
      · skip
        have i13 := r_lt1 0 59 c13 j7_7 ro_109_81 rfl
        have i13a := r_lt2 1 60 c13 j7_7 ro_109_81 rfl
        refine g_lload_n 17 (gd rfl) rfl rfl ?_
        refine g_iload 19 (gd rfl) rfl rfl ?_
        refine g_lshr 20 (gd rfl) rfl (fun z19 e19 => ?_)
        refine g_lconst 1 21 (gd rfl) rfl rfl ?_
        refine g_land 22 (gd rfl) rfl (fun z21 e21 => ?_)
        have i21 := inl_and2 e21 (l_c 1 rfl) rfl
        refine g_lconst 1 23 (gd rfl) rfl rfl ?_
        refine g_lcmp 24 (gd rfl) rfl (fun z23 e23 => ?_)
        have i23 := lc_in e23
        refine g_if_ne 27 59 (gd rfl) rfl rfl (fun c24 => ?_) (fun c24 => ?_)
        · skip
          have c24a := lc_ne e23 c24
          have i24 := lr_ne1 0 0 c24a i21 (l_c 1 rfl) rfl
          refine g_iconst 0 60 (gd rfl) rfl rfl ?_
          refine g_istore 62 (gd rfl) rfl (Nat.le_of_ble_eq_true rfl) ?_
          refine g_bipush 61 64 (gd rfl) rfl rfl ?_
          refine g_aload_n 65 (gd rfl) rfl rfl ?_
          refine g_getA (q2 := 114) 68 (gd rfl) rfl rfl rfl rfl ?_
          refine g_iload_n 69 (gd rfl) rfl rfl ?_
          refine g_iaload 70 (gd rfl) rfl (n := 480) rfl (in_ix h1 rfl) (fun z69 e69 => ?_)
          have i69 := inv_I hIc7 (n := 480) (t := 0) 0 31 rfl (in_ix h1 rfl) rfl e69
          refine g_imul 71 (gd rfl) rfl (fun z70 e70 => ?_)
          have i70 := in_mulc 61 0 1891 (Or.inl e70) i69 rfl rfl
          refine g_iload 73 (gd rfl) rfl rfl ?_
          refine g_iadd 74 (gd rfl) rfl (fun z73 e73 => ?_)
          have i73 := in_add 0 1950 e73 i70 i13 rfl rfl
          refine g_iconst 1 75 (gd rfl) rfl rfl ?_
          refine g_iadd 76 (gd rfl) rfl (fun z75 e75 => ?_)
          have i75 := in_add 1 1951 e75 i73 (in_c 1 rfl) rfl rfl
          refine g_istore 78 (gd rfl) rfl (Nat.le_of_ble_eq_true rfl) ?_
          refine g_iload 80 (gd rfl) rfl rfl ?_
          refine g_if_eq 83 114 (gd rfl) rfl rfl (fun c80 => ?_) (fun c80 => ?_)
          · skip
            first | (have n7q : QI sc7 (y7_6).toInt := (by have hq := q_1; rw [show (y7_6).toInt = y7_6.toInt + 1 from (by (first | have a0 := in_u h4 | (have a0 := h4; unfold In at a0)); (first | have a1 := in_u h3 | (have a1 := h3; unfold In at a1)); (first | have a2 := in_u h1 | (have a2 := h1; unfold In at a2)); (first | have a3 := in_u i13a | (have a3 := i13a; unfold In at a3)); (first | have a4 := in_u i13 | (have a4 := i13; unfold In at a4)); (first | have a5 := in_u j7_6 | (have a5 := j7_6; unfold In at a5)); (first | have a6 := in_u i75 | (have a6 := i75; unfold In at a6)); have a7 := t_add e75 i73 (in_c 1 rfl) rfl; (first | have a8 := in_u ((in_c 1 rfl)) | (have a8 := (in_c 1 rfl); unfold In at a8)); (first | have a9 := in_u i73 | (have a9 := i73; unfold In at a9)); have a10 := t_add e73 i70 i13 rfl; (first | have a11 := in_u i70 | (have a11 := i70; unfold In at a11)); have a12 := (t_mulc 61 (Or.inl e70) i69 rfl).1; (first | have a13 := in_u i69 | (have a13 := i69; unfold In at a13)); (first | have a14 := in_u ((in_c 0 rfl)) | (have a14 := (in_c 0 rfl); unfold In at a14)); omega)]; exact qi_push (m := y7_6.toNatClampNeg) g7_0 (by show ((y7_6.toInt.toNat : Nat) : Int) = _; (first | have a0 := in_u h4 | (have a0 := h4; unfold In at a0)); (first | have a1 := in_u h3 | (have a1 := h3; unfold In at a1)); (first | have a2 := in_u h1 | (have a2 := h1; unfold In at a2)); (first | have a3 := in_u i13a | (have a3 := i13a; unfold In at a3)); (first | have a4 := in_u i13 | (have a4 := i13; unfold In at a4)); (first | have a5 := in_u j7_6 | (have a5 := j7_6; unfold In at a5)); (first | have a6 := in_u i75 | (have a6 := i75; unfold In at a6)); have a7 := t_add e75 i73 (in_c 1 rfl) rfl; (first | have a8 := in_u ((in_c 1 rfl)) | (have a8 := (in_c 1 rfl); unfold In at a8)); (first | have a9 := in_u i73 | (have a9 := i73; unfold In at a9)); have a10 := t_add e73 i70 i13 rfl; (first | have a11 := in_u i70 | (have a11 := i70; unfold In at a11)); have a12 := (t_mulc 61 (Or.inl e70) i69 rfl).1; (first | have a13 := in_u i69 | (have a13 := i69; unfold In at a13)); (first | have a14 := in_u ((in_c 0 rfl)) | (have a14 := (in_c 0 rfl); unfold In at a14)); omega) (by rw [sI_q, sI_p rfl]) (by rw [sI_p rfl, sI_q]) i75 rfl (by rw [← e89]; have hz := i90; unfold In at hz; omega) hq.1 (by (first | have a0 := in_u h4 | (have a0 := h4; unfold In at a0)); (first | have a1 := in_u h3 | (have a1 := h3; unfold In at a1)); (first | have a2 := in_u h1 | (have a2 := h1; unfold In at a2)); (first | have a3 := in_u i13a | (have a3 := i13a; unfold In at a3)); (first | have a4 := in_u i13 | (have a4 := i13; unfold In at a4)); (first | have a5 := in_u j7_6 | (have a5 := j7_6; unfold In at a5)); (first | have a6 := in_u i75 | (have a6 := i75; unfold In at a6)); have a7 := t_add e75 i73 (in_c 1 rfl) rfl; (first | have a8 := in_u ((in_c 1 rfl)) | (have a8 := (in_c 1 rfl); unfold In at a8)); (first | have a9 := in_u i73 | (have a9 := i73; unfold In at a9)); have a10 := t_add e73 i70 i13 rfl; (first | have a11 := in_u i70 | (have a11 := i70; unfold In at a11)); have a12 := (t_mulc 61 (Or.inl e70) i69 rfl).1; (first | have a13 := in_u i69 | (have a13 := i69; unfold In at a13)); (first | have a14 := in_u ((in_c 0 rfl)) | (have a14 := (in_c 0 rfl); unfold In at a14)); omega))) | skip
            refine g_iinc 117 (gd rfl) rfl rfl (Nat.le_of_ble_eq_true rfl) (fun z114 e114 => ?_)
            have i114 := in_add 1 60 e114 i13 (in_c 1 rfl) rfl rfl
            refine g_goto 7 (gd rfl) rfl ?_
            have n7 : (x4).toInt ≤ (y7_6).toInt := by first | exact n7_0 | ((first | have a0 := in_u h4 | (have a0 := h4; unfold In at a0)); (first | have a1 := in_u h3 | (have a1 := h3; unfold In at a1)); (first | have a2 := in_u h1 | (have a2 := h1; unfold In at a2)); (first | have a3 := in_u i13a | (have a3 := i13a; unfold In at a3)); (first | have a4 := in_u i13 | (have a4 := i13; unfold In at a4)); (first | have a5 := in_u j7_6 | (have a5 := j7_6; unfold In at a5)); (first | have a6 := in_u i75 | (have a6 := i75; unfold In at a6)); have a7 := t_add e75 i73 (in_c 1 rfl) rfl; (first | have a8 := in_u ((in_c 1 rfl)) | (have a8 := (in_c 1 rfl); unfold In at a8)); (first | have a9 := in_u i73 | (have a9 := i73; unfold In at a9)); have a10 := t_add e73 i70 i13 rfl; (first | have a11 := in_u i70 | (have a11 := i70; unfold In at a11)); have a12 := (t_mulc 61 (Or.inl e70) i69 rfl).1; (first | have a13 := in_u i69 | (have a13 := i69; unfold In at a13)); (first | have a14 := in_u ((in_c 0 rfl)) | (have a14 := (in_c 0 rfl); unfold In at a14)); (first | have a15 := in_u i114 | (have a15 := i114; unfold In at a15)); have a16 := t_add e114 i13 (in_c 1 rfl) rfl; omega)
            have n7a : QI sc7 (y7_6).toInt := by first | exact q_0 | exact g7_0 | exact n7q
            have n7b : ∀ i : Nat, (i : Int) < (x4).toInt → sc7.1 132 i = s.1 132 i := by first | exact g7_1 | (first | exact fun i hi => rfl | exact g7_1 | (intro i hi; rw [sI_q, sI_p rfl]; unfold upd; have e6 : y7_6.toNatClampNeg = y7_6.toInt.toNat := rfl; rw [if_neg (by (first | have a0 := in_u h4 | (have a0 := h4; unfold In at a0)); (first | have a1 := in_u h3 | (have a1 := h3; unfold In at a1)); (first | have a2 := in_u h1 | (have a2 := h1; unfold In at a2)); (first | have a3 := in_u i13a | (have a3 := i13a; unfold In at a3)); (first | have a4 := in_u i13 | (have a4 := i13; unfold In at a4)); (first | have a5 := in_u j7_6 | (have a5 := j7_6; unfold In at a5)); (first | have a6 := in_u i75 | (have a6 := i75; unfold In at a6)); have a7 := t_add e75 i73 (in_c 1 rfl) rfl; (first | have a8 := in_u ((in_c 1 rfl)) | (have a8 := (in_c 1 rfl); unfold In at a8)); (first | have a9 := in_u i73 | (have a9 := i73; unfold In at a9)); have a10 := t_add e73 i70 i13 rfl; (first | have a11 := in_u i70 | (have a11 := i70; unfold In at a11)); have a12 := (t_mulc 61 (Or.inl e70) i69 rfl).1; (first | have a13 := in_u i69 | (have a13 := i69; unfold In at a13)); (first | have a14 := in_u ((in_c 0 rfl)) | (have a14 := (in_c 0 rfl); unfold In at a14)); (first | have a15 := in_u i114 | (have a15 := i114; unfold In at a15)); have a16 := t_add e114 i13 (in_c 1 rfl) rfl; omega)]; exact g7_1 i hi))
            exact gg_w (by first | exact Nat.le_add_right _ _ | exact gw2 | exact gw3 | exact gwe rfl | exact gwf rfl | exact gwg rfl | exact gwh rfl | omega) (gg_f (gf_cons rfl (gf_cons rfl (gf_cons rfl (gf_cons rfl (gf_cons rfl (gf_cons rfl (gf_cons rfl gf_nil))))))) (ih7 sc7 y7_6 z114 hIc7 hFc7 (in_w 0 2000 j7_6 rfl) (in_w 0 60 i114 rfl) n7 n7a n7b (m_up mm7 (t_add e114 i13 (in_c 1 rfl) rfl) (in_w 1 1 (in_c 1 rfl) rfl))))
          · skip
            exact zn_ne c80 (in_c 0 rfl) rfl
        · skip
          have i24 := z_eq 0 0 c24 i23 rfl
          have c24a := lc_eq e23 c24
          have i24a := lr_eq1 1 1 c24a i21 (l_c 1 rfl) rfl
          refine g_aload_n 28 (gd rfl) rfl rfl ?_
          refine g_getA (q2 := 172) 31 (gd rfl) rfl rfl rfl rfl ?_
          refine g_iload 33 (gd rfl) rfl rfl ?_
          refine g_iaload 34 (gd rfl) rfl (n := 60) rfl (in_ix i13 rfl) (fun z33 e33 => ?_)
          have i33 := inv_I hIc7 (n := 60) (t := 0) 0 26 rfl (in_ix i13 rfl) rfl e33
          refine g_bipush 26 36 (gd rfl) rfl rfl ?_
          refine g_cmp_eq 39 55 (gd rfl) rfl rfl (fun c36 => ?_) (fun c36 => ?_)
          · skip
            have i36 := r_eq1 26 26 c36 i33 (in_c 26 rfl) rfl
            refine g_iconst 1 56 (gd rfl) rfl rfl ?_
            refine g_goto 60 (gd rfl) rfl ?_
            refine g_istore 62 (gd rfl) rfl (Nat.le_of_ble_eq_true rfl) ?_
            refine g_bipush 61 64 (gd rfl) rfl rfl ?_
            refine g_aload_n 65 (gd rfl) rfl rfl ?_
            refine g_getA (q2 := 114) 68 (gd rfl) rfl rfl rfl rfl ?_
            refine g_iload_n 69 (gd rfl) rfl rfl ?_
            refine g_iaload 70 (gd rfl) rfl (n := 480) rfl (in_ix h1 rfl) (fun z69 e69 => ?_)
            have i69 := inv_I hIc7 (n := 480) (t := 0) 0 31 rfl (in_ix h1 rfl) rfl e69
            refine g_imul 71 (gd rfl) rfl (fun z70 e70 => ?_)
            have i70 := in_mulc 61 0 1891 (Or.inl e70) i69 rfl rfl
            refine g_iload 73 (gd rfl) rfl rfl ?_
            refine g_iadd 74 (gd rfl) rfl (fun z73 e73 => ?_)
            have i73 := in_add 0 1950 e73 i70 i13 rfl rfl
            refine g_iconst 1 75 (gd rfl) rfl rfl ?_
            refine g_iadd 76 (gd rfl) rfl (fun z75 e75 => ?_)
            have i75 := in_add 1 1951 e75 i73 (in_c 1 rfl) rfl rfl
            refine g_istore 78 (gd rfl) rfl (Nat.le_of_ble_eq_true rfl) ?_
            refine g_iload 80 (gd rfl) rfl rfl ?_
            refine g_if_eq 83 114 (gd rfl) rfl rfl (fun c80 => ?_) (fun c80 => ?_)
            · skip
              exact zn_eq c80 (in_c 1 rfl) rfl
            · skip
              refine g_aload_n 84 (gd rfl) rfl rfl ?_
              refine g_getA (q2 := 183) 87 (gd rfl) rfl rfl rfl rfl ?_
              refine g_iload 89 (gd rfl) rfl rfl ?_
              refine g_iaload 90 (gd rfl) rfl (n := 2000) rfl (in_ix i75 rfl) (fun z89 e89 => ?_)
              refine g_if_ge 93 114 (gd rfl) rfl rfl (fun c90 => ?_) (fun c90 => ?_)
              · skip
                have i90 := z_ge 0 2147483647 c90 (i_rng z89) rfl
                first | (have n7q : QI sc7 (y7_6).toInt := (by have hq := q_1; rw [show (y7_6).toInt = y7_6.toInt + 1 from (by (first | have a0 := in_u h4 | (have a0 := h4; unfold In at a0)); (first | have a1 := in_u h3 | (have a1 := h3; unfold In at a1)); (first | have a2 := in_u h1 | (have a2 := h1; unfold In at a2)); (first | have a3 := in_u i13a | (have a3 := i13a; unfold In at a3)); (first | have a4 := in_u i13 | (have a4 := i13; unfold In at a4)); (first | have a5 := in_u j7_6 | (have a5 := j7_6; unfold In at a5)); (first | have a6 := in_u i75 | (have a6 := i75; unfold In at a6)); have a7 := t_add e75 i73 (in_c 1 rfl) rfl; (first | have a8 := in_u ((in_c 1 rfl)) | (have a8 := (in_c 1 rfl); unfold In at a8)); (first | have a9 := in_u i73 | (have a9 := i73; unfold In at a9)); have a10 := t_add e73 i70 i13 rfl; (first | have a11 := in_u i70 | (have a11 := i70; unfold In at a11)); have a12 := (t_mulc 61 (Or.inl e70) i69 rfl).1; (first | have a13 := in_u i69 | (have a13 := i69; unfold In at a13)); omega)]; exact qi_push (m := y7_6.toNatClampNeg) g7_0 (by show ((y7_6.toInt.toNat : Nat) : Int) = _; (first | have a0 := in_u h4 | (have a0 := h4; unfold In at a0)); (first | have a1 := in_u h3 | (have a1 := h3; unfold In at a1)); (first | have a2 := in_u h1 | (have a2 := h1; unfold In at a2)); (first | have a3 := in_u i13a | (have a3 := i13a; unfold In at a3)); (first | have a4 := in_u i13 | (have a4 := i13; unfold In at a4)); (first | have a5 := in_u j7_6 | (have a5 := j7_6; unfold In at a5)); (first | have a6 := in_u i75 | (have a6 := i75; unfold In at a6)); have a7 := t_add e75 i73 (in_c 1 rfl) rfl; (first | have a8 := in_u ((in_c 1 rfl)) | (have a8 := (in_c 1 rfl); unfold In at a8)); (first | have a9 := in_u i73 | (have a9 := i73; unfold In at a9)); have a10 := t_add e73 i70 i13 rfl; (first | have a11 := in_u i70 | (have a11 := i70; unfold In at a11)); have a12 := (t_mulc 61 (Or.inl e70) i69 rfl).1; (first | have a13 := in_u i69 | (have a13 := i69; unfold In at a13)); omega) (by rw [sI_q, sI_p rfl]) (by rw [sI_p rfl, sI_q]) i75 rfl (by rw [← e89]; have hz := i90; unfold In at hz; omega) hq.1 (by (first | have a0 := in_u h4 | (have a0 := h4; unfold In at a0)); (first | have a1 := in_u h3 | (have a1 := h3; unfold In at a1)); (first | have a2 := in_u h1 | (have a2 := h1; unfold In at a2)); (first | have a3 := in_u i13a | (have a3 := i13a; unfold In at a3)); (first | have a4 := in_u i13 | (have a4 := i13; unfold In at a4)); (first | have a5 := in_u j7_6 | (have a5 := j7_6; unfold In at a5)); (first | have a6 := in_u i75 | (have a6 := i75; unfold In at a6)); have a7 := t_add e75 i73 (in_c 1 rfl) rfl; (first | have a8 := in_u ((in_c 1 rfl)) | (have a8 := (in_c 1 rfl); unfold In at a8)); (first | have a9 := in_u i73 | (have a9 := i73; unfold In at a9)); have a10 := t_add e73 i70 i13 rfl; (first | have a11 := in_u i70 | (have a11 := i70; unfold In at a11)); have a12 := (t_mulc 61 (Or.inl e70) i69 rfl).1; (first | have a13 := in_u i69 | (have a13 := i69; unfold In at a13)); omega))) | skip
                refine g_iinc 117 (gd rfl) rfl rfl (Nat.le_of_ble_eq_true rfl) (fun z114 e114 => ?_)
                have i114 := in_add 1 60 e114 i13 (in_c 1 rfl) rfl rfl
                refine g_goto 7 (gd rfl) rfl ?_
                have n7 : (x4).toInt ≤ (y7_6).toInt := by first | exact n7_0 | ((first | have a0 := in_u h4 | (have a0 := h4; unfold In at a0)); (first | have a1 := in_u h3 | (have a1 := h3; unfold In at a1)); (first | have a2 := in_u h1 | (have a2 := h1; unfold In at a2)); (first | have a3 := in_u i13a | (have a3 := i13a; unfold In at a3)); (first | have a4 := in_u i13 | (have a4 := i13; unfold In at a4)); (first | have a5 := in_u j7_6 | (have a5 := j7_6; unfold In at a5)); (first | have a6 := in_u i75 | (have a6 := i75; unfold In at a6)); have a7 := t_add e75 i73 (in_c 1 rfl) rfl; (first | have a8 := in_u ((in_c 1 rfl)) | (have a8 := (in_c 1 rfl); unfold In at a8)); (first | have a9 := in_u i73 | (have a9 := i73; unfold In at a9)); have a10 := t_add e73 i70 i13 rfl; (first | have a11 := in_u i70 | (have a11 := i70; unfold In at a11)); have a12 := (t_mulc 61 (Or.inl e70) i69 rfl).1; (first | have a13 := in_u i69 | (have a13 := i69; unfold In at a13)); (first | have a14 := in_u i114 | (have a14 := i114; unfold In at a14)); have a15 := t_add e114 i13 (in_c 1 rfl) rfl; omega)
                have n7a : QI sc7 (y7_6).toInt := by first | exact q_0 | exact g7_0 | exact n7q
                have n7b : ∀ i : Nat, (i : Int) < (x4).toInt → sc7.1 132 i = s.1 132 i := by first | exact g7_1 | (first | exact fun i hi => rfl | exact g7_1 | (intro i hi; rw [sI_q, sI_p rfl]; unfold upd; have e6 : y7_6.toNatClampNeg = y7_6.toInt.toNat := rfl; rw [if_neg (by (first | have a0 := in_u h4 | (have a0 := h4; unfold In at a0)); (first | have a1 := in_u h3 | (have a1 := h3; unfold In at a1)); (first | have a2 := in_u h1 | (have a2 := h1; unfold In at a2)); (first | have a3 := in_u i13a | (have a3 := i13a; unfold In at a3)); (first | have a4 := in_u i13 | (have a4 := i13; unfold In at a4)); (first | have a5 := in_u j7_6 | (have a5 := j7_6; unfold In at a5)); (first | have a6 := in_u i75 | (have a6 := i75; unfold In at a6)); have a7 := t_add e75 i73 (in_c 1 rfl) rfl; (first | have a8 := in_u ((in_c 1 rfl)) | (have a8 := (in_c 1 rfl); unfold In at a8)); (first | have a9 := in_u i73 | (have a9 := i73; unfold In at a9)); have a10 := t_add e73 i70 i13 rfl; (first | have a11 := in_u i70 | (have a11 := i70; unfold In at a11)); have a12 := (t_mulc 61 (Or.inl e70) i69 rfl).1; (first | have a13 := in_u i69 | (have a13 := i69; unfold In at a13)); (first | have a14 := in_u i114 | (have a14 := i114; unfold In at a14)); have a15 := t_add e114 i13 (in_c 1 rfl) rfl; omega)]; exact g7_1 i hi))
                exact gg_w (by first | exact Nat.le_add_right _ _ | exact gw2 | exact gw3 | exact gwe rfl | exact gwf rfl | exact gwg rfl | exact gwh rfl | omega) (gg_f (gf_cons rfl (gf_cons rfl (gf_cons rfl (gf_cons rfl (gf_cons rfl (gf_cons rfl (gf_cons rfl gf_nil))))))) (ih7 sc7 y7_6 z114 hIc7 hFc7 (in_w 0 2000 j7_6 rfl) (in_w 0 60 i114 rfl) n7 n7a n7b (m_up mm7 (t_add e114 i13 (in_c 1 rfl) rfl) (in_w 1 1 (in_c 1 rfl) rfl))))
              · skip
                have i90 := z_lt (-2147483648) (-1) c90 (i_rng z89) rfl
                refine g_aload_n 94 (gd rfl) rfl rfl ?_
                refine g_getA (q2 := 183) 97 (gd rfl) rfl rfl rfl rfl ?_
                refine g_iload 99 (gd rfl) rfl rfl ?_
                refine g_iload 101 (gd rfl) rfl rfl ?_
                refine g_iastore 102 (gd rfl) rfl (n := 2000) rfl (in_ix i75 rfl) ?_
                have hI101 := inv_sI (q := 183) (j := z75.toNatClampNeg) hIc7 rfl (in_w (-2147483648) 2147483647 h3 rfl)
                refine g_aload_n 103 (gd rfl) rfl rfl ?_
                refine g_getA (q2 := 132) 106 (gd rfl) rfl rfl rfl rfl ?_
                refine g_iload 108 (gd rfl) rfl rfl ?_
                refine g_iload 110 (gd rfl) rfl rfl ?_
                refine g_iastore 111 (gd rfl) rfl (n := 4000) rfl (in_ix j7_6 rfl) ?_
                have hI110 := inv_sI (q := 132) (j := y7_6.toNatClampNeg) hI101 rfl (in_w 0 1951 i75 rfl)
                refine g_iinc 114 (gd rfl) rfl rfl (Nat.le_of_ble_eq_true rfl) (fun z111 e111 => ?_)
                have i111 := in_add 1 2001 e111 j7_6 (in_c 1 rfl) rfl rfl
                first | (have n7q : QI (sI (sI sc7 183 z75.toNatClampNeg x3) 132 y7_6.toNatClampNeg z75) (z111).toInt := (by have hq := q_1; rw [show (z111).toInt = y7_6.toInt + 1 from (by (first | have a0 := in_u h4 | (have a0 := h4; unfold In at a0)); (first | have a1 := in_u h3 | (have a1 := h3; unfold In at a1)); (first | have a2 := in_u h1 | (have a2 := h1; unfold In at a2)); (first | have a3 := in_u i13a | (have a3 := i13a; unfold In at a3)); (first | have a4 := in_u i13 | (have a4 := i13; unfold In at a4)); (first | have a5 := in_u j7_6 | (have a5 := j7_6; unfold In at a5)); (first | have a6 := in_u i75 | (have a6 := i75; unfold In at a6)); have a7 := t_add e75 i73 (in_c 1 rfl) rfl; (first | have a8 := in_u ((in_c 1 rfl)) | (have a8 := (in_c 1 rfl); unfold In at a8)); (first | have a9 := in_u i73 | (have a9 := i73; unfold In at a9)); have a10 := t_add e73 i70 i13 rfl; (first | have a11 := in_u i70 | (have a11 := i70; unfold In at a11)); have a12 := (t_mulc 61 (Or.inl e70) i69 rfl).1; (first | have a13 := in_u i69 | (have a13 := i69; unfold In at a13)); (first | have a14 := in_u i111 | (have a14 := i111; unfold In at a14)); have a15 := t_add e111 j7_6 (in_c 1 rfl) rfl; omega)]; exact qi_push (m := y7_6.toNatClampNeg) g7_0 (by show ((y7_6.toInt.toNat : Nat) : Int) = _; (first | have a0 := in_u h4 | (have a0 := h4; unfold In at a0)); (first | have a1 := in_u h3 | (have a1 := h3; unfold In at a1)); (first | have a2 := in_u h1 | (have a2 := h1; unfold In at a2)); (first | have a3 := in_u i13a | (have a3 := i13a; unfold In at a3)); (first | have a4 := in_u i13 | (have a4 := i13; unfold In at a4)); (first | have a5 := in_u j7_6 | (have a5 := j7_6; unfold In at a5)); (first | have a6 := in_u i75 | (have a6 := i75; unfold In at a6)); have a7 := t_add e75 i73 (in_c 1 rfl) rfl; (first | have a8 := in_u ((in_c 1 rfl)) | (have a8 := (in_c 1 rfl); unfold In at a8)); (first | have a9 := in_u i73 | (have a9 := i73; unfold In at a9)); have a10 := t_add e73 i70 i13 rfl; (first | have a11 := in_u i70 | (have a11 := i70; unfold In at a11)); have a12 := (t_mulc 61 (Or.inl e70) i69 rfl).1; (first | have a13 := in_u i69 | (have a13 := i69; unfold In at a13)); (first | have a14 := in_u i111 | (have a14 := i111; unfold In at a14)); have a15 := t_add e111 j7_6 (in_c 1 rfl) rfl; omega) (by rw [sI_q, sI_p rfl]) (by rw [sI_p rfl, sI_q]) i75 rfl (by rw [← e89]; have hz := i90; unfold In at hz; omega) hq.1 (by (first | have a0 := in_u h4 | (have a0 := h4; unfold In at a0)); (first | have a1 := in_u h3 | (have a1 := h3; unfold In at a1)); (first | have a2 := in_u h1 | (have a2 := h1; unfold In at a2)); (first | have a3 := in_u i13a | (have a3 := i13a; unfold In at a3)); (first | have a4 := in_u i13 | (have a4 := i13; unfold In at a4)); (first | have a5 := in_u j7_6 | (have a5 := j7_6; unfold In at a5)); (first | have a6 := in_u i75 | (have a6 := i75; unfold In at a6)); have a7 := t_add e75 i73 (in_c 1 rfl) rfl; (first | have a8 := in_u ((in_c 1 rfl)) | (have a8 := (in_c 1 rfl); unfold In at a8)); (first | have a9 := in_u i73 | (have a9 := i73; unfold In at a9)); have a10 := t_add e73 i70 i13 rfl; (first | have a11 := in_u i70 | (have a11 := i70; unfold In at a11)); have a12 := (t_mulc 61 (Or.inl e70) i69 rfl).1; (first | have a13 := in_u i69 | (have a13 := i69; unfold In at a13)); (first | have a14 := in_u i111 | (have a14 := i111; unfold In at a14)); have a15 := t_add e111 j7_6 (in_c 1 rfl) rfl; omega))) | skip
                refine g_iinc 117 (gd rfl) rfl rfl (Nat.le_of_ble_eq_true rfl) (fun z114 e114 => ?_)
                have i114 := in_add 1 60 e114 i13 (in_c 1 rfl) rfl rfl
                refine g_goto 7 (gd rfl) rfl ?_
                have i7 : In z111 0 2000 := by first | (have hq := qi_le n7q; exact ⟨by (first | have a0 := in_u h4 | (have a0 := h4; unfold In at a0)); (first | have a1 := in_u h3 | (have a1 := h3; unfold In at a1)); (first | have a2 := in_u h1 | (have a2 := h1; unfold In at a2)); (first | have a3 := in_u i13a | (have a3 := i13a; unfold In at a3)); (first | have a4 := in_u i13 | (have a4 := i13; unfold In at a4)); (first | have a5 := in_u j7_6 | (have a5 := j7_6; unfold In at a5)); (first | have a6 := in_u i75 | (have a6 := i75; unfold In at a6)); have a7 := t_add e75 i73 (in_c 1 rfl) rfl; (first | have a8 := in_u ((in_c 1 rfl)) | (have a8 := (in_c 1 rfl); unfold In at a8)); (first | have a9 := in_u i73 | (have a9 := i73; unfold In at a9)); have a10 := t_add e73 i70 i13 rfl; (first | have a11 := in_u i70 | (have a11 := i70; unfold In at a11)); have a12 := (t_mulc 61 (Or.inl e70) i69 rfl).1; (first | have a13 := in_u i69 | (have a13 := i69; unfold In at a13)); (first | have a14 := in_u i114 | (have a14 := i114; unfold In at a14)); have a15 := t_add e114 i13 (in_c 1 rfl) rfl; (first | have a16 := in_u i111 | (have a16 := i111; unfold In at a16)); have a17 := t_add e111 j7_6 (in_c 1 rfl) rfl; omega, by (first | have a0 := in_u h4 | (have a0 := h4; unfold In at a0)); (first | have a1 := in_u h3 | (have a1 := h3; unfold In at a1)); (first | have a2 := in_u h1 | (have a2 := h1; unfold In at a2)); (first | have a3 := in_u i13a | (have a3 := i13a; unfold In at a3)); (first | have a4 := in_u i13 | (have a4 := i13; unfold In at a4)); (first | have a5 := in_u j7_6 | (have a5 := j7_6; unfold In at a5)); (first | have a6 := in_u i75 | (have a6 := i75; unfold In at a6)); have a7 := t_add e75 i73 (in_c 1 rfl) rfl; (first | have a8 := in_u ((in_c 1 rfl)) | (have a8 := (in_c 1 rfl); unfold In at a8)); (first | have a9 := in_u i73 | (have a9 := i73; unfold In at a9)); have a10 := t_add e73 i70 i13 rfl; (first | have a11 := in_u i70 | (have a11 := i70; unfold In at a11)); have a12 := (t_mulc 61 (Or.inl e70) i69 rfl).1; (first | have a13 := in_u i69 | (have a13 := i69; unfold In at a13)); (first | have a14 := in_u i114 | (have a14 := i114; unfold In at a14)); have a15 := t_add e114 i13 (in_c 1 rfl) rfl; (first | have a16 := in_u i111 | (have a16 := i111; unfold In at a16)); have a17 := t_add e111 j7_6 (in_c 1 rfl) rfl; omega⟩) | (have hq := qi_le q_0; exact ⟨by (first | have a0 := in_u h4 | (have a0 := h4; unfold In at a0)); (first | have a1 := in_u h3 | (have a1 := h3; unfold In at a1)); (first | have a2 := in_u h1 | (have a2 := h1; unfold In at a2)); (first | have a3 := in_u i13a | (have a3 := i13a; unfold In at a3)); (first | have a4 := in_u i13 | (have a4 := i13; unfold In at a4)); (first | have a5 := in_u j7_6 | (have a5 := j7_6; unfold In at a5)); (first | have a6 := in_u i75 | (have a6 := i75; unfold In at a6)); have a7 := t_add e75 i73 (in_c 1 rfl) rfl; (first | have a8 := in_u ((in_c 1 rfl)) | (have a8 := (in_c 1 rfl); unfold In at a8)); (first | have a9 := in_u i73 | (have a9 := i73; unfold In at a9)); have a10 := t_add e73 i70 i13 rfl; (first | have a11 := in_u i70 | (have a11 := i70; unfold In at a11)); have a12 := (t_mulc 61 (Or.inl e70) i69 rfl).1; (first | have a13 := in_u i69 | (have a13 := i69; unfold In at a13)); (first | have a14 := in_u i114 | (have a14 := i114; unfold In at a14)); have a15 := t_add e114 i13 (in_c 1 rfl) rfl; (first | have a16 := in_u i111 | (have a16 := i111; unfold In at a16)); have a17 := t_add e111 j7_6 (in_c 1 rfl) rfl; omega, by (first | have a0 := in_u h4 | (have a0 := h4; unfold In at a0)); (first | have a1 := in_u h3 | (have a1 := h3; unfold In at a1)); (first | have a2 := in_u h1 | (have a2 := h1; unfold In at a2)); (first | have a3 := in_u i13a | (have a3 := i13a; unfold In at a3)); (first | have a4 := in_u i13 | (have a4 := i13; unfold In at a4)); (first | have a5 := in_u j7_6 | (have a5 := j7_6; unfold In at a5)); (first | have a6 := in_u i75 | (have a6 := i75; unfold In at a6)); have a7 := t_add e75 i73 (in_c 1 rfl) rfl; (first | have a8 := in_u ((in_c 1 rfl)) | (have a8 := (in_c 1 rfl); unfold In at a8)); (first | have a9 := in_u i73 | (have a9 := i73; unfold In at a9)); have a10 := t_add e73 i70 i13 rfl; (first | have a11 := in_u i70 | (have a11 := i70; unfold In at a11)); have a12 := (t_mulc 61 (Or.inl e70) i69 rfl).1; (first | have a13 := in_u i69 | (have a13 := i69; unfold In at a13)); (first | have a14 := in_u i114 | (have a14 := i114; unfold In at a14)); have a15 := t_add e114 i13 (in_c 1 rfl) rfl; (first | have a16 := in_u i111 | (have a16 := i111; unfold In at a16)); have a17 := t_add e111 j7_6 (in_c 1 rfl) rfl; omega⟩)
                have n7 : (x4).toInt ≤ (z111).toInt := by (first | have a0 := in_u h4 | (have a0 := h4; unfold In at a0)); (first | have a1 := in_u h3 | (have a1 := h3; unfold In at a1)); (first | have a2 := in_u h1 | (have a2 := h1; unfold In at a2)); (first | have a3 := in_u i13a | (have a3 := i13a; unfold In at a3)); (first | have a4 := in_u i13 | (have a4 := i13; unfold In at a4)); (first | have a5 := in_u j7_6 | (have a5 := j7_6; unfold In at a5)); (first | have a6 := in_u i75 | (have a6 := i75; unfold In at a6)); have a7 := t_add e75 i73 (in_c 1 rfl) rfl; (first | have a8 := in_u ((in_c 1 rfl)) | (have a8 := (in_c 1 rfl); unfold In at a8)); (first | have a9 := in_u i73 | (have a9 := i73; unfold In at a9)); have a10 := t_add e73 i70 i13 rfl; (first | have a11 := in_u i70 | (have a11 := i70; unfold In at a11)); have a12 := (t_mulc 61 (Or.inl e70) i69 rfl).1; (first | have a13 := in_u i69 | (have a13 := i69; unfold In at a13)); (first | have a14 := in_u i114 | (have a14 := i114; unfold In at a14)); have a15 := t_add e114 i13 (in_c 1 rfl) rfl; (first | have a16 := in_u i7 | (have a16 := i7; unfold In at a16)); have a17 := t_add e111 j7_6 (in_c 1 rfl) rfl; omega
                have n7a : QI (sI (sI sc7 183 z75.toNatClampNeg x3) 132 y7_6.toNatClampNeg z75) (z111).toInt := by first | exact q_0 | exact g7_0 | exact n7q
                have n7b : ∀ i : Nat, (i : Int) < (x4).toInt → (sI (sI sc7 183 z75.toNatClampNeg x3) 132 y7_6.toNatClampNeg z75).1 132 i = s.1 132 i := by first | exact fun i hi => rfl | exact g7_1 | (intro i hi; rw [sI_q, sI_p rfl]; unfold upd; have e6 : y7_6.toNatClampNeg = y7_6.toInt.toNat := rfl; rw [if_neg (by (first | have a0 := in_u h4 | (have a0 := h4; unfold In at a0)); (first | have a1 := in_u h3 | (have a1 := h3; unfold In at a1)); (first | have a2 := in_u h1 | (have a2 := h1; unfold In at a2)); (first | have a3 := in_u i13a | (have a3 := i13a; unfold In at a3)); (first | have a4 := in_u i13 | (have a4 := i13; unfold In at a4)); (first | have a5 := in_u j7_6 | (have a5 := j7_6; unfold In at a5)); (first | have a6 := in_u i75 | (have a6 := i75; unfold In at a6)); have a7 := t_add e75 i73 (in_c 1 rfl) rfl; (first | have a8 := in_u ((in_c 1 rfl)) | (have a8 := (in_c 1 rfl); unfold In at a8)); (first | have a9 := in_u i73 | (have a9 := i73; unfold In at a9)); have a10 := t_add e73 i70 i13 rfl; (first | have a11 := in_u i70 | (have a11 := i70; unfold In at a11)); have a12 := (t_mulc 61 (Or.inl e70) i69 rfl).1; (first | have a13 := in_u i69 | (have a13 := i69; unfold In at a13)); (first | have a14 := in_u i114 | (have a14 := i114; unfold In at a14)); have a15 := t_add e114 i13 (in_c 1 rfl) rfl; (first | have a16 := in_u i7 | (have a16 := i7; unfold In at a16)); have a17 := t_add e111 j7_6 (in_c 1 rfl) rfl; omega)]; exact g7_1 i hi)
                exact gg_w (by first | exact Nat.le_add_right _ _ | exact gw2 | exact gw3 | exact gwe rfl | exact gwf rfl | exact gwg rfl | exact gwh rfl | omega) (gg_f (gf_cons rfl (gf_cons rfl (gf_cons rfl (gf_cons rfl (gf_cons rfl (gf_cons rfl (gf_cons rfl gf_nil))))))) (ih7 (sI (sI sc7 183 z75.toNatClampNeg x3) 132 y7_6.toNatClampNeg z75) z111 z114 hI110 (fr_sI rfl (fr_sI rfl hFc7)) i7 (in_w 0 60 i114 rfl) n7 n7a n7b (m_up mm7 (t_add e114 i13 (in_c 1 rfl) rfl) (in_w 1 1 (in_c 1 rfl) rfl))))
          · skip
            have i36 := r_ne1 0 25 c36 i33 (in_c 26 rfl) rfl
            refine g_aload_n 40 (gd rfl) rfl rfl ?_
            refine g_getA (q2 := 172) 43 (gd rfl) rfl rfl rfl rfl ?_
            refine g_iload 45 (gd rfl) rfl rfl ?_
            refine g_iaload 46 (gd rfl) rfl (n := 60) rfl (in_ix i13 rfl) (fun z45 e45 => ?_)
            have q45 : z33 = z45 := (e33).trans e45.symm
            subst q45
            refine g_aload_n 47 (gd rfl) rfl rfl ?_
            refine g_getA (q2 := 117) 50 (gd rfl) rfl rfl rfl rfl ?_
            refine g_iload_n 51 (gd rfl) rfl rfl ?_
            refine g_iaload 52 (gd rfl) rfl (n := 480) rfl (in_ix h1 rfl) (fun z51 e51 => ?_)
            have i51 := inv_I hIc7 (n := 480) (t := 0) 0 25 rfl (in_ix h1 rfl) rfl e51
            refine g_cmp_ne 55 59 (gd rfl) rfl rfl (fun c52 => ?_) (fun c52 => ?_)
            · skip
              refine g_iconst 0 60 (gd rfl) rfl rfl ?_
              refine g_istore 62 (gd rfl) rfl (Nat.le_of_ble_eq_true rfl) ?_
              refine g_bipush 61 64 (gd rfl) rfl rfl ?_
              refine g_aload_n 65 (gd rfl) rfl rfl ?_
              refine g_getA (q2 := 114) 68 (gd rfl) rfl rfl rfl rfl ?_
              refine g_iload_n 69 (gd rfl) rfl rfl ?_
              refine g_iaload 70 (gd rfl) rfl (n := 480) rfl (in_ix h1 rfl) (fun z69 e69 => ?_)
              have i69 := inv_I hIc7 (n := 480) (t := 0) 0 31 rfl (in_ix h1 rfl) rfl e69
              refine g_imul 71 (gd rfl) rfl (fun z70 e70 => ?_)
              have i70 := in_mulc 61 0 1891 (Or.inl e70) i69 rfl rfl
              refine g_iload 73 (gd rfl) rfl rfl ?_
              refine g_iadd 74 (gd rfl) rfl (fun z73 e73 => ?_)
              have i73 := in_add 0 1950 e73 i70 i13 rfl rfl
              refine g_iconst 1 75 (gd rfl) rfl rfl ?_
              refine g_iadd 76 (gd rfl) rfl (fun z75 e75 => ?_)
              have i75 := in_add 1 1951 e75 i73 (in_c 1 rfl) rfl rfl
              refine g_istore 78 (gd rfl) rfl (Nat.le_of_ble_eq_true rfl) ?_
              refine g_iload 80 (gd rfl) rfl rfl ?_
              refine g_if_eq 83 114 (gd rfl) rfl rfl (fun c80 => ?_) (fun c80 => ?_)
              · skip
                first | (have n7q : QI sc7 (y7_6).toInt := (by have hq := q_1; rw [show (y7_6).toInt = y7_6.toInt + 1 from (by (first | have a0 := in_u h4 | (have a0 := h4; unfold In at a0)); (first | have a1 := in_u h3 | (have a1 := h3; unfold In at a1)); (first | have a2 := in_u h1 | (have a2 := h1; unfold In at a2)); (first | have a3 := in_u i13a | (have a3 := i13a; unfold In at a3)); (first | have a4 := in_u i13 | (have a4 := i13; unfold In at a4)); (first | have a5 := in_u j7_6 | (have a5 := j7_6; unfold In at a5)); (first | have a6 := in_u i75 | (have a6 := i75; unfold In at a6)); have a7 := t_add e75 i73 (in_c 1 rfl) rfl; (first | have a8 := in_u ((in_c 1 rfl)) | (have a8 := (in_c 1 rfl); unfold In at a8)); (first | have a9 := in_u i73 | (have a9 := i73; unfold In at a9)); have a10 := t_add e73 i70 i13 rfl; (first | have a11 := in_u i70 | (have a11 := i70; unfold In at a11)); have a12 := (t_mulc 61 (Or.inl e70) i69 rfl).1; (first | have a13 := in_u i69 | (have a13 := i69; unfold In at a13)); (first | have a14 := in_u ((in_c 0 rfl)) | (have a14 := (in_c 0 rfl); unfold In at a14)); omega)]; exact qi_push (m := y7_6.toNatClampNeg) g7_0 (by show ((y7_6.toInt.toNat : Nat) : Int) = _; (first | have a0 := in_u h4 | (have a0 := h4; unfold In at a0)); (first | have a1 := in_u h3 | (have a1 := h3; unfold In at a1)); (first | have a2 := in_u h1 | (have a2 := h1; unfold In at a2)); (first | have a3 := in_u i13a | (have a3 := i13a; unfold In at a3)); (first | have a4 := in_u i13 | (have a4 := i13; unfold In at a4)); (first | have a5 := in_u j7_6 | (have a5 := j7_6; unfold In at a5)); (first | have a6 := in_u i75 | (have a6 := i75; unfold In at a6)); have a7 := t_add e75 i73 (in_c 1 rfl) rfl; (first | have a8 := in_u ((in_c 1 rfl)) | (have a8 := (in_c 1 rfl); unfold In at a8)); (first | have a9 := in_u i73 | (have a9 := i73; unfold In at a9)); have a10 := t_add e73 i70 i13 rfl; (first | have a11 := in_u i70 | (have a11 := i70; unfold In at a11)); have a12 := (t_mulc 61 (Or.inl e70) i69 rfl).1; (first | have a13 := in_u i69 | (have a13 := i69; unfold In at a13)); (first | have a14 := in_u ((in_c 0 rfl)) | (have a14 := (in_c 0 rfl); unfold In at a14)); omega) (by rw [sI_q, sI_p rfl]) (by rw [sI_p rfl, sI_q]) i75 rfl (by rw [← e89]; have hz := i90; unfold In at hz; omega) hq.1 (by (first | have a0 := in_u h4 | (have a0 := h4; unfold In at a0)); (first | have a1 := in_u h3 | (have a1 := h3; unfold In at a1)); (first | have a2 := in_u h1 | (have a2 := h1; unfold In at a2)); (first | have a3 := in_u i13a | (have a3 := i13a; unfold In at a3)); (first | have a4 := in_u i13 | (have a4 := i13; unfold In at a4)); (first | have a5 := in_u j7_6 | (have a5 := j7_6; unfold In at a5)); (first | have a6 := in_u i75 | (have a6 := i75; unfold In at a6)); have a7 := t_add e75 i73 (in_c 1 rfl) rfl; (first | have a8 := in_u ((in_c 1 rfl)) | (have a8 := (in_c 1 rfl); unfold In at a8)); (first | have a9 := in_u i73 | (have a9 := i73; unfold In at a9)); have a10 := t_add e73 i70 i13 rfl; (first | have a11 := in_u i70 | (have a11 := i70; unfold In at a11)); have a12 := (t_mulc 61 (Or.inl e70) i69 rfl).1; (first | have a13 := in_u i69 | (have a13 := i69; unfold In at a13)); (first | have a14 := in_u ((in_c 0 rfl)) | (have a14 := (in_c 0 rfl); unfold In at a14)); omega))) | skip
                refine g_iinc 117 (gd rfl) rfl rfl (Nat.le_of_ble_eq_true rfl) (fun z114 e114 => ?_)
                have i114 := in_add 1 60 e114 i13 (in_c 1 rfl) rfl rfl
                refine g_goto 7 (gd rfl) rfl ?_
                have n7 : (x4).toInt ≤ (y7_6).toInt := by first | exact n7_0 | ((first | have a0 := in_u h4 | (have a0 := h4; unfold In at a0)); (first | have a1 := in_u h3 | (have a1 := h3; unfold In at a1)); (first | have a2 := in_u h1 | (have a2 := h1; unfold In at a2)); (first | have a3 := in_u i13a | (have a3 := i13a; unfold In at a3)); (first | have a4 := in_u i13 | (have a4 := i13; unfold In at a4)); (first | have a5 := in_u j7_6 | (have a5 := j7_6; unfold In at a5)); (first | have a6 := in_u i75 | (have a6 := i75; unfold In at a6)); have a7 := t_add e75 i73 (in_c 1 rfl) rfl; (first | have a8 := in_u ((in_c 1 rfl)) | (have a8 := (in_c 1 rfl); unfold In at a8)); (first | have a9 := in_u i73 | (have a9 := i73; unfold In at a9)); have a10 := t_add e73 i70 i13 rfl; (first | have a11 := in_u i70 | (have a11 := i70; unfold In at a11)); have a12 := (t_mulc 61 (Or.inl e70) i69 rfl).1; (first | have a13 := in_u i69 | (have a13 := i69; unfold In at a13)); (first | have a14 := in_u ((in_c 0 rfl)) | (have a14 := (in_c 0 rfl); unfold In at a14)); (first | have a15 := in_u i114 | (have a15 := i114; unfold In at a15)); have a16 := t_add e114 i13 (in_c 1 rfl) rfl; omega)
                have n7a : QI sc7 (y7_6).toInt := by first | exact q_0 | exact g7_0 | exact n7q
                have n7b : ∀ i : Nat, (i : Int) < (x4).toInt → sc7.1 132 i = s.1 132 i := by first | exact g7_1 | (first | exact fun i hi => rfl | exact g7_1 | (intro i hi; rw [sI_q, sI_p rfl]; unfold upd; have e6 : y7_6.toNatClampNeg = y7_6.toInt.toNat := rfl; rw [if_neg (by (first | have a0 := in_u h4 | (have a0 := h4; unfold In at a0)); (first | have a1 := in_u h3 | (have a1 := h3; unfold In at a1)); (first | have a2 := in_u h1 | (have a2 := h1; unfold In at a2)); (first | have a3 := in_u i13a | (have a3 := i13a; unfold In at a3)); (first | have a4 := in_u i13 | (have a4 := i13; unfold In at a4)); (first | have a5 := in_u j7_6 | (have a5 := j7_6; unfold In at a5)); (first | have a6 := in_u i75 | (have a6 := i75; unfold In at a6)); have a7 := t_add e75 i73 (in_c 1 rfl) rfl; (first | have a8 := in_u ((in_c 1 rfl)) | (have a8 := (in_c 1 rfl); unfold In at a8)); (first | have a9 := in_u i73 | (have a9 := i73; unfold In at a9)); have a10 := t_add e73 i70 i13 rfl; (first | have a11 := in_u i70 | (have a11 := i70; unfold In at a11)); have a12 := (t_mulc 61 (Or.inl e70) i69 rfl).1; (first | have a13 := in_u i69 | (have a13 := i69; unfold In at a13)); (first | have a14 := in_u ((in_c 0 rfl)) | (have a14 := (in_c 0 rfl); unfold In at a14)); (first | have a15 := in_u i114 | (have a15 := i114; unfold In at a15)); have a16 := t_add e114 i13 (in_c 1 rfl) rfl; omega)]; exact g7_1 i hi))
                exact gg_w (by first | exact Nat.le_add_right _ _ | exact gw2 | exact gw3 | exact gwe rfl | exact gwf rfl | exact gwg rfl | exact gwh rfl | omega) (gg_f (gf_cons rfl (gf_cons rfl (gf_cons rfl (gf_cons rfl (gf_cons rfl (gf_cons rfl (gf_cons rfl gf_nil))))))) (ih7 sc7 y7_6 z114 hIc7 hFc7 (in_w 0 2000 j7_6 rfl) (in_w 0 60 i114 rfl) n7 n7a n7b (m_up mm7 (t_add e114 i13 (in_c 1 rfl) rfl) (in_w 1 1 (in_c 1 rfl) rfl))))
              · skip
                exact zn_ne c80 (in_c 0 rfl) rfl
            · skip
              refine g_iconst 1 56 (gd rfl) rfl rfl ?_
              refine g_goto 60 (gd rfl) rfl ?_
              refine g_istore 62 (gd rfl) rfl (Nat.le_of_ble_eq_true rfl) ?_
              refine g_bipush 61 64 (gd rfl) rfl rfl ?_
              refine g_aload_n 65 (gd rfl) rfl rfl ?_
              refine g_getA (q2 := 114) 68 (gd rfl) rfl rfl rfl rfl ?_
              refine g_iload_n 69 (gd rfl) rfl rfl ?_
              refine g_iaload 70 (gd rfl) rfl (n := 480) rfl (in_ix h1 rfl) (fun z69 e69 => ?_)
              have i69 := inv_I hIc7 (n := 480) (t := 0) 0 31 rfl (in_ix h1 rfl) rfl e69
              refine g_imul 71 (gd rfl) rfl (fun z70 e70 => ?_)
              have i70 := in_mulc 61 0 1891 (Or.inl e70) i69 rfl rfl
              refine g_iload 73 (gd rfl) rfl rfl ?_
              refine g_iadd 74 (gd rfl) rfl (fun z73 e73 => ?_)
              have i73 := in_add 0 1950 e73 i70 i13 rfl rfl
              refine g_iconst 1 75 (gd rfl) rfl rfl ?_
              refine g_iadd 76 (gd rfl) rfl (fun z75 e75 => ?_)
              have i75 := in_add 1 1951 e75 i73 (in_c 1 rfl) rfl rfl
              refine g_istore 78 (gd rfl) rfl (Nat.le_of_ble_eq_true rfl) ?_
              refine g_iload 80 (gd rfl) rfl rfl ?_
              refine g_if_eq 83 114 (gd rfl) rfl rfl (fun c80 => ?_) (fun c80 => ?_)
              · skip
                exact zn_eq c80 (in_c 1 rfl) rfl
              · skip
                refine g_aload_n 84 (gd rfl) rfl rfl ?_
                refine g_getA (q2 := 183) 87 (gd rfl) rfl rfl rfl rfl ?_
                refine g_iload 89 (gd rfl) rfl rfl ?_
                refine g_iaload 90 (gd rfl) rfl (n := 2000) rfl (in_ix i75 rfl) (fun z89 e89 => ?_)
                refine g_if_ge 93 114 (gd rfl) rfl rfl (fun c90 => ?_) (fun c90 => ?_)
                · skip
                  have i90 := z_ge 0 2147483647 c90 (i_rng z89) rfl
                  first | (have n7q : QI sc7 (y7_6).toInt := (by have hq := q_1; rw [show (y7_6).toInt = y7_6.toInt + 1 from (by (first | have a0 := in_u h4 | (have a0 := h4; unfold In at a0)); (first | have a1 := in_u h3 | (have a1 := h3; unfold In at a1)); (first | have a2 := in_u h1 | (have a2 := h1; unfold In at a2)); (first | have a3 := in_u i13a | (have a3 := i13a; unfold In at a3)); (first | have a4 := in_u i13 | (have a4 := i13; unfold In at a4)); (first | have a5 := in_u j7_6 | (have a5 := j7_6; unfold In at a5)); (first | have a6 := in_u i75 | (have a6 := i75; unfold In at a6)); have a7 := t_add e75 i73 (in_c 1 rfl) rfl; (first | have a8 := in_u ((in_c 1 rfl)) | (have a8 := (in_c 1 rfl); unfold In at a8)); (first | have a9 := in_u i73 | (have a9 := i73; unfold In at a9)); have a10 := t_add e73 i70 i13 rfl; (first | have a11 := in_u i70 | (have a11 := i70; unfold In at a11)); have a12 := (t_mulc 61 (Or.inl e70) i69 rfl).1; (first | have a13 := in_u i69 | (have a13 := i69; unfold In at a13)); omega)]; exact qi_push (m := y7_6.toNatClampNeg) g7_0 (by show ((y7_6.toInt.toNat : Nat) : Int) = _; (first | have a0 := in_u h4 | (have a0 := h4; unfold In at a0)); (first | have a1 := in_u h3 | (have a1 := h3; unfold In at a1)); (first | have a2 := in_u h1 | (have a2 := h1; unfold In at a2)); (first | have a3 := in_u i13a | (have a3 := i13a; unfold In at a3)); (first | have a4 := in_u i13 | (have a4 := i13; unfold In at a4)); (first | have a5 := in_u j7_6 | (have a5 := j7_6; unfold In at a5)); (first | have a6 := in_u i75 | (have a6 := i75; unfold In at a6)); have a7 := t_add e75 i73 (in_c 1 rfl) rfl; (first | have a8 := in_u ((in_c 1 rfl)) | (have a8 := (in_c 1 rfl); unfold In at a8)); (first | have a9 := in_u i73 | (have a9 := i73; unfold In at a9)); have a10 := t_add e73 i70 i13 rfl; (first | have a11 := in_u i70 | (have a11 := i70; unfold In at a11)); have a12 := (t_mulc 61 (Or.inl e70) i69 rfl).1; (first | have a13 := in_u i69 | (have a13 := i69; unfold In at a13)); omega) (by rw [sI_q, sI_p rfl]) (by rw [sI_p rfl, sI_q]) i75 rfl (by rw [← e89]; have hz := i90; unfold In at hz; omega) hq.1 (by (first | have a0 := in_u h4 | (have a0 := h4; unfold In at a0)); (first | have a1 := in_u h3 | (have a1 := h3; unfold In at a1)); (first | have a2 := in_u h1 | (have a2 := h1; unfold In at a2)); (first | have a3 := in_u i13a | (have a3 := i13a; unfold In at a3)); (first | have a4 := in_u i13 | (have a4 := i13; unfold In at a4)); (first | have a5 := in_u j7_6 | (have a5 := j7_6; unfold In at a5)); (first | have a6 := in_u i75 | (have a6 := i75; unfold In at a6)); have a7 := t_add e75 i73 (in_c 1 rfl) rfl; (first | have a8 := in_u ((in_c 1 rfl)) | (have a8 := (in_c 1 rfl); unfold In at a8)); (first | have a9 := in_u i73 | (have a9 := i73; unfold In at a9)); have a10 := t_add e73 i70 i13 rfl; (first | have a11 := in_u i70 | (have a11 := i70; unfold In at a11)); have a12 := (t_mulc 61 (Or.inl e70) i69 rfl).1; (first | have a13 := in_u i69 | (have a13 := i69; unfold In at a13)); omega))) | skip
                  refine g_iinc 117 (gd rfl) rfl rfl (Nat.le_of_ble_eq_true rfl) (fun z114 e114 => ?_)
                  have i114 := in_add 1 60 e114 i13 (in_c 1 rfl) rfl rfl
                  refine g_goto 7 (gd rfl) rfl ?_
                  have n7 : (x4).toInt ≤ (y7_6).toInt := by first | exact n7_0 | ((first | have a0 := in_u h4 | (have a0 := h4; unfold In at a0)); (first | have a1 := in_u h3 | (have a1 := h3; unfold In at a1)); (first | have a2 := in_u h1 | (have a2 := h1; unfold In at a2)); (first | have a3 := in_u i13a | (have a3 := i13a; unfold In at a3)); (first | have a4 := in_u i13 | (have a4 := i13; unfold In at a4)); (first | have a5 := in_u j7_6 | (have a5 := j7_6; unfold In at a5)); (first | have a6 := in_u i75 | (have a6 := i75; unfold In at a6)); have a7 := t_add e75 i73 (in_c 1 rfl) rfl; (first | have a8 := in_u ((in_c 1 rfl)) | (have a8 := (in_c 1 rfl); unfold In at a8)); (first | have a9 := in_u i73 | (have a9 := i73; unfold In at a9)); have a10 := t_add e73 i70 i13 rfl; (first | have a11 := in_u i70 | (have a11 := i70; unfold In at a11)); have a12 := (t_mulc 61 (Or.inl e70) i69 rfl).1; (first | have a13 := in_u i69 | (have a13 := i69; unfold In at a13)); (first | have a14 := in_u i114 | (have a14 := i114; unfold In at a14)); have a15 := t_add e114 i13 (in_c 1 rfl) rfl; omega)
                  have n7a : QI sc7 (y7_6).toInt := by first | exact q_0 | exact g7_0 | exact n7q
                  have n7b : ∀ i : Nat, (i : Int) < (x4).toInt → sc7.1 132 i = s.1 132 i := by first | exact g7_1 | (first | exact fun i hi => rfl | exact g7_1 | (intro i hi; rw [sI_q, sI_p rfl]; unfold upd; have e6 : y7_6.toNatClampNeg = y7_6.toInt.toNat := rfl; rw [if_neg (by (first | have a0 := in_u h4 | (have a0 := h4; unfold In at a0)); (first | have a1 := in_u h3 | (have a1 := h3; unfold In at a1)); (first | have a2 := in_u h1 | (have a2 := h1; unfold In at a2)); (first | have a3 := in_u i13a | (have a3 := i13a; unfold In at a3)); (first | have a4 := in_u i13 | (have a4 := i13; unfold In at a4)); (first | have a5 := in_u j7_6 | (have a5 := j7_6; unfold In at a5)); (first | have a6 := in_u i75 | (have a6 := i75; unfold In at a6)); have a7 := t_add e75 i73 (in_c 1 rfl) rfl; (first | have a8 := in_u ((in_c 1 rfl)) | (have a8 := (in_c 1 rfl); unfold In at a8)); (first | have a9 := in_u i73 | (have a9 := i73; unfold In at a9)); have a10 := t_add e73 i70 i13 rfl; (first | have a11 := in_u i70 | (have a11 := i70; unfold In at a11)); have a12 := (t_mulc 61 (Or.inl e70) i69 rfl).1; (first | have a13 := in_u i69 | (have a13 := i69; unfold In at a13)); (first | have a14 := in_u i114 | (have a14 := i114; unfold In at a14)); have a15 := t_add e114 i13 (in_c 1 rfl) rfl; omega)]; exact g7_1 i hi))
                  exact gg_w (by first | exact Nat.le_add_right _ _ | exact gw2 | exact gw3 | exact gwe rfl | exact gwf rfl | exact gwg rfl | exact gwh rfl | omega) (gg_f (gf_cons rfl (gf_cons rfl (gf_cons rfl (gf_cons rfl (gf_cons rfl (gf_cons rfl (gf_cons rfl gf_nil))))))) (ih7 sc7 y7_6 z114 hIc7 hFc7 (in_w 0 2000 j7_6 rfl) (in_w 0 60 i114 rfl) n7 n7a n7b (m_up mm7 (t_add e114 i13 (in_c 1 rfl) rfl) (in_w 1 1 (in_c 1 rfl) rfl))))
                · skip
                  have i90 := z_lt (-2147483648) (-1) c90 (i_rng z89) rfl
                  refine g_aload_n 94 (gd rfl) rfl rfl ?_
                  refine g_getA (q2 := 183) 97 (gd rfl) rfl rfl rfl rfl ?_
                  refine g_iload 99 (gd rfl) rfl rfl ?_
                  refine g_iload 101 (gd rfl) rfl rfl ?_
                  refine g_iastore 102 (gd rfl) rfl (n := 2000) rfl (in_ix i75 rfl) ?_
                  have hI101 := inv_sI (q := 183) (j := z75.toNatClampNeg) hIc7 rfl (in_w (-2147483648) 2147483647 h3 rfl)
                  refine g_aload_n 103 (gd rfl) rfl rfl ?_
                  refine g_getA (q2 := 132) 106 (gd rfl) rfl rfl rfl rfl ?_
                  refine g_iload 108 (gd rfl) rfl rfl ?_
                  refine g_iload 110 (gd rfl) rfl rfl ?_
                  refine g_iastore 111 (gd rfl) rfl (n := 4000) rfl (in_ix j7_6 rfl) ?_
                  have hI110 := inv_sI (q := 132) (j := y7_6.toNatClampNeg) hI101 rfl (in_w 0 1951 i75 rfl)
                  refine g_iinc 114 (gd rfl) rfl rfl (Nat.le_of_ble_eq_true rfl) (fun z111 e111 => ?_)
                  have i111 := in_add 1 2001 e111 j7_6 (in_c 1 rfl) rfl rfl
                  first | (have n7q : QI (sI (sI sc7 183 z75.toNatClampNeg x3) 132 y7_6.toNatClampNeg z75) (z111).toInt := (by have hq := q_1; rw [show (z111).toInt = y7_6.toInt + 1 from (by (first | have a0 := in_u h4 | (have a0 := h4; unfold In at a0)); (first | have a1 := in_u h3 | (have a1 := h3; unfold In at a1)); (first | have a2 := in_u h1 | (have a2 := h1; unfold In at a2)); (first | have a3 := in_u i13a | (have a3 := i13a; unfold In at a3)); (first | have a4 := in_u i13 | (have a4 := i13; unfold In at a4)); (first | have a5 := in_u j7_6 | (have a5 := j7_6; unfold In at a5)); (first | have a6 := in_u i75 | (have a6 := i75; unfold In at a6)); have a7 := t_add e75 i73 (in_c 1 rfl) rfl; (first | have a8 := in_u ((in_c 1 rfl)) | (have a8 := (in_c 1 rfl); unfold In at a8)); (first | have a9 := in_u i73 | (have a9 := i73; unfold In at a9)); have a10 := t_add e73 i70 i13 rfl; (first | have a11 := in_u i70 | (have a11 := i70; unfold In at a11)); have a12 := (t_mulc 61 (Or.inl e70) i69 rfl).1; (first | have a13 := in_u i69 | (have a13 := i69; unfold In at a13)); (first | have a14 := in_u i111 | (have a14 := i111; unfold In at a14)); have a15 := t_add e111 j7_6 (in_c 1 rfl) rfl; omega)]; exact qi_push (m := y7_6.toNatClampNeg) g7_0 (by show ((y7_6.toInt.toNat : Nat) : Int) = _; (first | have a0 := in_u h4 | (have a0 := h4; unfold In at a0)); (first | have a1 := in_u h3 | (have a1 := h3; unfold In at a1)); (first | have a2 := in_u h1 | (have a2 := h1; unfold In at a2)); (first | have a3 := in_u i13a | (have a3 := i13a; unfold In at a3)); (first | have a4 := in_u i13 | (have a4 := i13; unfold In at a4)); (first | have a5 := in_u j7_6 | (have a5 := j7_6; unfold In at a5)); (first | have a6 := in_u i75 | (have a6 := i75; unfold In at a6)); have a7 := t_add e75 i73 (in_c 1 rfl) rfl; (first | have a8 := in_u ((in_c 1 rfl)) | (have a8 := (in_c 1 rfl); unfold In at a8)); (first | have a9 := in_u i73 | (have a9 := i73; unfold In at a9)); have a10 := t_add e73 i70 i13 rfl; (first | have a11 := in_u i70 | (have a11 := i70; unfold In at a11)); have a12 := (t_mulc 61 (Or.inl e70) i69 rfl).1; (first | have a13 := in_u i69 | (have a13 := i69; unfold In at a13)); (first | have a14 := in_u i111 | (have a14 := i111; unfold In at a14)); have a15 := t_add e111 j7_6 (in_c 1 rfl) rfl; omega) (by rw [sI_q, sI_p rfl]) (by rw [sI_p rfl, sI_q]) i75 rfl (by rw [← e89]; have hz := i90; unfold In at hz; omega) hq.1 (by (first | have a0 := in_u h4 | (have a0 := h4; unfold In at a0)); (first | have a1 := in_u h3 | (have a1 := h3; unfold In at a1)); (first | have a2 := in_u h1 | (have a2 := h1; unfold In at a2)); (first | have a3 := in_u i13a | (have a3 := i13a; unfold In at a3)); (first | have a4 := in_u i13 | (have a4 := i13; unfold In at a4)); (first | have a5 := in_u j7_6 | (have a5 := j7_6; unfold In at a5)); (first | have a6 := in_u i75 | (have a6 := i75; unfold In at a6)); have a7 := t_add e75 i73 (in_c 1 rfl) rfl; (first | have a8 := in_u ((in_c 1 rfl)) | (have a8 := (in_c 1 rfl); unfold In at a8)); (first | have a9 := in_u i73 | (have a9 := i73; unfold In at a9)); have a10 := t_add e73 i70 i13 rfl; (first | have a11 := in_u i70 | (have a11 := i70; unfold In at a11)); have a12 := (t_mulc 61 (Or.inl e70) i69 rfl).1; (first | have a13 := in_u i69 | (have a13 := i69; unfold In at a13)); (first | have a14 := in_u i111 | (have a14 := i111; unfold In at a14)); have a15 := t_add e111 j7_6 (in_c 1 rfl) rfl; omega))) | skip
                  refine g_iinc 117 (gd rfl) rfl rfl (Nat.le_of_ble_eq_true rfl) (fun z114 e114 => ?_)
                  have i114 := in_add 1 60 e114 i13 (in_c 1 rfl) rfl rfl
                  refine g_goto 7 (gd rfl) rfl ?_
                  have i7 : In z111 0 2000 := by first | (have hq := qi_le n7q; exact ⟨by (first | have a0 := in_u h4 | (have a0 := h4; unfold In at a0)); (first | have a1 := in_u h3 | (have a1 := h3; unfold In at a1)); (first | have a2 := in_u h1 | (have a2 := h1; unfold In at a2)); (first | have a3 := in_u i13a | (have a3 := i13a; unfold In at a3)); (first | have a4 := in_u i13 | (have a4 := i13; unfold In at a4)); (first | have a5 := in_u j7_6 | (have a5 := j7_6; unfold In at a5)); (first | have a6 := in_u i75 | (have a6 := i75; unfold In at a6)); have a7 := t_add e75 i73 (in_c 1 rfl) rfl; (first | have a8 := in_u ((in_c 1 rfl)) | (have a8 := (in_c 1 rfl); unfold In at a8)); (first | have a9 := in_u i73 | (have a9 := i73; unfold In at a9)); have a10 := t_add e73 i70 i13 rfl; (first | have a11 := in_u i70 | (have a11 := i70; unfold In at a11)); have a12 := (t_mulc 61 (Or.inl e70) i69 rfl).1; (first | have a13 := in_u i69 | (have a13 := i69; unfold In at a13)); (first | have a14 := in_u i114 | (have a14 := i114; unfold In at a14)); have a15 := t_add e114 i13 (in_c 1 rfl) rfl; (first | have a16 := in_u i111 | (have a16 := i111; unfold In at a16)); have a17 := t_add e111 j7_6 (in_c 1 rfl) rfl; omega, by (first | have a0 := in_u h4 | (have a0 := h4; unfold In at a0)); (first | have a1 := in_u h3 | (have a1 := h3; unfold In at a1)); (first | have a2 := in_u h1 | (have a2 := h1; unfold In at a2)); (first | have a3 := in_u i13a | (have a3 := i13a; unfold In at a3)); (first | have a4 := in_u i13 | (have a4 := i13; unfold In at a4)); (first | have a5 := in_u j7_6 | (have a5 := j7_6; unfold In at a5)); (first | have a6 := in_u i75 | (have a6 := i75; unfold In at a6)); have a7 := t_add e75 i73 (in_c 1 rfl) rfl; (first | have a8 := in_u ((in_c 1 rfl)) | (have a8 := (in_c 1 rfl); unfold In at a8)); (first | have a9 := in_u i73 | (have a9 := i73; unfold In at a9)); have a10 := t_add e73 i70 i13 rfl; (first | have a11 := in_u i70 | (have a11 := i70; unfold In at a11)); have a12 := (t_mulc 61 (Or.inl e70) i69 rfl).1; (first | have a13 := in_u i69 | (have a13 := i69; unfold In at a13)); (first | have a14 := in_u i114 | (have a14 := i114; unfold In at a14)); have a15 := t_add e114 i13 (in_c 1 rfl) rfl; (first | have a16 := in_u i111 | (have a16 := i111; unfold In at a16)); have a17 := t_add e111 j7_6 (in_c 1 rfl) rfl; omega⟩) | (have hq := qi_le q_0; exact ⟨by (first | have a0 := in_u h4 | (have a0 := h4; unfold In at a0)); (first | have a1 := in_u h3 | (have a1 := h3; unfold In at a1)); (first | have a2 := in_u h1 | (have a2 := h1; unfold In at a2)); (first | have a3 := in_u i13a | (have a3 := i13a; unfold In at a3)); (first | have a4 := in_u i13 | (have a4 := i13; unfold In at a4)); (first | have a5 := in_u j7_6 | (have a5 := j7_6; unfold In at a5)); (first | have a6 := in_u i75 | (have a6 := i75; unfold In at a6)); have a7 := t_add e75 i73 (in_c 1 rfl) rfl; (first | have a8 := in_u ((in_c 1 rfl)) | (have a8 := (in_c 1 rfl); unfold In at a8)); (first | have a9 := in_u i73 | (have a9 := i73; unfold In at a9)); have a10 := t_add e73 i70 i13 rfl; (first | have a11 := in_u i70 | (have a11 := i70; unfold In at a11)); have a12 := (t_mulc 61 (Or.inl e70) i69 rfl).1; (first | have a13 := in_u i69 | (have a13 := i69; unfold In at a13)); (first | have a14 := in_u i114 | (have a14 := i114; unfold In at a14)); have a15 := t_add e114 i13 (in_c 1 rfl) rfl; (first | have a16 := in_u i111 | (have a16 := i111; unfold In at a16)); have a17 := t_add e111 j7_6 (in_c 1 rfl) rfl; omega, by (first | have a0 := in_u h4 | (have a0 := h4; unfold In at a0)); (first | have a1 := in_u h3 | (have a1 := h3; unfold In at a1)); (first | have a2 := in_u h1 | (have a2 := h1; unfold In at a2)); (first | have a3 := in_u i13a | (have a3 := i13a; unfold In at a3)); (first | have a4 := in_u i13 | (have a4 := i13; unfold In at a4)); (first | have a5 := in_u j7_6 | (have a5 := j7_6; unfold In at a5)); (first | have a6 := in_u i75 | (have a6 := i75; unfold In at a6)); have a7 := t_add e75 i73 (in_c 1 rfl) rfl; (first | have a8 := in_u ((in_c 1 rfl)) | (have a8 := (in_c 1 rfl); unfold In at a8)); (first | have a9 := in_u i73 | (have a9 := i73; unfold In at a9)); have a10 := t_add e73 i70 i13 rfl; (first | have a11 := in_u i70 | (have a11 := i70; unfold In at a11)); have a12 := (t_mulc 61 (Or.inl e70) i69 rfl).1; (first | have a13 := in_u i69 | (have a13 := i69; unfold In at a13)); (first | have a14 := in_u i114 | (have a14 := i114; unfold In at a14)); have a15 := t_add e114 i13 (in_c 1 rfl) rfl; (first | have a16 := in_u i111 | (have a16 := i111; unfold In at a16)); have a17 := t_add e111 j7_6 (in_c 1 rfl) rfl; omega⟩)
                  have n7 : (x4).toInt ≤ (z111).toInt := by (first | have a0 := in_u h4 | (have a0 := h4; unfold In at a0)); (first | have a1 := in_u h3 | (have a1 := h3; unfold In at a1)); (first | have a2 := in_u h1 | (have a2 := h1; unfold In at a2)); (first | have a3 := in_u i13a | (have a3 := i13a; unfold In at a3)); (first | have a4 := in_u i13 | (have a4 := i13; unfold In at a4)); (first | have a5 := in_u j7_6 | (have a5 := j7_6; unfold In at a5)); (first | have a6 := in_u i75 | (have a6 := i75; unfold In at a6)); have a7 := t_add e75 i73 (in_c 1 rfl) rfl; (first | have a8 := in_u ((in_c 1 rfl)) | (have a8 := (in_c 1 rfl); unfold In at a8)); (first | have a9 := in_u i73 | (have a9 := i73; unfold In at a9)); have a10 := t_add e73 i70 i13 rfl; (first | have a11 := in_u i70 | (have a11 := i70; unfold In at a11)); have a12 := (t_mulc 61 (Or.inl e70) i69 rfl).1; (first | have a13 := in_u i69 | (have a13 := i69; unfold In at a13)); (first | have a14 := in_u i114 | (have a14 := i114; unfold In at a14)); have a15 := t_add e114 i13 (in_c 1 rfl) rfl; (first | have a16 := in_u i7 | (have a16 := i7; unfold In at a16)); have a17 := t_add e111 j7_6 (in_c 1 rfl) rfl; omega
                  have n7a : QI (sI (sI sc7 183 z75.toNatClampNeg x3) 132 y7_6.toNatClampNeg z75) (z111).toInt := by first | exact q_0 | exact g7_0 | exact n7q
                  have n7b : ∀ i : Nat, (i : Int) < (x4).toInt → (sI (sI sc7 183 z75.toNatClampNeg x3) 132 y7_6.toNatClampNeg z75).1 132 i = s.1 132 i := by first | exact fun i hi => rfl | exact g7_1 | (intro i hi; rw [sI_q, sI_p rfl]; unfold upd; have e6 : y7_6.toNatClampNeg = y7_6.toInt.toNat := rfl; rw [if_neg (by (first | have a0 := in_u h4 | (have a0 := h4; unfold In at a0)); (first | have a1 := in_u h3 | (have a1 := h3; unfold In at a1)); (first | have a2 := in_u h1 | (have a2 := h1; unfold In at a2)); (first | have a3 := in_u i13a | (have a3 := i13a; unfold In at a3)); (first | have a4 := in_u i13 | (have a4 := i13; unfold In at a4)); (first | have a5 := in_u j7_6 | (have a5 := j7_6; unfold In at a5)); (first | have a6 := in_u i75 | (have a6 := i75; unfold In at a6)); have a7 := t_add e75 i73 (in_c 1 rfl) rfl; (first | have a8 := in_u ((in_c 1 rfl)) | (have a8 := (in_c 1 rfl); unfold In at a8)); (first | have a9 := in_u i73 | (have a9 := i73; unfold In at a9)); have a10 := t_add e73 i70 i13 rfl; (first | have a11 := in_u i70 | (have a11 := i70; unfold In at a11)); have a12 := (t_mulc 61 (Or.inl e70) i69 rfl).1; (first | have a13 := in_u i69 | (have a13 := i69; unfold In at a13)); (first | have a14 := in_u i114 | (have a14 := i114; unfold In at a14)); have a15 := t_add e114 i13 (in_c 1 rfl) rfl; (first | have a16 := in_u i7 | (have a16 := i7; unfold In at a16)); have a17 := t_add e111 j7_6 (in_c 1 rfl) rfl; omega)]; exact g7_1 i hi)
                  exact gg_w (by first | exact Nat.le_add_right _ _ | exact gw2 | exact gw3 | exact gwe rfl | exact gwf rfl | exact gwg rfl | exact gwh rfl | omega) (gg_f (gf_cons rfl (gf_cons rfl (gf_cons rfl (gf_cons rfl (gf_cons rfl (gf_cons rfl (gf_cons rfl gf_nil))))))) (ih7 (sI (sI sc7 183 z75.toNatClampNeg x3) 132 y7_6.toNatClampNeg z75) z111 z114 hI110 (fr_sI rfl (fr_sI rfl hFc7)) i7 (in_w 0 60 i114 rfl) n7 n7a n7b (m_up mm7 (t_add e114 i13 (in_c 1 rfl) rfl) (in_w 1 1 (in_c 1 rfl) rfl))))
  refine g_enter2 (k := 390) (N := 55801) (by first | exact dq1 hd rfl | exact dq0 hd rfl | exact dq2 hd rfl | exact dq3 hd rfl | omega) rfl (Nat.le_of_ble_eq_true rfl) ?_
  refine g_iload 2 (gd rfl) rfl rfl ?_
  refine g_istore 4 (gd rfl) rfl (Nat.le_of_ble_eq_true rfl) ?_
  refine g_iconst 0 5 (gd rfl) rfl rfl ?_
  refine g_istore 7 (gd rfl) rfl (Nat.le_of_ble_eq_true rfl) ?_
  have n7 : (x4).toInt ≤ (x4).toInt := by (first | have a0 := in_u ro_109_81 | (have a0 := ro_109_81; unfold In at a0)); (first | have a1 := in_u h4 | (have a1 := h4; unfold In at a1)); (first | have a2 := in_u h3 | (have a2 := h3; unfold In at a2)); (first | have a3 := in_u h1 | (have a3 := h1; unfold In at a3)); (first | have a4 := in_u ((in_c 0 rfl)) | (have a4 := (in_c 0 rfl); unfold In at a4)); omega
  have n7a : QI s (x4).toInt := by first | exact q_0 | exact g7_0 | exact n7q
  have n7b : ∀ i : Nat, (i : Int) < (x4).toInt → s.1 132 i = s.1 132 i := by first | exact fun i hi => rfl | exact g7_1 | (intro i hi; rw [sI_q, sI_p rfl]; unfold upd; have e6 : y7_6.toNatClampNeg = y7_6.toInt.toNat := rfl; rw [if_neg (by (first | have a0 := in_u ro_109_81 | (have a0 := ro_109_81; unfold In at a0)); (first | have a1 := in_u h4 | (have a1 := h4; unfold In at a1)); (first | have a2 := in_u h3 | (have a2 := h3; unfold In at a2)); (first | have a3 := in_u h1 | (have a3 := h1; unfold In at a3)); (first | have a4 := in_u ((in_c 0 rfl)) | (have a4 := (in_c 0 rfl); unfold In at a4)); omega)]; exact g7_1 i hi)
  exact gg_w (by first | exact Nat.le_of_ble_eq_true rfl | omega) (gg_f (gf_cons rfl (gf_cons rfl (gf_cons rfl (gf_cons rfl (gf_cons rfl (gf_cons rfl (gf_cons rfl gf_nil))))))) (ct7 61 s x4 (Int32.ofInt 0) hI fr_rf (in_w 0 2000 h4 rfl) (in_w 0 60 (in_c 0 rfl) rfl) n7 n7a n7b (m_in 61 (in_w 0 60 (in_c 0 rfl) rfl) rfl)))
