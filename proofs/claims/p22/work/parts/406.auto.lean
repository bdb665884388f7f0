section
/-! methods, by vc.py -/
def fm_204_49_2 : FM := ([9, 10, 11, 12, 13, 14, 15, 52, 54], [53], [(2, 4)], [])
/-- GraphHouse$Ways.spread -/
theorem k_204_49_2 {Z : AmZ} {A : Nat → Nat} {s : GS} {ex : va_W} {d : Nat} {X : AmX} {x2 : Int32} (hd : 4 ≤ d) (hI : Inv s) (h2 : In x2 0 31) : GC Z d 204 [.ref (A 49), .ref (A 2), .int x2] (WW Z A s ++ ex) 0 0 (fun v u => ∃ t : GS, Inv t ∧ Fr fm_204_49_2 s t ∧ v = none ∧ u = WW Z A t ++ ex) X := by
  intro post xp hP hX
  have ct46 : ∀ (k46 : Nat) (sc46 : GS) (y46_3 : Int32) (y46_4 : Int32), Inv sc46 → Fr fm_204_49_2 s sc46 → (In y46_3 1 32) → (In y46_4 0 32) → 32 - (y46_4).toInt < (k46 : Int) → GG Z (d - 1) 204 post (gx xp) (1 + k46 * 147601) 46 (fun j => xlook j [(0, .ref (A 49)), (1, .ref (A 2)), (2, .int x2), (3, .int y46_3), (4, .int y46_4)]) [] (WW Z A sc46 ++ ex) 0 0 := by
    intro k46
    induction k46 with
    | zero => intro sc46 y46_3 y46_4 hIc46 hFc46 j46_3 j46_4 mm46; exact m_no mm46 j46_4 rfl
    | succ k46 ih46 =>
      intro sc46 y46_3 y46_4 hIc46 hFc46 j46_3 j46_4 mm46
      refine gg_w (M := 1 + k46 * 147601 + 147601) gws ?_
      have ct70 : ∀ (k70 : Nat) (sc70 : GS) (y70_3 : Int32) (y70_5 : Int32) (y70_6 : Int32), Inv sc70 → Fr fm_204_49_2 s sc70 → (In y70_3 1 32) → (In y46_4 0 31) → (In y70_5 0 31) → (In y70_6 0 160) → 160 - (y70_6).toInt < (k70 : Int) → GG Z (d - 1) 204 post (gx xp) (1 + k46 * 147601 + 1 + k70 * 900) 70 (fun j => xlook j [(0, .ref (A 49)), (1, .ref (A 2)), (2, .int x2), (3, .int y70_3), (4, .int y46_4), (5, .int y70_5), (6, .int y70_6)]) [] (WW Z A sc70 ++ ex) 0 0 := by
        intro k70
        induction k70 with
        | zero => intro sc70 y70_3 y70_5 y70_6 hIc70 hFc70 j70_3 j70_4 j70_5 j70_6 mm70; exact m_no mm70 j70_6 rfl
        | succ k70 ih70 =>
          intro sc70 y70_3 y70_5 y70_6 hIc70 hFc70 j70_3 j70_4 j70_5 j70_6 mm70
          refine gg_w (M := 1 + k46 * 147601 + 1 + k70 * 900 + 900) gws ?_
          refine g_iload 72 (gd rfl) rfl rfl ?_
          refine g_aload_n 73 (gd rfl) rfl rfl ?_
          refine g_getA (q2 := 12) 76 (gd rfl) rfl rfl rfl rfl ?_
          refine g_iload 78 (gd rfl) rfl rfl ?_
          refine g_iconst 1 79 (gd rfl) rfl rfl ?_
          refine g_iadd 80 (gd rfl) rfl (fun z79 e79 => ?_)
          have i79 := in_add 1 32 e79 j70_5 (in_c 1 rfl) rfl rfl
          refine g_iaload 81 (gd rfl) rfl (n := 33) rfl (in_ix i79 rfl) (fun z80 e80 => ?_)
          have i80 := inv_I hIc70 (n := 33) (t := 0) 0 160 rfl (in_ix i79 rfl) rfl e80
          refine g_cmp_ge 84 193 (gd rfl) rfl rfl (fun c81 => ?_) (fun c81 => ?_)
          · skip
            refine g_iinc 196 (gd rfl) rfl rfl (Nat.le_of_ble_eq_true rfl) (fun z193 e193 => ?_)
            have i193 := in_add 1 32 e193 j70_4 (in_c 1 rfl) rfl rfl
            refine g_goto 46 (gd rfl) rfl ?_
            exact gg_w (by first | exact Nat.le_add_right _ _ | exact gw2 | exact gw3 | exact gwe rfl | exact gwf rfl | exact gwg rfl | exact gwh rfl | omega) (gg_f (gf_cons rfl (gf_cons rfl (gf_cons rfl (gf_cons rfl (gf_cons rfl gf_nil))))) (ih46 sc70 y70_3 z193 hIc70 hFc70 (in_w 1 32 j70_3 rfl) (in_w 0 32 i193 rfl) (m_up mm46 (t_add e193 j70_4 (in_c 1 rfl) rfl) (in_w 1 1 (in_c 1 rfl) rfl))))
          · skip
            have i81 := r_lt1 0 159 c81 j70_6 i80 rfl
            have i81a := r_lt2 1 160 c81 j70_6 i80 rfl
            refine g_aload_n 85 (gd rfl) rfl rfl ?_
            refine g_getA (q2 := 5) 88 (gd rfl) rfl rfl rfl rfl ?_
            refine g_aload_n 89 (gd rfl) rfl rfl ?_
            refine g_getA (q2 := 13) 92 (gd rfl) rfl rfl rfl rfl ?_
            refine g_iload 94 (gd rfl) rfl rfl ?_
            refine g_iaload 95 (gd rfl) rfl (n := 160) rfl (in_ix i81 rfl) (fun z94 e94 => ?_)
            have i94 := inv_I hIc70 (n := 160) (t := 0) 0 159 rfl (in_ix i81 rfl) rfl e94
            refine g_iaload 96 (gd rfl) rfl (n := 160) rfl (in_ix i94 rfl) (fun z95 e95 => ?_)
            have i95 := inv_I hIc70 (n := 160) (t := 0) 0 31 rfl (in_ix i94 rfl) rfl e95
            refine g_istore 98 (gd rfl) rfl (Nat.le_of_ble_eq_true rfl) ?_
            refine g_aload_n 99 (gd rfl) rfl rfl ?_
            refine g_getA (q2 := 52) 102 (gd rfl) rfl rfl rfl rfl ?_
            refine g_iload 104 (gd rfl) rfl rfl ?_
            refine g_iaload 105 (gd rfl) rfl (n := 32) rfl (in_ix i95 rfl) (fun z104 e104 => ?_)
            refine g_iconst (-1) 106 (gd rfl) rfl rfl ?_
            refine g_cmp_ne 109 142 (gd rfl) rfl rfl (fun c106 => ?_) (fun c106 => ?_)
            · skip
              refine g_aload_n 143 (gd rfl) rfl rfl ?_
              refine g_getA (q2 := 52) 146 (gd rfl) rfl rfl rfl rfl ?_
              refine g_iload 148 (gd rfl) rfl rfl ?_
              refine g_iaload 149 (gd rfl) rfl (n := 32) rfl (in_ix i95 rfl) (fun z148 e148 => ?_)
              have q148 : z104 = z148 := (e104).trans e148.symm
              subst q148
              refine g_aload_n 150 (gd rfl) rfl rfl ?_
              refine g_getA (q2 := 52) 153 (gd rfl) rfl rfl rfl rfl ?_
              refine g_iload 155 (gd rfl) rfl rfl ?_
              refine g_iaload 156 (gd rfl) rfl (n := 32) rfl (in_ix j70_5 rfl) (fun z155 e155 => ?_)
              refine g_iconst 1 157 (gd rfl) rfl rfl ?_
              refine g_iadd 158 (gd rfl) rfl (fun z157 e157 => ?_)
              refine g_cmp_ne 161 187 (gd rfl) rfl rfl (fun c158 => ?_) (fun c158 => ?_)
              · skip
                refine g_iinc 190 (gd rfl) rfl rfl (Nat.le_of_ble_eq_true rfl) (fun z187 e187 => ?_)
                have i187 := in_add 1 160 e187 i81 (in_c 1 rfl) rfl rfl
                refine g_goto 70 (gd rfl) rfl ?_
                exact gg_w (by first | exact Nat.le_add_right _ _ | exact gw2 | exact gw3 | exact gwe rfl | exact gwf rfl | exact gwg rfl | exact gwh rfl | omega) (gg_f (gf_cons rfl (gf_cons rfl (gf_cons rfl (gf_cons rfl (gf_cons rfl (gf_cons rfl (gf_cons rfl gf_nil))))))) (ih70 sc70 y70_3 y70_5 z187 hIc70 hFc70 (in_w 1 32 j70_3 rfl) (in_w 0 31 j70_4 rfl) (in_w 0 31 j70_5 rfl) (in_w 0 160 i187 rfl) (m_up mm70 (t_add e187 i81 (in_c 1 rfl) rfl) (in_w 1 1 (in_c 1 rfl) rfl))))
              · skip
                refine g_aload_n 162 (gd rfl) rfl rfl ?_
                refine g_getA (q2 := 53) 165 (gd rfl) rfl rfl rfl rfl ?_
                refine g_iload 167 (gd rfl) rfl rfl ?_
                refine g_aload_n 168 (gd rfl) rfl rfl ?_
                refine g_getA (q2 := 53) 171 (gd rfl) rfl rfl rfl rfl ?_
                refine g_iload 173 (gd rfl) rfl rfl ?_
                refine g_laload 174 (gd rfl) rfl (n := 32) rfl (in_ix i95 rfl) (fun z173 e173 => ?_)
                refine g_aload_n 175 (gd rfl) rfl rfl ?_
                refine g_getA (q2 := 53) 178 (gd rfl) rfl rfl rfl rfl ?_
                refine g_iload 180 (gd rfl) rfl rfl ?_
                refine g_laload 181 (gd rfl) rfl (n := 32) rfl (in_ix j70_5 rfl) (fun z180 e180 => ?_)
                refine g_ladd 182 (gd rfl) rfl (fun z181 e181 => ?_)
                refine g_ldc2_w 1000000007 185 (gd rfl) rfl rfl ?_
                refine g_lrem 186 (gd rfl) rfl (by decide) (fun z185 e185 => ?_)
                have i185 := l_rem (-1000000006) 1000000006 e185 rfl
                refine g_lastore 187 (gd rfl) rfl (n := 32) rfl (in_ix i95 rfl) ?_
                have hI186 := inv_sL (q := 53) (j := z95.toNatClampNeg) (x := z185) hIc70 rfl (l_rng z185)
                refine g_iinc 190 (gd rfl) rfl rfl (Nat.le_of_ble_eq_true rfl) (fun z187 e187 => ?_)
                have i187 := in_add 1 160 e187 i81 (in_c 1 rfl) rfl rfl
                refine g_goto 70 (gd rfl) rfl ?_
                exact gg_w (by first | exact Nat.le_add_right _ _ | exact gw2 | exact gw3 | exact gwe rfl | exact gwf rfl | exact gwg rfl | exact gwh rfl | omega) (gg_f (gf_cons rfl (gf_cons rfl (gf_cons rfl (gf_cons rfl (gf_cons rfl (gf_cons rfl (gf_cons rfl gf_nil))))))) (ih70 (sL sc70 53 z95.toNatClampNeg z185) y70_3 y70_5 z187 hI186 (fr_sL rfl hFc70) (in_w 1 32 j70_3 rfl) (in_w 0 31 j70_4 rfl) (in_w 0 31 j70_5 rfl) (in_w 0 160 i187 rfl) (m_up mm70 (t_add e187 i81 (in_c 1 rfl) rfl) (in_w 1 1 (in_c 1 rfl) rfl))))
            · skip
              have i106 := r_eq1 (-1) (-1) c106 (i_rng z104) (in_c (-1) rfl) rfl
              refine g_iload_n 110 (gd rfl) rfl rfl ?_
              refine g_bipush 32 112 (gd rfl) rfl rfl ?_
              refine g_cmp_ge 115 142 (gd rfl) rfl rfl (fun c112 => ?_) (fun c112 => ?_)
              · skip
                have i112 := r_le2 32 32 c112 (in_c 32 rfl) j70_3 rfl
                refine g_aload_n 143 (gd rfl) rfl rfl ?_
                refine g_getA (q2 := 52) 146 (gd rfl) rfl rfl rfl rfl ?_
                refine g_iload 148 (gd rfl) rfl rfl ?_
                refine g_iaload 149 (gd rfl) rfl (n := 32) rfl (in_ix i95 rfl) (fun z148 e148 => ?_)
                have q148 : z104 = z148 := (e104).trans e148.symm
                subst q148
                refine g_aload_n 150 (gd rfl) rfl rfl ?_
                refine g_getA (q2 := 52) 153 (gd rfl) rfl rfl rfl rfl ?_
                refine g_iload 155 (gd rfl) rfl rfl ?_
                refine g_iaload 156 (gd rfl) rfl (n := 32) rfl (in_ix j70_5 rfl) (fun z155 e155 => ?_)
                refine g_iconst 1 157 (gd rfl) rfl rfl ?_
                refine g_iadd 158 (gd rfl) rfl (fun z157 e157 => ?_)
                refine g_cmp_ne 161 187 (gd rfl) rfl rfl (fun c158 => ?_) (fun c158 => ?_)
                · skip
                  refine g_iinc 190 (gd rfl) rfl rfl (Nat.le_of_ble_eq_true rfl) (fun z187 e187 => ?_)
                  have i187 := in_add 1 160 e187 i81 (in_c 1 rfl) rfl rfl
                  refine g_goto 70 (gd rfl) rfl ?_
                  exact gg_w (by first | exact Nat.le_add_right _ _ | exact gw2 | exact gw3 | exact gwe rfl | exact gwf rfl | exact gwg rfl | exact gwh rfl | omega) (gg_f (gf_cons rfl (gf_cons rfl (gf_cons rfl (gf_cons rfl (gf_cons rfl (gf_cons rfl (gf_cons rfl gf_nil))))))) (ih70 sc70 y70_3 y70_5 z187 hIc70 hFc70 (in_w 1 32 i112 rfl) (in_w 0 31 j70_4 rfl) (in_w 0 31 j70_5 rfl) (in_w 0 160 i187 rfl) (m_up mm70 (t_add e187 i81 (in_c 1 rfl) rfl) (in_w 1 1 (in_c 1 rfl) rfl))))
                · skip
                  have i158 := r_eq2 (-1) (-1) c158 i106 (i_rng z157) rfl
                  refine g_aload_n 162 (gd rfl) rfl rfl ?_
                  refine g_getA (q2 := 53) 165 (gd rfl) rfl rfl rfl rfl ?_
                  refine g_iload 167 (gd rfl) rfl rfl ?_
                  refine g_aload_n 168 (gd rfl) rfl rfl ?_
                  refine g_getA (q2 := 53) 171 (gd rfl) rfl rfl rfl rfl ?_
                  refine g_iload 173 (gd rfl) rfl rfl ?_
                  refine g_laload 174 (gd rfl) rfl (n := 32) rfl (in_ix i95 rfl) (fun z173 e173 => ?_)
                  refine g_aload_n 175 (gd rfl) rfl rfl ?_
                  refine g_getA (q2 := 53) 178 (gd rfl) rfl rfl rfl rfl ?_
                  refine g_iload 180 (gd rfl) rfl rfl ?_
                  refine g_laload 181 (gd rfl) rfl (n := 32) rfl (in_ix j70_5 rfl) (fun z180 e180 => ?_)
                  refine g_ladd 182 (gd rfl) rfl (fun z181 e181 => ?_)
                  refine g_ldc2_w 1000000007 185 (gd rfl) rfl rfl ?_
                  refine g_lrem 186 (gd rfl) rfl (by decide) (fun z185 e185 => ?_)
                  have i185 := l_rem (-1000000006) 1000000006 e185 rfl
                  refine g_lastore 187 (gd rfl) rfl (n := 32) rfl (in_ix i95 rfl) ?_
                  have hI186 := inv_sL (q := 53) (j := z95.toNatClampNeg) (x := z185) hIc70 rfl (l_rng z185)
                  refine g_iinc 190 (gd rfl) rfl rfl (Nat.le_of_ble_eq_true rfl) (fun z187 e187 => ?_)
                  have i187 := in_add 1 160 e187 i81 (in_c 1 rfl) rfl rfl
                  refine g_goto 70 (gd rfl) rfl ?_
                  exact gg_w (by first | exact Nat.le_add_right _ _ | exact gw2 | exact gw3 | exact gwe rfl | exact gwf rfl | exact gwg rfl | exact gwh rfl | omega) (gg_f (gf_cons rfl (gf_cons rfl (gf_cons rfl (gf_cons rfl (gf_cons rfl (gf_cons rfl (gf_cons rfl gf_nil))))))) (ih70 (sL sc70 53 z95.toNatClampNeg z185) y70_3 y70_5 z187 hI186 (fr_sL rfl hFc70) (in_w 1 32 i112 rfl) (in_w 0 31 j70_4 rfl) (in_w 0 31 j70_5 rfl) (in_w 0 160 i187 rfl) (m_up mm70 (t_add e187 i81 (in_c 1 rfl) rfl) (in_w 1 1 (in_c 1 rfl) rfl))))
              · skip
                have i112 := r_lt1 1 31 c112 j70_3 (in_c 32 rfl) rfl
                refine g_aload_n 116 (gd rfl) rfl rfl ?_
                refine g_getA (q2 := 52) 119 (gd rfl) rfl rfl rfl rfl ?_
                refine g_iload 121 (gd rfl) rfl rfl ?_
                refine g_aload_n 122 (gd rfl) rfl rfl ?_
                refine g_getA (q2 := 52) 125 (gd rfl) rfl rfl rfl rfl ?_
                refine g_iload 127 (gd rfl) rfl rfl ?_
                refine g_iaload 128 (gd rfl) rfl (n := 32) rfl (in_ix j70_5 rfl) (fun z127 e127 => ?_)
                refine g_iconst 1 129 (gd rfl) rfl rfl ?_
                refine g_iadd 130 (gd rfl) rfl (fun z129 e129 => ?_)
                refine g_iastore 131 (gd rfl) rfl (n := 32) rfl (in_ix i95 rfl) ?_
                have hI130 := inv_sI (q := 52) (j := z95.toNatClampNeg) hIc70 rfl (in_w (-2147483648) 2147483647 (i_rng z129) rfl)
                refine g_aload_n 132 (gd rfl) rfl rfl ?_
                refine g_getA (q2 := 54) 135 (gd rfl) rfl rfl rfl rfl ?_
                refine g_iload_n 136 (gd rfl) rfl rfl ?_
                refine g_iload 138 (gd rfl) rfl rfl ?_
                refine g_iastore 139 (gd rfl) rfl (n := 32) rfl (in_ix i112 rfl) ?_
                have hI138 := inv_sI (q := 54) (j := y70_3.toNatClampNeg) hI130 rfl (in_w 0 31 i95 rfl)
                refine g_iinc 142 (gd rfl) rfl rfl (Nat.le_of_ble_eq_true rfl) (fun z139 e139 => ?_)
                have i139 := in_add 2 32 e139 i112 (in_c 1 rfl) rfl rfl
                refine g_aload_n 143 (gd rfl) rfl rfl ?_
                refine g_getA (q2 := 52) 146 (gd rfl) rfl rfl rfl rfl ?_
                refine g_iload 148 (gd rfl) rfl rfl ?_
                refine g_iaload 149 (gd rfl) rfl (n := 32) rfl (in_ix i95 rfl) (fun z148 e148 => ?_)
                have q148 : z129 = z148 := (sI_ne rfl (sI_get)).trans e148.symm
                subst q148
                refine g_aload_n 150 (gd rfl) rfl rfl ?_
                refine g_getA (q2 := 52) 153 (gd rfl) rfl rfl rfl rfl ?_
                refine g_iload 155 (gd rfl) rfl rfl ?_
                refine g_iaload 156 (gd rfl) rfl (n := 32) rfl (in_ix j70_5 rfl) (fun z155 e155 => ?_)
                refine g_iconst 1 157 (gd rfl) rfl rfl ?_
                refine g_iadd 158 (gd rfl) rfl (fun z157 e157 => ?_)
                refine g_cmp_ne 161 187 (gd rfl) rfl rfl (fun c158 => ?_) (fun c158 => ?_)
                · skip
                  refine g_iinc 190 (gd rfl) rfl rfl (Nat.le_of_ble_eq_true rfl) (fun z187 e187 => ?_)
                  have i187 := in_add 1 160 e187 i81 (in_c 1 rfl) rfl rfl
                  refine g_goto 70 (gd rfl) rfl ?_
                  exact gg_w (by first | exact Nat.le_add_right _ _ | exact gw2 | exact gw3 | exact gwe rfl | exact gwf rfl | exact gwg rfl | exact gwh rfl | omega) (gg_f (gf_cons rfl (gf_cons rfl (gf_cons rfl (gf_cons rfl (gf_cons rfl (gf_cons rfl (gf_cons rfl gf_nil))))))) (ih70 (sI (sI sc70 52 z95.toNatClampNeg z129) 54 y70_3.toNatClampNeg z95) z139 y70_5 z187 hI138 (fr_sI rfl (fr_sI rfl hFc70)) (in_w 1 32 i139 rfl) (in_w 0 31 j70_4 rfl) (in_w 0 31 j70_5 rfl) (in_w 0 160 i187 rfl) (m_up mm70 (t_add e187 i81 (in_c 1 rfl) rfl) (in_w 1 1 (in_c 1 rfl) rfl))))
                · skip
                  refine g_aload_n 162 (gd rfl) rfl rfl ?_
                  refine g_getA (q2 := 53) 165 (gd rfl) rfl rfl rfl rfl ?_
                  refine g_iload 167 (gd rfl) rfl rfl ?_
                  refine g_aload_n 168 (gd rfl) rfl rfl ?_
                  refine g_getA (q2 := 53) 171 (gd rfl) rfl rfl rfl rfl ?_
                  refine g_iload 173 (gd rfl) rfl rfl ?_
                  refine g_laload 174 (gd rfl) rfl (n := 32) rfl (in_ix i95 rfl) (fun z173 e173 => ?_)
                  refine g_aload_n 175 (gd rfl) rfl rfl ?_
                  refine g_getA (q2 := 53) 178 (gd rfl) rfl rfl rfl rfl ?_
                  refine g_iload 180 (gd rfl) rfl rfl ?_
                  refine g_laload 181 (gd rfl) rfl (n := 32) rfl (in_ix j70_5 rfl) (fun z180 e180 => ?_)
                  refine g_ladd 182 (gd rfl) rfl (fun z181 e181 => ?_)
                  refine g_ldc2_w 1000000007 185 (gd rfl) rfl rfl ?_
                  refine g_lrem 186 (gd rfl) rfl (by decide) (fun z185 e185 => ?_)
                  have i185 := l_rem (-1000000006) 1000000006 e185 rfl
                  refine g_lastore 187 (gd rfl) rfl (n := 32) rfl (in_ix i95 rfl) ?_
                  have hI186 := inv_sL (q := 53) (j := z95.toNatClampNeg) (x := z185) hI138 rfl (l_rng z185)
                  refine g_iinc 190 (gd rfl) rfl rfl (Nat.le_of_ble_eq_true rfl) (fun z187 e187 => ?_)
                  have i187 := in_add 1 160 e187 i81 (in_c 1 rfl) rfl rfl
                  refine g_goto 70 (gd rfl) rfl ?_
                  exact gg_w (by first | exact Nat.le_add_right _ _ | exact gw2 | exact gw3 | exact gwe rfl | exact gwf rfl | exact gwg rfl | exact gwh rfl | omega) (gg_f (gf_cons rfl (gf_cons rfl (gf_cons rfl (gf_cons rfl (gf_cons rfl (gf_cons rfl (gf_cons rfl gf_nil))))))) (ih70 (sL (sI (sI sc70 52 z95.toNatClampNeg z129) 54 y70_3.toNatClampNeg z95) 53 z95.toNatClampNeg z185) z139 y70_5 z187 hI186 (fr_sL rfl (fr_sI rfl (fr_sI rfl hFc70))) (in_w 1 32 i139 rfl) (in_w 0 31 j70_4 rfl) (in_w 0 31 j70_5 rfl) (in_w 0 160 i187 rfl) (m_up mm70 (t_add e187 i81 (in_c 1 rfl) rfl) (in_w 1 1 (in_c 1 rfl) rfl))))
      refine g_iload 48 (gd rfl) rfl rfl ?_
      refine g_iload_n 49 (gd rfl) rfl rfl ?_
      refine g_cmp_ge 52 199 (gd rfl) rfl rfl (fun c49 => ?_) (fun c49 => ?_)
      · skip
        have i49 := r_le2 1 32 c49 j46_3 j46_4 rfl
        exact g_return (gd rfl) rfl (hP _ _ ⟨sc46, hIc46, hFc46, rfl, rfl⟩)
      · skip
        have i49 := r_lt1 0 31 c49 j46_4 j46_3 rfl
        refine g_aload_n 53 (gd rfl) rfl rfl ?_
        refine g_getA (q2 := 54) 56 (gd rfl) rfl rfl rfl rfl ?_
        refine g_iload 58 (gd rfl) rfl rfl ?_
        refine g_iaload 59 (gd rfl) rfl (n := 32) rfl (in_ix i49 rfl) (fun z58 e58 => ?_)
        have i58 := inv_I hIc46 (n := 32) (t := 0) 0 31 rfl (in_ix i49 rfl) rfl e58
        refine g_istore 61 (gd rfl) rfl (Nat.le_of_ble_eq_true rfl) ?_
        refine g_aload_n 62 (gd rfl) rfl rfl ?_
        refine g_getA (q2 := 12) 65 (gd rfl) rfl rfl rfl rfl ?_
        refine g_iload 67 (gd rfl) rfl rfl ?_
        refine g_iaload 68 (gd rfl) rfl (n := 33) rfl (in_ix i58 rfl) (fun z67 e67 => ?_)
        have i67 := inv_I hIc46 (n := 33) (t := 0) 0 160 rfl (in_ix i58 rfl) rfl e67
        refine g_istore 70 (gd rfl) rfl (Nat.le_of_ble_eq_true rfl) ?_
        exact gg_w (by first | exact Nat.le_add_right _ _ | exact gw2 | exact gw3 | exact gwe rfl | exact gwf rfl | exact gwg rfl | exact gwh rfl | omega) (gg_f (gf_cons rfl (gf_cons rfl (gf_cons rfl (gf_cons rfl (gf_cons rfl (gf_cons rfl (gf_cons rfl gf_nil))))))) (ct70 161 sc46 y46_3 z58 z67 hIc46 hFc46 (in_w 1 32 j46_3 rfl) (in_w 0 31 i49 rfl) (in_w 0 31 i58 rfl) (in_w 0 160 i67 rfl) (m_in 161 (in_w 0 160 i67 rfl) rfl)))
  refine g_enter2 (k := 204) (N := 4871734) (by first | exact dq1 hd rfl | exact dq0 hd rfl | exact dq2 hd rfl | exact dq3 hd rfl | omega) rfl (Nat.le_of_ble_eq_true rfl) ?_
  refine g_aload_n 1 (gd rfl) rfl rfl ?_
  refine g_callv (X := _) (As := []) (r := []) (b := A 2) (q := 2) 4 (gd rfl) rfl rfl rfl rfl rfl (ww_o rfl) (Nat.le_of_ble_eq_true rfl) (Nat.zero_le _) (Nat.zero_le _) (k_106_2 (by first | exact dq1 hd rfl | exact dq0 hd rfl | exact dq2 hd rfl | exact dq3 hd rfl | omega) hI ) (fun e u h => h) (fun v u h => ?_)
  obtain ⟨s1, hI1, hF1, n1, rfl, rfl⟩ := h
  obtain ⟨z1a, e1⟩ : ∃ w, w = s1.2.2.1 2 4 := ⟨_, rfl⟩
  have i1a := inv_F hI1 (-1) 4000 rfl e1
  obtain ⟨z1b, e1a⟩ : ∃ w, w = s1.2.2.1 2 0 := ⟨_, rfl⟩
  have i1b := inv_F hI1 0 4000 rfl e1a
  rw [← (show z1a = s1.2.2.1 2 4 from e1)] at n1
  rw [← (show z1b = s1.2.2.1 2 0 from e1a)] at n1
  show GG _ _ _ _ _ _ _ _ [] _ _ _
  refine g_aload_n 5 (gd rfl) rfl rfl ?_
  refine g_getA (q2 := 52) 8 (gd rfl) rfl rfl rfl rfl ?_
  refine g_iconst (-1) 9 (gd rfl) rfl rfl ?_
  refine g_calls (As := [.ref (A 52), .int (Int32.ofInt (-1))]) (r := []) 12 (gd rfl) rfl rfl rfl rfl rfl (Nat.le_of_ble_eq_true rfl) (Nat.zero_le _) (Nat.zero_le _) (k_fillI 52 (by first | exact dq1 hd rfl | exact dq0 hd rfl | exact dq2 hd rfl | exact dq3 hd rfl | omega) hI1 (in_c (-1) rfl) (n := 32) rfl rfl rfl rfl) (fun v u h => ?_)
  obtain ⟨s9, hI9, hF9, rfl, rfl, fl9⟩ := h
  show GG _ _ _ _ _ _ _ _ [] _ _ _
  refine g_aload_n 13 (gd rfl) rfl rfl ?_
  refine g_getA (q2 := 53) 16 (gd rfl) rfl rfl rfl rfl ?_
  refine g_lconst 0 17 (gd rfl) rfl rfl ?_
  refine g_calls (As := [.ref (A 53), .long (Int64.ofInt 0)]) (r := []) 20 (gd rfl) rfl rfl rfl rfl rfl (Nat.le_of_ble_eq_true rfl) (Nat.zero_le _) (Nat.zero_le _) (k_fillL 53 (by first | exact dq1 hd rfl | exact dq0 hd rfl | exact dq2 hd rfl | exact dq3 hd rfl | omega) hI9 (n := 32) rfl rfl rfl (l_rng (Int64.ofInt 0))) (fun v u h => ?_)
  obtain ⟨s17, hI17, hF17, rfl, rfl, fl17⟩ := h
  show GG _ _ _ _ _ _ _ _ [] _ _ _
  refine g_aload_n 21 (gd rfl) rfl rfl ?_
  refine g_getA (q2 := 52) 24 (gd rfl) rfl rfl rfl rfl ?_
  refine g_iload_n 25 (gd rfl) rfl rfl ?_
  refine g_iconst 0 26 (gd rfl) rfl rfl ?_
  refine g_iastore 27 (gd rfl) rfl (n := 32) rfl (in_ix h2 rfl) ?_
  have hI26 := inv_sI (q := 52) (j := x2.toNatClampNeg) hI17 rfl (in_w (-2147483648) 2147483647 (in_c 0 rfl) rfl)
  refine g_aload_n 28 (gd rfl) rfl rfl ?_
  refine g_getA (q2 := 53) 31 (gd rfl) rfl rfl rfl rfl ?_
  refine g_iload_n 32 (gd rfl) rfl rfl ?_
  refine g_lconst 1 33 (gd rfl) rfl rfl ?_
  refine g_lastore 34 (gd rfl) rfl (n := 32) rfl (in_ix h2 rfl) ?_
  have hI33 := inv_sL (q := 53) (j := x2.toNatClampNeg) (x := (Int64.ofInt 1)) hI26 rfl (l_rng (Int64.ofInt 1))
  refine g_aload_n 35 (gd rfl) rfl rfl ?_
  refine g_getA (q2 := 54) 38 (gd rfl) rfl rfl rfl rfl ?_
  refine g_iconst 0 39 (gd rfl) rfl rfl ?_
  refine g_iload_n 40 (gd rfl) rfl rfl ?_
  refine g_iastore 41 (gd rfl) rfl (n := 32) rfl (in_ix (in_c 0 rfl) rfl) ?_
  have hI40 := inv_sI (q := 54) (j := (Int32.ofInt 0).toNatClampNeg) hI33 rfl (in_w 0 31 h2 rfl)
  refine g_iconst 1 42 (gd rfl) rfl rfl ?_
  refine g_istore_n 43 (gd rfl) rfl (Nat.le_of_ble_eq_true rfl) ?_
  refine g_iconst 0 44 (gd rfl) rfl rfl ?_
  refine g_istore 46 (gd rfl) rfl (Nat.le_of_ble_eq_true rfl) ?_
  exact gg_w (by first | exact Nat.le_of_ble_eq_true rfl | omega) (gg_f (gf_cons rfl (gf_cons rfl (gf_cons rfl (gf_cons rfl (gf_cons rfl gf_nil))))) (ct46 33 (sI (sL (sI s17 52 x2.toNatClampNeg (Int32.ofInt 0)) 53 x2.toNatClampNeg (Int64.ofInt 1)) 54 (Int32.ofInt 0).toNatClampNeg x2) (Int32.ofInt 1) (Int32.ofInt 0) hI40 (fr_sI rfl (fr_sL rfl (fr_sI rfl (fr_tr rfl (fr_tr rfl (fr_tr rfl fr_rf hF1) hF9) hF17)))) (in_w 1 32 (in_c 1 rfl) rfl) (in_w 0 32 (in_c 0 rfl) rfl) (m_in 33 (in_w 0 32 (in_c 0 rfl) rfl) rfl)))

def fm_204_49_32 : FM := ([39, 40, 41, 42, 43, 44, 45, 52, 54], [53], [(32, 4)], [])
/-- GraphHouse$Ways.spread -/
theorem k_204_49_32 {Z : AmZ} {A : Nat → Nat} {s : GS} {ex : va_W} {d : Nat} {X : AmX} {x2 : Int32} (hd : 4 ≤ d) (hI : Inv s) (h2 : In x2 0 31) : GC Z d 204 [.ref (A 49), .ref (A 32), .int x2] (WW Z A s ++ ex) 0 0 (fun v u => ∃ t : GS, Inv t ∧ Fr fm_204_49_32 s t ∧ v = none ∧ u = WW Z A t ++ ex) X := by
  intro post xp hP hX
  have ct46 : ∀ (k46 : Nat) (sc46 : GS) (y46_3 : Int32) (y46_4 : Int32), Inv sc46 → Fr fm_204_49_32 s sc46 → (In y46_3 1 32) → (In y46_4 0 32) → 32 - (y46_4).toInt < (k46 : Int) → GG Z (d - 1) 204 post (gx xp) (1 + k46 * 147601) 46 (fun j => xlook j [(0, .ref (A 49)), (1, .ref (A 32)), (2, .int x2), (3, .int y46_3), (4, .int y46_4)]) [] (WW Z A sc46 ++ ex) 0 0 := by
    intro k46
    induction k46 with
    | zero => intro sc46 y46_3 y46_4 hIc46 hFc46 j46_3 j46_4 mm46; exact m_no mm46 j46_4 rfl
    | succ k46 ih46 =>
      intro sc46 y46_3 y46_4 hIc46 hFc46 j46_3 j46_4 mm46
      refine gg_w (M := 1 + k46 * 147601 + 147601) gws ?_
      have ct70 : ∀ (k70 : Nat) (sc70 : GS) (y70_3 : Int32) (y70_5 : Int32) (y70_6 : Int32), Inv sc70 → Fr fm_204_49_32 s sc70 → (In y70_3 1 32) → (In y46_4 0 31) → (In y70_5 0 31) → (In y70_6 0 160) → 160 - (y70_6).toInt < (k70 : Int) → GG Z (d - 1) 204 post (gx xp) (1 + k46 * 147601 + 1 + k70 * 900) 70 (fun j => xlook j [(0, .ref (A 49)), (1, .ref (A 32)), (2, .int x2), (3, .int y70_3), (4, .int y46_4), (5, .int y70_5), (6, .int y70_6)]) [] (WW Z A sc70 ++ ex) 0 0 := by
        intro k70
        induction k70 with
        | zero => intro sc70 y70_3 y70_5 y70_6 hIc70 hFc70 j70_3 j70_4 j70_5 j70_6 mm70; exact m_no mm70 j70_6 rfl
        | succ k70 ih70 =>
          intro sc70 y70_3 y70_5 y70_6 hIc70 hFc70 j70_3 j70_4 j70_5 j70_6 mm70
          refine gg_w (M := 1 + k46 * 147601 + 1 + k70 * 900 + 900) gws ?_
          refine g_iload 72 (gd rfl) rfl rfl ?_
          refine g_aload_n 73 (gd rfl) rfl rfl ?_
          refine g_getA (q2 := 42) 76 (gd rfl) rfl rfl rfl rfl ?_
          refine g_iload 78 (gd rfl) rfl rfl ?_
          refine g_iconst 1 79 (gd rfl) rfl rfl ?_
          refine g_iadd 80 (gd rfl) rfl (fun z79 e79 => ?_)
          have i79 := in_add 1 32 e79 j70_5 (in_c 1 rfl) rfl rfl
          refine g_iaload 81 (gd rfl) rfl (n := 33) rfl (in_ix i79 rfl) (fun z80 e80 => ?_)
          have i80 := inv_I hIc70 (n := 33) (t := 0) 0 160 rfl (in_ix i79 rfl) rfl e80
          refine g_cmp_ge 84 193 (gd rfl) rfl rfl (fun c81 => ?_) (fun c81 => ?_)
          · skip
            refine g_iinc 196 (gd rfl) rfl rfl (Nat.le_of_ble_eq_true rfl) (fun z193 e193 => ?_)
            have i193 := in_add 1 32 e193 j70_4 (in_c 1 rfl) rfl rfl
            refine g_goto 46 (gd rfl) rfl ?_
            exact gg_w (by first | exact Nat.le_add_right _ _ | exact gw2 | exact gw3 | exact gwe rfl | exact gwf rfl | exact gwg rfl | exact gwh rfl | omega) (gg_f (gf_cons rfl (gf_cons rfl (gf_cons rfl (gf_cons rfl (gf_cons rfl gf_nil))))) (ih46 sc70 y70_3 z193 hIc70 hFc70 (in_w 1 32 j70_3 rfl) (in_w 0 32 i193 rfl) (m_up mm46 (t_add e193 j70_4 (in_c 1 rfl) rfl) (in_w 1 1 (in_c 1 rfl) rfl))))
          · skip
            have i81 := r_lt1 0 159 c81 j70_6 i80 rfl
            have i81a := r_lt2 1 160 c81 j70_6 i80 rfl
            refine g_aload_n 85 (gd rfl) rfl rfl ?_
            refine g_getA (q2 := 35) 88 (gd rfl) rfl rfl rfl rfl ?_
            refine g_aload_n 89 (gd rfl) rfl rfl ?_
            refine g_getA (q2 := 43) 92 (gd rfl) rfl rfl rfl rfl ?_
            refine g_iload 94 (gd rfl) rfl rfl ?_
            refine g_iaload 95 (gd rfl) rfl (n := 160) rfl (in_ix i81 rfl) (fun z94 e94 => ?_)
            have i94 := inv_I hIc70 (n := 160) (t := 0) 0 159 rfl (in_ix i81 rfl) rfl e94
            refine g_iaload 96 (gd rfl) rfl (n := 160) rfl (in_ix i94 rfl) (fun z95 e95 => ?_)
            have i95 := inv_I hIc70 (n := 160) (t := 0) 0 31 rfl (in_ix i94 rfl) rfl e95
            refine g_istore 98 (gd rfl) rfl (Nat.le_of_ble_eq_true rfl) ?_
            refine g_aload_n 99 (gd rfl) rfl rfl ?_
            refine g_getA (q2 := 52) 102 (gd rfl) rfl rfl rfl rfl ?_
            refine g_iload 104 (gd rfl) rfl rfl ?_
            refine g_iaload 105 (gd rfl) rfl (n := 32) rfl (in_ix i95 rfl) (fun z104 e104 => ?_)
            refine g_iconst (-1) 106 (gd rfl) rfl rfl ?_
            refine g_cmp_ne 109 142 (gd rfl) rfl rfl (fun c106 => ?_) (fun c106 => ?_)
            · skip
              refine g_aload_n 143 (gd rfl) rfl rfl ?_
              refine g_getA (q2 := 52) 146 (gd rfl) rfl rfl rfl rfl ?_
              refine g_iload 148 (gd rfl) rfl rfl ?_
              refine g_iaload 149 (gd rfl) rfl (n := 32) rfl (in_ix i95 rfl) (fun z148 e148 => ?_)
              have q148 : z104 = z148 := (e104).trans e148.symm
              subst q148
              refine g_aload_n 150 (gd rfl) rfl rfl ?_
              refine g_getA (q2 := 52) 153 (gd rfl) rfl rfl rfl rfl ?_
              refine g_iload 155 (gd rfl) rfl rfl ?_
              refine g_iaload 156 (gd rfl) rfl (n := 32) rfl (in_ix j70_5 rfl) (fun z155 e155 => ?_)
              refine g_iconst 1 157 (gd rfl) rfl rfl ?_
              refine g_iadd 158 (gd rfl) rfl (fun z157 e157 => ?_)
              refine g_cmp_ne 161 187 (gd rfl) rfl rfl (fun c158 => ?_) (fun c158 => ?_)
              · skip
                refine g_iinc 190 (gd rfl) rfl rfl (Nat.le_of_ble_eq_true rfl) (fun z187 e187 => ?_)
                have i187 := in_add 1 160 e187 i81 (in_c 1 rfl) rfl rfl
                refine g_goto 70 (gd rfl) rfl ?_
                exact gg_w (by first | exact Nat.le_add_right _ _ | exact gw2 | exact gw3 | exact gwe rfl | exact gwf rfl | exact gwg rfl | exact gwh rfl | omega) (gg_f (gf_cons rfl (gf_cons rfl (gf_cons rfl (gf_cons rfl (gf_cons rfl (gf_cons rfl (gf_cons rfl gf_nil))))))) (ih70 sc70 y70_3 y70_5 z187 hIc70 hFc70 (in_w 1 32 j70_3 rfl) (in_w 0 31 j70_4 rfl) (in_w 0 31 j70_5 rfl) (in_w 0 160 i187 rfl) (m_up mm70 (t_add e187 i81 (in_c 1 rfl) rfl) (in_w 1 1 (in_c 1 rfl) rfl))))
              · skip
                refine g_aload_n 162 (gd rfl) rfl rfl ?_
                refine g_getA (q2 := 53) 165 (gd rfl) rfl rfl rfl rfl ?_
                refine g_iload 167 (gd rfl) rfl rfl ?_
                refine g_aload_n 168 (gd rfl) rfl rfl ?_
                refine g_getA (q2 := 53) 171 (gd rfl) rfl rfl rfl rfl ?_
                refine g_iload 173 (gd rfl) rfl rfl ?_
                refine g_laload 174 (gd rfl) rfl (n := 32) rfl (in_ix i95 rfl) (fun z173 e173 => ?_)
                refine g_aload_n 175 (gd rfl) rfl rfl ?_
                refine g_getA (q2 := 53) 178 (gd rfl) rfl rfl rfl rfl ?_
                refine g_iload 180 (gd rfl) rfl rfl ?_
                refine g_laload 181 (gd rfl) rfl (n := 32) rfl (in_ix j70_5 rfl) (fun z180 e180 => ?_)
                refine g_ladd 182 (gd rfl) rfl (fun z181 e181 => ?_)
                refine g_ldc2_w 1000000007 185 (gd rfl) rfl rfl ?_
                refine g_lrem 186 (gd rfl) rfl (by decide) (fun z185 e185 => ?_)
                have i185 := l_rem (-1000000006) 1000000006 e185 rfl
                refine g_lastore 187 (gd rfl) rfl (n := 32) rfl (in_ix i95 rfl) ?_
                have hI186 := inv_sL (q := 53) (j := z95.toNatClampNeg) (x := z185) hIc70 rfl (l_rng z185)
                refine g_iinc 190 (gd rfl) rfl rfl (Nat.le_of_ble_eq_true rfl) (fun z187 e187 => ?_)
                have i187 := in_add 1 160 e187 i81 (in_c 1 rfl) rfl rfl
                refine g_goto 70 (gd rfl) rfl ?_
                exact gg_w (by first | exact Nat.le_add_right _ _ | exact gw2 | exact gw3 | exact gwe rfl | exact gwf rfl | exact gwg rfl | exact gwh rfl | omega) (gg_f (gf_cons rfl (gf_cons rfl (gf_cons rfl (gf_cons rfl (gf_cons rfl (gf_cons rfl (gf_cons rfl gf_nil))))))) (ih70 (sL sc70 53 z95.toNatClampNeg z185) y70_3 y70_5 z187 hI186 (fr_sL rfl hFc70) (in_w 1 32 j70_3 rfl) (in_w 0 31 j70_4 rfl) (in_w 0 31 j70_5 rfl) (in_w 0 160 i187 rfl) (m_up mm70 (t_add e187 i81 (in_c 1 rfl) rfl) (in_w 1 1 (in_c 1 rfl) rfl))))
            · skip
              have i106 := r_eq1 (-1) (-1) c106 (i_rng z104) (in_c (-1) rfl) rfl
              refine g_iload_n 110 (gd rfl) rfl rfl ?_
              refine g_bipush 32 112 (gd rfl) rfl rfl ?_
              refine g_cmp_ge 115 142 (gd rfl) rfl rfl (fun c112 => ?_) (fun c112 => ?_)
              · skip
                have i112 := r_le2 32 32 c112 (in_c 32 rfl) j70_3 rfl
                refine g_aload_n 143 (gd rfl) rfl rfl ?_
                refine g_getA (q2 := 52) 146 (gd rfl) rfl rfl rfl rfl ?_
                refine g_iload 148 (gd rfl) rfl rfl ?_
                refine g_iaload 149 (gd rfl) rfl (n := 32) rfl (in_ix i95 rfl) (fun z148 e148 => ?_)
                have q148 : z104 = z148 := (e104).trans e148.symm
                subst q148
                refine g_aload_n 150 (gd rfl) rfl rfl ?_
                refine g_getA (q2 := 52) 153 (gd rfl) rfl rfl rfl rfl ?_
                refine g_iload 155 (gd rfl) rfl rfl ?_
                refine g_iaload 156 (gd rfl) rfl (n := 32) rfl (in_ix j70_5 rfl) (fun z155 e155 => ?_)
                refine g_iconst 1 157 (gd rfl) rfl rfl ?_
                refine g_iadd 158 (gd rfl) rfl (fun z157 e157 => ?_)
                refine g_cmp_ne 161 187 (gd rfl) rfl rfl (fun c158 => ?_) (fun c158 => ?_)
                · skip
                  refine g_iinc 190 (gd rfl) rfl rfl (Nat.le_of_ble_eq_true rfl) (fun z187 e187 => ?_)
                  have i187 := in_add 1 160 e187 i81 (in_c 1 rfl) rfl rfl
                  refine g_goto 70 (gd rfl) rfl ?_
                  exact gg_w (by first | exact Nat.le_add_right _ _ | exact gw2 | exact gw3 | exact gwe rfl | exact gwf rfl | exact gwg rfl | exact gwh rfl | omega) (gg_f (gf_cons rfl (gf_cons rfl (gf_cons rfl (gf_cons rfl (gf_cons rfl (gf_cons rfl (gf_cons rfl gf_nil))))))) (ih70 sc70 y70_3 y70_5 z187 hIc70 hFc70 (in_w 1 32 i112 rfl) (in_w 0 31 j70_4 rfl) (in_w 0 31 j70_5 rfl) (in_w 0 160 i187 rfl) (m_up mm70 (t_add e187 i81 (in_c 1 rfl) rfl) (in_w 1 1 (in_c 1 rfl) rfl))))
                · skip
                  have i158 := r_eq2 (-1) (-1) c158 i106 (i_rng z157) rfl
                  refine g_aload_n 162 (gd rfl) rfl rfl ?_
                  refine g_getA (q2 := 53) 165 (gd rfl) rfl rfl rfl rfl ?_
                  refine g_iload 167 (gd rfl) rfl rfl ?_
                  refine g_aload_n 168 (gd rfl) rfl rfl ?_
                  refine g_getA (q2 := 53) 171 (gd rfl) rfl rfl rfl rfl ?_
                  refine g_iload 173 (gd rfl) rfl rfl ?_
                  refine g_laload 174 (gd rfl) rfl (n := 32) rfl (in_ix i95 rfl) (fun z173 e173 => ?_)
                  refine g_aload_n 175 (gd rfl) rfl rfl ?_
                  refine g_getA (q2 := 53) 178 (gd rfl) rfl rfl rfl rfl ?_
                  refine g_iload 180 (gd rfl) rfl rfl ?_
                  refine g_laload 181 (gd rfl) rfl (n := 32) rfl (in_ix j70_5 rfl) (fun z180 e180 => ?_)
                  refine g_ladd 182 (gd rfl) rfl (fun z181 e181 => ?_)
                  refine g_ldc2_w 1000000007 185 (gd rfl) rfl rfl ?_
                  refine g_lrem 186 (gd rfl) rfl (by decide) (fun z185 e185 => ?_)
                  have i185 := l_rem (-1000000006) 1000000006 e185 rfl
                  refine g_lastore 187 (gd rfl) rfl (n := 32) rfl (in_ix i95 rfl) ?_
                  have hI186 := inv_sL (q := 53) (j := z95.toNatClampNeg) (x := z185) hIc70 rfl (l_rng z185)
                  refine g_iinc 190 (gd rfl) rfl rfl (Nat.le_of_ble_eq_true rfl) (fun z187 e187 => ?_)
                  have i187 := in_add 1 160 e187 i81 (in_c 1 rfl) rfl rfl
                  refine g_goto 70 (gd rfl) rfl ?_
                  exact gg_w (by first | exact Nat.le_add_right _ _ | exact gw2 | exact gw3 | exact gwe rfl | exact gwf rfl | exact gwg rfl | exact gwh rfl | omega) (gg_f (gf_cons rfl (gf_cons rfl (gf_cons rfl (gf_cons rfl (gf_cons rfl (gf_cons rfl (gf_cons rfl gf_nil))))))) (ih70 (sL sc70 53 z95.toNatClampNeg z185) y70_3 y70_5 z187 hI186 (fr_sL rfl hFc70) (in_w 1 32 i112 rfl) (in_w 0 31 j70_4 rfl) (in_w 0 31 j70_5 rfl) (in_w 0 160 i187 rfl) (m_up mm70 (t_add e187 i81 (in_c 1 rfl) rfl) (in_w 1 1 (in_c 1 rfl) rfl))))
              · skip
                have i112 := r_lt1 1 31 c112 j70_3 (in_c 32 rfl) rfl
                refine g_aload_n 116 (gd rfl) rfl rfl ?_
                refine g_getA (q2 := 52) 119 (gd rfl) rfl rfl rfl rfl ?_
                refine g_iload 121 (gd rfl) rfl rfl ?_
                refine g_aload_n 122 (gd rfl) rfl rfl ?_
                refine g_getA (q2 := 52) 125 (gd rfl) rfl rfl rfl rfl ?_
                refine g_iload 127 (gd rfl) rfl rfl ?_
                refine g_iaload 128 (gd rfl) rfl (n := 32) rfl (in_ix j70_5 rfl) (fun z127 e127 => ?_)
                refine g_iconst 1 129 (gd rfl) rfl rfl ?_
                refine g_iadd 130 (gd rfl) rfl (fun z129 e129 => ?_)
                refine g_iastore 131 (gd rfl) rfl (n := 32) rfl (in_ix i95 rfl) ?_
                have hI130 := inv_sI (q := 52) (j := z95.toNatClampNeg) hIc70 rfl (in_w (-2147483648) 2147483647 (i_rng z129) rfl)
                refine g_aload_n 132 (gd rfl) rfl rfl ?_
                refine g_getA (q2 := 54) 135 (gd rfl) rfl rfl rfl rfl ?_
                refine g_iload_n 136 (gd rfl) rfl rfl ?_
                refine g_iload 138 (gd rfl) rfl rfl ?_
                refine g_iastore 139 (gd rfl) rfl (n := 32) rfl (in_ix i112 rfl) ?_
                have hI138 := inv_sI (q := 54) (j := y70_3.toNatClampNeg) hI130 rfl (in_w 0 31 i95 rfl)
                refine g_iinc 142 (gd rfl) rfl rfl (Nat.le_of_ble_eq_true rfl) (fun z139 e139 => ?_)
                have i139 := in_add 2 32 e139 i112 (in_c 1 rfl) rfl rfl
                refine g_aload_n 143 (gd rfl) rfl rfl ?_
                refine g_getA (q2 := 52) 146 (gd rfl) rfl rfl rfl rfl ?_
                refine g_iload 148 (gd rfl) rfl rfl ?_
                refine g_iaload 149 (gd rfl) rfl (n := 32) rfl (in_ix i95 rfl) (fun z148 e148 => ?_)
                have q148 : z129 = z148 := (sI_ne rfl (sI_get)).trans e148.symm
                subst q148
                refine g_aload_n 150 (gd rfl) rfl rfl ?_
                refine g_getA (q2 := 52) 153 (gd rfl) rfl rfl rfl rfl ?_
                refine g_iload 155 (gd rfl) rfl rfl ?_
                refine g_iaload 156 (gd rfl) rfl (n := 32) rfl (in_ix j70_5 rfl) (fun z155 e155 => ?_)
                refine g_iconst 1 157 (gd rfl) rfl rfl ?_
                refine g_iadd 158 (gd rfl) rfl (fun z157 e157 => ?_)
                refine g_cmp_ne 161 187 (gd rfl) rfl rfl (fun c158 => ?_) (fun c158 => ?_)
                · skip
                  refine g_iinc 190 (gd rfl) rfl rfl (Nat.le_of_ble_eq_true rfl) (fun z187 e187 => ?_)
                  have i187 := in_add 1 160 e187 i81 (in_c 1 rfl) rfl rfl
                  refine g_goto 70 (gd rfl) rfl ?_
                  exact gg_w (by first | exact Nat.le_add_right _ _ | exact gw2 | exact gw3 | exact gwe rfl | exact gwf rfl | exact gwg rfl | exact gwh rfl | omega) (gg_f (gf_cons rfl (gf_cons rfl (gf_cons rfl (gf_cons rfl (gf_cons rfl (gf_cons rfl (gf_cons rfl gf_nil))))))) (ih70 (sI (sI sc70 52 z95.toNatClampNeg z129) 54 y70_3.toNatClampNeg z95) z139 y70_5 z187 hI138 (fr_sI rfl (fr_sI rfl hFc70)) (in_w 1 32 i139 rfl) (in_w 0 31 j70_4 rfl) (in_w 0 31 j70_5 rfl) (in_w 0 160 i187 rfl) (m_up mm70 (t_add e187 i81 (in_c 1 rfl) rfl) (in_w 1 1 (in_c 1 rfl) rfl))))
                · skip
                  refine g_aload_n 162 (gd rfl) rfl rfl ?_
                  refine g_getA (q2 := 53) 165 (gd rfl) rfl rfl rfl rfl ?_
                  refine g_iload 167 (gd rfl) rfl rfl ?_
                  refine g_aload_n 168 (gd rfl) rfl rfl ?_
                  refine g_getA (q2 := 53) 171 (gd rfl) rfl rfl rfl rfl ?_
                  refine g_iload 173 (gd rfl) rfl rfl ?_
                  refine g_laload 174 (gd rfl) rfl (n := 32) rfl (in_ix i95 rfl) (fun z173 e173 => ?_)
                  refine g_aload_n 175 (gd rfl) rfl rfl ?_
                  refine g_getA (q2 := 53) 178 (gd rfl) rfl rfl rfl rfl ?_
                  refine g_iload 180 (gd rfl) rfl rfl ?_
                  refine g_laload 181 (gd rfl) rfl (n := 32) rfl (in_ix j70_5 rfl) (fun z180 e180 => ?_)
                  refine g_ladd 182 (gd rfl) rfl (fun z181 e181 => ?_)
                  refine g_ldc2_w 1000000007 185 (gd rfl) rfl rfl ?_
                  refine g_lrem 186 (gd rfl) rfl (by decide) (fun z185 e185 => ?_)
                  have i185 := l_rem (-1000000006) 1000000006 e185 rfl
                  refine g_lastore 187 (gd rfl) rfl (n := 32) rfl (in_ix i95 rfl) ?_
                  have hI186 := inv_sL (q := 53) (j := z95.toNatClampNeg) (x := z185) hI138 rfl (l_rng z185)
                  refine g_iinc 190 (gd rfl) rfl rfl (Nat.le_of_ble_eq_true rfl) (fun z187 e187 => ?_)
                  have i187 := in_add 1 160 e187 i81 (in_c 1 rfl) rfl rfl
                  refine g_goto 70 (gd rfl) rfl ?_
                  exact gg_w (by first | exact Nat.le_add_right _ _ | exact gw2 | exact gw3 | exact gwe rfl | exact gwf rfl | exact gwg rfl | exact gwh rfl | omega) (gg_f (gf_cons rfl (gf_cons rfl (gf_cons rfl (gf_cons rfl (gf_cons rfl (gf_cons rfl (gf_cons rfl gf_nil))))))) (ih70 (sL (sI (sI sc70 52 z95.toNatClampNeg z129) 54 y70_3.toNatClampNeg z95) 53 z95.toNatClampNeg z185) z139 y70_5 z187 hI186 (fr_sL rfl (fr_sI rfl (fr_sI rfl hFc70))) (in_w 1 32 i139 rfl) (in_w 0 31 j70_4 rfl) (in_w 0 31 j70_5 rfl) (in_w 0 160 i187 rfl) (m_up mm70 (t_add e187 i81 (in_c 1 rfl) rfl) (in_w 1 1 (in_c 1 rfl) rfl))))
      refine g_iload 48 (gd rfl) rfl rfl ?_
      refine g_iload_n 49 (gd rfl) rfl rfl ?_
      refine g_cmp_ge 52 199 (gd rfl) rfl rfl (fun c49 => ?_) (fun c49 => ?_)
      · skip
        have i49 := r_le2 1 32 c49 j46_3 j46_4 rfl
        exact g_return (gd rfl) rfl (hP _ _ ⟨sc46, hIc46, hFc46, rfl, rfl⟩)
      · skip
        have i49 := r_lt1 0 31 c49 j46_4 j46_3 rfl
        refine g_aload_n 53 (gd rfl) rfl rfl ?_
        refine g_getA (q2 := 54) 56 (gd rfl) rfl rfl rfl rfl ?_
        refine g_iload 58 (gd rfl) rfl rfl ?_
        refine g_iaload 59 (gd rfl) rfl (n := 32) rfl (in_ix i49 rfl) (fun z58 e58 => ?_)
        have i58 := inv_I hIc46 (n := 32) (t := 0) 0 31 rfl (in_ix i49 rfl) rfl e58
        refine g_istore 61 (gd rfl) rfl (Nat.le_of_ble_eq_true rfl) ?_
        refine g_aload_n 62 (gd rfl) rfl rfl ?_
        refine g_getA (q2 := 42) 65 (gd rfl) rfl rfl rfl rfl ?_
        refine g_iload 67 (gd rfl) rfl rfl ?_
        refine g_iaload 68 (gd rfl) rfl (n := 33) rfl (in_ix i58 rfl) (fun z67 e67 => ?_)
        have i67 := inv_I hIc46 (n := 33) (t := 0) 0 160 rfl (in_ix i58 rfl) rfl e67
        refine g_istore 70 (gd rfl) rfl (Nat.le_of_ble_eq_true rfl) ?_
        exact gg_w (by first | exact Nat.le_add_right _ _ | exact gw2 | exact gw3 | exact gwe rfl | exact gwf rfl | exact gwg rfl | exact gwh rfl | omega) (gg_f (gf_cons rfl (gf_cons rfl (gf_cons rfl (gf_cons rfl (gf_cons rfl (gf_cons rfl (gf_cons rfl gf_nil))))))) (ct70 161 sc46 y46_3 z58 z67 hIc46 hFc46 (in_w 1 32 j46_3 rfl) (in_w 0 31 i49 rfl) (in_w 0 31 i58 rfl) (in_w 0 160 i67 rfl) (m_in 161 (in_w 0 160 i67 rfl) rfl)))
  refine g_enter2 (k := 204) (N := 4871734) (by first | exact dq1 hd rfl | exact dq0 hd rfl | exact dq2 hd rfl | exact dq3 hd rfl | omega) rfl (Nat.le_of_ble_eq_true rfl) ?_
  refine g_aload_n 1 (gd rfl) rfl rfl ?_
  refine g_callv (X := _) (As := []) (r := []) (b := A 32) (q := 32) 4 (gd rfl) rfl rfl rfl rfl rfl (ww_o rfl) (Nat.le_of_ble_eq_true rfl) (Nat.zero_le _) (Nat.zero_le _) (k_106_32 (by first | exact dq1 hd rfl | exact dq0 hd rfl | exact dq2 hd rfl | exact dq3 hd rfl | omega) hI ) (fun e u h => h) (fun v u h => ?_)
  obtain ⟨s1, hI1, hF1, n1, rfl, rfl⟩ := h
  obtain ⟨z1a, e1⟩ : ∃ w, w = s1.2.2.1 32 4 := ⟨_, rfl⟩
  have i1a := inv_F hI1 (-1) 4000 rfl e1
  obtain ⟨z1b, e1a⟩ : ∃ w, w = s1.2.2.1 32 0 := ⟨_, rfl⟩
  have i1b := inv_F hI1 0 4000 rfl e1a
  rw [← (show z1a = s1.2.2.1 32 4 from e1)] at n1
  rw [← (show z1b = s1.2.2.1 32 0 from e1a)] at n1
  show GG _ _ _ _ _ _ _ _ [] _ _ _
  refine g_aload_n 5 (gd rfl) rfl rfl ?_
  refine g_getA (q2 := 52) 8 (gd rfl) rfl rfl rfl rfl ?_
  refine g_iconst (-1) 9 (gd rfl) rfl rfl ?_
  refine g_calls (As := [.ref (A 52), .int (Int32.ofInt (-1))]) (r := []) 12 (gd rfl) rfl rfl rfl rfl rfl (Nat.le_of_ble_eq_true rfl) (Nat.zero_le _) (Nat.zero_le _) (k_fillI 52 (by first | exact dq1 hd rfl | exact dq0 hd rfl | exact dq2 hd rfl | exact dq3 hd rfl | omega) hI1 (in_c (-1) rfl) (n := 32) rfl rfl rfl rfl) (fun v u h => ?_)
  obtain ⟨s9, hI9, hF9, rfl, rfl, fl9⟩ := h
  show GG _ _ _ _ _ _ _ _ [] _ _ _
  refine g_aload_n 13 (gd rfl) rfl rfl ?_
  refine g_getA (q2 := 53) 16 (gd rfl) rfl rfl rfl rfl ?_
  refine g_lconst 0 17 (gd rfl) rfl rfl ?_
  refine g_calls (As := [.ref (A 53), .long (Int64.ofInt 0)]) (r := []) 20 (gd rfl) rfl rfl rfl rfl rfl (Nat.le_of_ble_eq_true rfl) (Nat.zero_le _) (Nat.zero_le _) (k_fillL 53 (by first | exact dq1 hd rfl | exact dq0 hd rfl | exact dq2 hd rfl | exact dq3 hd rfl | omega) hI9 (n := 32) rfl rfl rfl (l_rng (Int64.ofInt 0))) (fun v u h => ?_)
  obtain ⟨s17, hI17, hF17, rfl, rfl, fl17⟩ := h
  show GG _ _ _ _ _ _ _ _ [] _ _ _
  refine g_aload_n 21 (gd rfl) rfl rfl ?_
  refine g_getA (q2 := 52) 24 (gd rfl) rfl rfl rfl rfl ?_
  refine g_iload_n 25 (gd rfl) rfl rfl ?_
  refine g_iconst 0 26 (gd rfl) rfl rfl ?_
  refine g_iastore 27 (gd rfl) rfl (n := 32) rfl (in_ix h2 rfl) ?_
  have hI26 := inv_sI (q := 52) (j := x2.toNatClampNeg) hI17 rfl (in_w (-2147483648) 2147483647 (in_c 0 rfl) rfl)
  refine g_aload_n 28 (gd rfl) rfl rfl ?_
  refine g_getA (q2 := 53) 31 (gd rfl) rfl rfl rfl rfl ?_
  refine g_iload_n 32 (gd rfl) rfl rfl ?_
  refine g_lconst 1 33 (gd rfl) rfl rfl ?_
  refine g_lastore 34 (gd rfl) rfl (n := 32) rfl (in_ix h2 rfl) ?_
  have hI33 := inv_sL (q := 53) (j := x2.toNatClampNeg) (x := (Int64.ofInt 1)) hI26 rfl (l_rng (Int64.ofInt 1))
  refine g_aload_n 35 (gd rfl) rfl rfl ?_
  refine g_getA (q2 := 54) 38 (gd rfl) rfl rfl rfl rfl ?_
  refine g_iconst 0 39 (gd rfl) rfl rfl ?_
  refine g_iload_n 40 (gd rfl) rfl rfl ?_
  refine g_iastore 41 (gd rfl) rfl (n := 32) rfl (in_ix (in_c 0 rfl) rfl) ?_
  have hI40 := inv_sI (q := 54) (j := (Int32.ofInt 0).toNatClampNeg) hI33 rfl (in_w 0 31 h2 rfl)
  refine g_iconst 1 42 (gd rfl) rfl rfl ?_
  refine g_istore_n 43 (gd rfl) rfl (Nat.le_of_ble_eq_true rfl) ?_
  refine g_iconst 0 44 (gd rfl) rfl rfl ?_
  refine g_istore 46 (gd rfl) rfl (Nat.le_of_ble_eq_true rfl) ?_
  exact gg_w (by first | exact Nat.le_of_ble_eq_true rfl | omega) (gg_f (gf_cons rfl (gf_cons rfl (gf_cons rfl (gf_cons rfl (gf_cons rfl gf_nil))))) (ct46 33 (sI (sL (sI s17 52 x2.toNatClampNeg (Int32.ofInt 0)) 53 x2.toNatClampNeg (Int64.ofInt 1)) 54 (Int32.ofInt 0).toNatClampNeg x2) (Int32.ofInt 1) (Int32.ofInt 0) hI40 (fr_sI rfl (fr_sL rfl (fr_sI rfl (fr_tr rfl (fr_tr rfl (fr_tr rfl fr_rf hF1) hF9) hF17)))) (in_w 1 32 (in_c 1 rfl) rfl) (in_w 0 32 (in_c 0 rfl) rfl) (m_in 33 (in_w 0 32 (in_c 0 rfl) rfl) rfl)))

def fm_210_49 : FM := ([], [55], [], [])
/-- GraphHouse$Ways.sortKeys -/
theorem k_210_49 {Z : AmZ} {A : Nat → Nat} {s : GS} {ex : va_W} {d : Nat} {X : AmX}  (hd : 1 ≤ d) (hI : Inv s)  : GC Z d 210 [.ref (A 49)] (WW Z A s ++ ex) 0 0 (fun v u => ∃ t : GS, Inv t ∧ Fr fm_210_49 s t ∧ v = none ∧ u = WW Z A t ++ ex) X := by
  intro post xp hP hX
  obtain ⟨u_49_11, e_49_11⟩ : ∃ w, w = s.2.2.1 49 11 := ⟨_, rfl⟩
  have ro_49_11 := inv_F hI 0 2001 rfl e_49_11
  have ct21 : ∀ (k21 : Nat) (sc21 : GS) (y21_1 : Int32), Inv sc21 → Fr fm_210_49 s sc21 → (In y21_1 0 2001) → (y21_1).toInt < (k21 : Int) → GG Z (d - 1) 210 post (gx xp) (1 + k21 * 10817109402) 21 (fun j => xlook j [(0, .ref (A 49)), (1, .int y21_1)]) [] (WW Z A sc21 ++ ex) 0 0 := by
    intro k21
    induction k21 with
    | zero => intro sc21 y21_1 hIc21 hFc21 j21_1 mm21; exfalso; (first | have a0 := in_u ro_49_11 | (have a0 := ro_49_11; unfold In at a0)); have a1 := j21_1; unfold In at a1; omega
    | succ k21 ih21 =>
      intro sc21 y21_1 hIc21 hFc21 j21_1 mm21
      refine gg_w (M := 1 + k21 * 10817109402 + 10817109402) gws ?_
      have ct27 : ∀ (k27 : Nat) (sc27 : GS) (y27_2 : Int32), Inv sc27 → Fr fm_210_49 s sc27 → (In y21_1 1 2001) → (In y27_2 1 4000) → 4000 - (y27_2).toInt < (k27 : Int) → GG Z (d - 1) 210 post (gx xp) (1 + k21 * 10817109402 + 1 + k27 * 2703601) 27 (fun j => xlook j [(0, .ref (A 49)), (1, .int y21_1), (2, .int y27_2)]) [] (WW Z A sc27 ++ ex) 0 0 := by
        intro k27
        induction k27 with
        | zero => intro sc27 y27_2 hIc27 hFc27 j27_1 j27_2 mm27; exact m_no mm27 j27_2 rfl
        | succ k27 ih27 =>
          intro sc27 y27_2 hIc27 hFc27 j27_1 j27_2 mm27
          refine gg_w (M := 1 + k21 * 10817109402 + 1 + k27 * 2703601 + 2703601) gws ?_
          have ct45 : ∀ (k45 : Nat) (sc45 : GS) (y45_3 : Int64) (y45_5 : Int32), Inv sc45 → Fr fm_210_49 s sc45 → (In y27_2 1 2001) → (In y45_5 0 2000) → (y45_5).toInt < (k45 : Int) → GG Z (d - 1) 210 post (gx xp) (1 + k21 * 10817109402 + 1 + k27 * 2703601 + 1 + k45 * 900) 45 (fun j => xlook j [(0, .ref (A 49)), (1, .int y21_1), (2, .int y27_2), (3, .long y45_3), (5, .int y45_5)]) [] (WW Z A sc45 ++ ex) 0 0 := by
            intro k45
            induction k45 with
            | zero => intro sc45 y45_3 y45_5 hIc45 hFc45 j45_2 j45_5 mm45; exfalso; have a0 := j45_2; unfold In at a0; (first | have a1 := oa2 j27_1 ro_49_11 | ((first | have a1 := in_u j27_1 | (have a1 := j27_1; unfold In at a1)); (first | have a2 := in_u ro_49_11 | (have a2 := ro_49_11; unfold In at a2)))); have a3 := j45_5; unfold In at a3; omega
            | succ k45 ih45 =>
              intro sc45 y45_3 y45_5 hIc45 hFc45 j45_2 j45_5 mm45
              refine gg_w (M := 1 + k21 * 10817109402 + 1 + k27 * 2703601 + 1 + k45 * 900 + 900) gws ?_
              refine g_iload 47 (gd rfl) rfl rfl ?_
              refine g_iload_n 48 (gd rfl) rfl rfl ?_
              refine g_cmp_lt 51 90 (gd rfl) rfl rfl (fun c48 => ?_) (fun c48 => ?_)
              · skip
                refine g_aload_n 91 (gd rfl) rfl rfl ?_
                refine g_getA (q2 := 55) 94 (gd rfl) rfl rfl rfl rfl ?_
                refine g_iload 96 (gd rfl) rfl rfl ?_
                refine g_lload_n 97 (gd rfl) rfl rfl ?_
                refine g_lastore 98 (gd rfl) rfl (n := 2001) rfl (in_ix j45_5 rfl) ?_
                have hI97 := inv_sL (q := 55) (j := y45_5.toNatClampNeg) (x := y45_3) hIc45 rfl (l_rng y45_3)
                refine g_iinc 101 (gd rfl) rfl rfl (Nat.le_of_ble_eq_true rfl) (fun z98 e98 => ?_)
                have i98 := in_add 2 2002 e98 j45_2 (in_c 1 rfl) rfl rfl
                refine g_goto 27 (gd rfl) rfl ?_
                exact gg_w (by first | exact Nat.le_add_right _ _ | exact gw2 | exact gw3 | exact gwe rfl | exact gwf rfl | exact gwg rfl | exact gwh rfl | omega) (gg_f (gf_cons rfl (gf_cons rfl (gf_cons rfl gf_nil))) (ih27 (sL sc45 55 y45_5.toNatClampNeg y45_3) z98 hI97 (fr_sL rfl hFc45) (in_w 1 2001 j27_1 rfl) (in_w 1 4000 i98 rfl) (m_up mm27 (t_add e98 j45_2 (in_c 1 rfl) rfl) (in_w 1 1 (in_c 1 rfl) rfl))))
              · skip
                have i48 := r_le1 1 2000 c48 j27_1 j45_5 rfl
                have i48a := r_le2 1 2000 c48 j27_1 j45_5 rfl
                refine g_aload_n 52 (gd rfl) rfl rfl ?_
                refine g_getA (q2 := 55) 55 (gd rfl) rfl rfl rfl rfl ?_
                refine g_iload 57 (gd rfl) rfl rfl ?_
                refine g_iload_n 58 (gd rfl) rfl rfl ?_
                refine g_isub 59 (gd rfl) rfl (fun z58 e58 => ?_)
                have i58 := in_sub (-1999) 1999 e58 i48a i48 rfl rfl
                have i59 : In z58 0 2000 := by (first | have a0 := oa5 j45_2 i48 ro_49_11 i48a i58 | ((first | have a0 := in_u j45_2 | (have a0 := j45_2; unfold In at a0)); (first | have a1 := in_u i48 | (have a1 := i48; unfold In at a1)); (first | have a2 := in_u ro_49_11 | (have a2 := ro_49_11; unfold In at a2)); (first | have a3 := in_u i48a | (have a3 := i48a; unfold In at a3)); (first | have a4 := in_u i58 | (have a4 := i58; unfold In at a4)))); have a5 := t_sub e58 i48a i48 rfl; exact ⟨by omega, by omega⟩
                refine g_laload 60 (gd rfl) rfl (n := 2001) rfl (in_ix i59 rfl) (fun z59 e59 => ?_)
                refine g_lload_n 61 (gd rfl) rfl rfl ?_
                refine g_lcmp 62 (gd rfl) rfl (fun z61 e61 => ?_)
                have i61 := lc_in e61
                refine g_if_le 65 90 (gd rfl) rfl rfl (fun c62 => ?_) (fun c62 => ?_)
                · skip
                  have i62 := z_le (-1) 0 c62 i61 rfl
                  have c62a := lc_le e61 c62
                  refine g_aload_n 91 (gd rfl) rfl rfl ?_
                  refine g_getA (q2 := 55) 94 (gd rfl) rfl rfl rfl rfl ?_
                  refine g_iload 96 (gd rfl) rfl rfl ?_
                  refine g_lload_n 97 (gd rfl) rfl rfl ?_
                  refine g_lastore 98 (gd rfl) rfl (n := 2001) rfl (in_ix i48a rfl) ?_
                  have hI97 := inv_sL (q := 55) (j := y45_5.toNatClampNeg) (x := y45_3) hIc45 rfl (l_rng y45_3)
                  refine g_iinc 101 (gd rfl) rfl rfl (Nat.le_of_ble_eq_true rfl) (fun z98 e98 => ?_)
                  have i98 := in_add 2 2002 e98 j45_2 (in_c 1 rfl) rfl rfl
                  refine g_goto 27 (gd rfl) rfl ?_
                  exact gg_w (by first | exact Nat.le_add_right _ _ | exact gw2 | exact gw3 | exact gwe rfl | exact gwf rfl | exact gwg rfl | exact gwh rfl | omega) (gg_f (gf_cons rfl (gf_cons rfl (gf_cons rfl gf_nil))) (ih27 (sL sc45 55 y45_5.toNatClampNeg y45_3) z98 hI97 (fr_sL rfl hFc45) (in_w 1 2001 i48 rfl) (in_w 1 4000 i98 rfl) (m_up mm27 (t_add e98 j45_2 (in_c 1 rfl) rfl) (in_w 1 1 (in_c 1 rfl) rfl))))
                · skip
                  have i62 := z_gt 1 1 c62 i61 rfl
                  have c62a := lc_gt e61 c62
                  have i62a := lr_lt1 (-9223372036854775808) 9223372036854775806 c62a (l_rng y45_3) (l_rng z59) rfl
                  have i62b := lr_lt2 (-9223372036854775807) 9223372036854775807 c62a (l_rng y45_3) (l_rng z59) rfl
                  refine g_aload_n 66 (gd rfl) rfl rfl ?_
                  refine g_getA (q2 := 55) 69 (gd rfl) rfl rfl rfl rfl ?_
                  refine g_iload 71 (gd rfl) rfl rfl ?_
                  refine g_aload_n 72 (gd rfl) rfl rfl ?_
                  refine g_getA (q2 := 55) 75 (gd rfl) rfl rfl rfl rfl ?_
                  refine g_iload 77 (gd rfl) rfl rfl ?_
                  refine g_iload_n 78 (gd rfl) rfl rfl ?_
                  refine g_isub 79 (gd rfl) rfl (fun z78 e78 => ?_)
                  have i78 := in_sub (-1999) 1999 e78 i48a i48 rfl rfl
                  have i79 : In z78 0 2000 := by (first | have a0 := oa5 j45_2 i48 ro_49_11 i48a i78 | ((first | have a0 := in_u j45_2 | (have a0 := j45_2; unfold In at a0)); (first | have a1 := in_u i48 | (have a1 := i48; unfold In at a1)); (first | have a2 := in_u ro_49_11 | (have a2 := ro_49_11; unfold In at a2)); (first | have a3 := in_u i48a | (have a3 := i48a; unfold In at a3)); (first | have a4 := in_u i78 | (have a4 := i78; unfold In at a4)))); have a5 := t_sub e78 i48a i48 rfl; (first | have a6 := in_u i59 | (have a6 := i59; unfold In at a6)); have a7 := t_sub e58 i48a i48 rfl; exact ⟨by omega, by omega⟩
                  refine g_laload 80 (gd rfl) rfl (n := 2001) rfl (in_ix i79 rfl) (fun z79 e79 => ?_)
                  refine g_lastore 81 (gd rfl) rfl (n := 2001) rfl (in_ix i48a rfl) ?_
                  have hI80 := inv_sL (q := 55) (j := y45_5.toNatClampNeg) (x := z79) hIc45 rfl (l_rng z79)
                  refine g_iload 83 (gd rfl) rfl rfl ?_
                  refine g_iload_n 84 (gd rfl) rfl rfl ?_
                  refine g_isub 85 (gd rfl) rfl (fun z84 e84 => ?_)
                  have i84 := in_sub (-1999) 1999 e84 i48a i48 rfl rfl
                  refine g_istore 87 (gd rfl) rfl (Nat.le_of_ble_eq_true rfl) ?_
                  refine g_goto 45 (gd rfl) rfl ?_
                  have i45 : In z84 0 2000 := by exact ⟨by (first | have a0 := oa5 j45_2 i48 ro_49_11 i48a i84 | ((first | have a0 := in_u j45_2 | (have a0 := j45_2; unfold In at a0)); (first | have a1 := in_u i48 | (have a1 := i48; unfold In at a1)); (first | have a2 := in_u ro_49_11 | (have a2 := ro_49_11; unfold In at a2)); (first | have a3 := in_u i48a | (have a3 := i48a; unfold In at a3)); (first | have a4 := in_u i84 | (have a4 := i84; unfold In at a4)))); have a5 := t_sub e84 i48a i48 rfl; (first | have a6 := in_u i79 | (have a6 := i79; unfold In at a6)); have a7 := t_sub e78 i48a i48 rfl; (first | have a8 := in_u i59 | (have a8 := i59; unfold In at a8)); have a9 := t_sub e58 i48a i48 rfl; omega, by (first | have a0 := oa5 j45_2 i48 ro_49_11 i48a i84 | ((first | have a0 := in_u j45_2 | (have a0 := j45_2; unfold In at a0)); (first | have a1 := in_u i48 | (have a1 := i48; unfold In at a1)); (first | have a2 := in_u ro_49_11 | (have a2 := ro_49_11; unfold In at a2)); (first | have a3 := in_u i48a | (have a3 := i48a; unfold In at a3)); (first | have a4 := in_u i84 | (have a4 := i84; unfold In at a4)))); have a5 := t_sub e84 i48a i48 rfl; (first | have a6 := in_u i79 | (have a6 := i79; unfold In at a6)); have a7 := t_sub e78 i48a i48 rfl; (first | have a8 := in_u i59 | (have a8 := i59; unfold In at a8)); have a9 := t_sub e58 i48a i48 rfl; omega⟩
                  have m45 : (z84).toInt < ((k45 : Nat) : Int) := by (first | have a0 := oa5 j45_2 i48 ro_49_11 i48a i45 | ((first | have a0 := in_u j45_2 | (have a0 := j45_2; unfold In at a0)); (first | have a1 := in_u i48 | (have a1 := i48; unfold In at a1)); (first | have a2 := in_u ro_49_11 | (have a2 := ro_49_11; unfold In at a2)); (first | have a3 := in_u i48a | (have a3 := i48a; unfold In at a3)); (first | have a4 := in_u i45 | (have a4 := i45; unfold In at a4)))); have a5 := t_sub e84 i48a i48 rfl; (first | have a6 := in_u i79 | (have a6 := i79; unfold In at a6)); have a7 := t_sub e78 i48a i48 rfl; (first | have a8 := in_u i59 | (have a8 := i59; unfold In at a8)); have a9 := t_sub e58 i48a i48 rfl; omega
                  exact gg_w (by first | exact Nat.le_add_right _ _ | exact gw2 | exact gw3 | exact gwe rfl | exact gwf rfl | exact gwg rfl | exact gwh rfl | omega) (gg_f (gf_cons rfl (gf_cons rfl (gf_cons rfl (gf_cons rfl (gf_cons rfl gf_nil))))) (ih45  (sL sc45 55 y45_5.toNatClampNeg z79) y45_3 z84 hI80 (fr_sL rfl hFc45) (in_w 1 2001 j45_2 rfl) i45 m45))
          refine g_iload_n 28 (gd rfl) rfl rfl ?_
          refine g_aload_n 29 (gd rfl) rfl rfl ?_
          refine g_getI 32 (gd rfl) rfl rfl rfl (fun z29 e29 => ?_)
          have q29 : u_49_11 = z29 := (fr_F e_49_11 hFc27 rfl).trans e29.symm
          subst q29
          refine g_cmp_ge 35 104 (gd rfl) rfl rfl (fun c32 => ?_) (fun c32 => ?_)
          · skip
            refine g_iload_n 105 (gd rfl) rfl rfl ?_
            refine g_iconst 3 106 (gd rfl) rfl rfl ?_
            refine g_idiv 107 (gd rfl) rfl (by decide) (fun z106 e106 => ?_)
            have i106 := in_div 0 667 e106 j27_1 rfl rfl
            refine g_istore_n 108 (gd rfl) rfl (Nat.le_of_ble_eq_true rfl) ?_
            refine g_goto 21 (gd rfl) rfl ?_
            have m21 : (z106).toInt < ((k21 : Nat) : Int) := by (first | have a0 := oa4 j27_1 ro_49_11 j27_2 i106 | ((first | have a0 := in_u j27_1 | (have a0 := j27_1; unfold In at a0)); (first | have a1 := in_u ro_49_11 | (have a1 := ro_49_11; unfold In at a1)); (first | have a2 := in_u j27_2 | (have a2 := j27_2; unfold In at a2)); (first | have a3 := in_u i106 | (have a3 := i106; unfold In at a3)))); have a4 := t_div e106 j27_1 rfl; omega
            exact gg_w (by first | exact Nat.le_add_right _ _ | exact gw2 | exact gw3 | exact gwe rfl | exact gwf rfl | exact gwg rfl | exact gwh rfl | omega) (gg_f (gf_cons rfl (gf_cons rfl gf_nil)) (ih21  sc27 z106 hIc27 hFc27 (in_w 0 2001 i106 rfl) m21))
          · skip
            have i32 := r_lt1 1 2000 c32 j27_2 ro_49_11 rfl
            have i32a := r_lt2 2 2001 c32 j27_2 ro_49_11 rfl
            refine g_aload_n 36 (gd rfl) rfl rfl ?_
            refine g_getA (q2 := 55) 39 (gd rfl) rfl rfl rfl rfl ?_
            refine g_iload_n 40 (gd rfl) rfl rfl ?_
            refine g_laload 41 (gd rfl) rfl (n := 2001) rfl (in_ix i32 rfl) (fun z40 e40 => ?_)
            refine g_lstore_n 42 (gd rfl) rfl (Nat.le_of_ble_eq_true rfl) ?_
            refine g_iload_n 43 (gd rfl) rfl rfl ?_
            refine g_istore 45 (gd rfl) rfl (Nat.le_of_ble_eq_true rfl) ?_
            have m45 : (y27_2).toInt < ((3001 : Nat) : Int) := by (first | have a0 := oa3 j27_1 i32a i32 | ((first | have a0 := in_u j27_1 | (have a0 := j27_1; unfold In at a0)); (first | have a1 := in_u i32a | (have a1 := i32a; unfold In at a1)); (first | have a2 := in_u i32 | (have a2 := i32; unfold In at a2)))); omega
            exact gg_w (by first | exact Nat.le_add_right _ _ | exact gw2 | exact gw3 | exact gwe rfl | exact gwf rfl | exact gwg rfl | exact gwh rfl | omega) (gg_f (gf_cons rfl (gf_cons rfl (gf_cons rfl (gf_cons rfl (gf_cons rfl gf_nil))))) (ct45 3001 sc27 z40 y27_2 hIc27 hFc27 (in_w 1 2001 i32 rfl) (in_w 0 2000 i32 rfl) m45))
      refine g_iload_n 22 (gd rfl) rfl rfl ?_
      refine g_if_le 25 111 (gd rfl) rfl rfl (fun c22 => ?_) (fun c22 => ?_)
      · skip
        have i22 := z_le 0 0 c22 j21_1 rfl
        exact g_return (gd rfl) rfl (hP _ _ ⟨sc21, hIc21, hFc21, rfl, rfl⟩)
      · skip
        have i22 := z_gt 1 2001 c22 j21_1 rfl
        refine g_iload_n 26 (gd rfl) rfl rfl ?_
        refine g_istore_n 27 (gd rfl) rfl (Nat.le_of_ble_eq_true rfl) ?_
        exact gg_w (by first | exact Nat.le_add_right _ _ | exact gw2 | exact gw3 | exact gwe rfl | exact gwf rfl | exact gwg rfl | exact gwh rfl | omega) (gg_f (gf_cons rfl (gf_cons rfl (gf_cons rfl gf_nil))) (ct27 4000 sc21 y21_1 hIc21 hFc21 (in_w 1 2001 i22 rfl) (in_w 1 4000 i22 rfl) (m_in 4000 (in_w 1 4000 i22 rfl) rfl)))
  have ct2 : ∀ (k2 : Nat) (sc2 : GS) (y2_1 : Int32), Inv sc2 → Fr fm_210_49 s sc2 → (In y2_1 1 2001) → 3000 - (y2_1).toInt < (k2 : Int) → GG Z (d - 1) 210 post (gx xp) (32462145315404 + k2 * 900) 2 (fun j => xlook j [(0, .ref (A 49)), (1, .int y2_1)]) [] (WW Z A sc2 ++ ex) 0 0 := by
    intro k2
    induction k2 with
    | zero => intro sc2 y2_1 hIc2 hFc2 j2_1 mm2; exfalso; (first | have a0 := in_u ro_49_11 | (have a0 := ro_49_11; unfold In at a0)); have a1 := j2_1; unfold In at a1; omega
    | succ k2 ih2 =>
      intro sc2 y2_1 hIc2 hFc2 j2_1 mm2
      refine gg_w (M := 32462145315404 + k2 * 900 + 900) gws ?_
      refine g_iload_n 3 (gd rfl) rfl rfl ?_
      refine g_aload_n 4 (gd rfl) rfl rfl ?_
      refine g_getI 7 (gd rfl) rfl rfl rfl (fun z4 e4 => ?_)
      have q4 : u_49_11 = z4 := (fr_F e_49_11 hFc2 rfl).trans e4.symm
      subst q4
      refine g_iconst 3 8 (gd rfl) rfl rfl ?_
      refine g_idiv 9 (gd rfl) rfl (by decide) (fun z8 e8 => ?_)
      have i8 := in_div 0 667 e8 ro_49_11 rfl rfl
      refine g_cmp_ge 12 21 (gd rfl) rfl rfl (fun c9 => ?_) (fun c9 => ?_)
      · skip
        have m21 : (y2_1).toInt < ((3001 : Nat) : Int) := by (first | have a0 := oa3 ro_49_11 j2_1 i8 | ((first | have a0 := in_u ro_49_11 | (have a0 := ro_49_11; unfold In at a0)); (first | have a1 := in_u j2_1 | (have a1 := j2_1; unfold In at a1)); (first | have a2 := in_u i8 | (have a2 := i8; unfold In at a2)))); have a3 := t_div e8 ro_49_11 rfl; omega
        exact gg_w (by first | exact Nat.le_add_right _ _ | exact gw2 | exact gw3 | exact gwe rfl | exact gwf rfl | exact gwg rfl | exact gwh rfl | omega) (gg_f (gf_cons rfl (gf_cons rfl gf_nil)) (ct21 3001 sc2 y2_1 hIc2 hFc2 (in_w 0 2001 j2_1 rfl) m21))
      · skip
        have i9 := r_lt1 1 666 c9 j2_1 i8 rfl
        have i9a := r_lt2 2 667 c9 j2_1 i8 rfl
        refine g_iconst 3 13 (gd rfl) rfl rfl ?_
        refine g_iload_n 14 (gd rfl) rfl rfl ?_
        refine g_imul 15 (gd rfl) rfl (fun z14 e14 => ?_)
        have i14 := in_mulc 3 3 1998 (Or.inl e14) i9 rfl rfl
        refine g_iconst 1 16 (gd rfl) rfl rfl ?_
        refine g_iadd 17 (gd rfl) rfl (fun z16 e16 => ?_)
        have i16 := in_add 4 1999 e16 i14 (in_c 1 rfl) rfl rfl
        refine g_istore_n 18 (gd rfl) rfl (Nat.le_of_ble_eq_true rfl) ?_
        refine g_goto 2 (gd rfl) rfl ?_
        have m2 : 3000 - (z16).toInt < ((k2 : Nat) : Int) := by (first | have a0 := oa3 ro_49_11 i9 i16 | ((first | have a0 := in_u ro_49_11 | (have a0 := ro_49_11; unfold In at a0)); (first | have a1 := in_u i9 | (have a1 := i9; unfold In at a1)); (first | have a2 := in_u i16 | (have a2 := i16; unfold In at a2)))); have a3 := t_add e16 i14 (in_c 1 rfl) rfl; (first | have a4 := oa2 ((in_c 1 rfl)) i14 | ((first | have a4 := in_u ((in_c 1 rfl)) | (have a4 := (in_c 1 rfl); unfold In at a4)); (first | have a5 := in_u i14 | (have a5 := i14; unfold In at a5)))); have a6 := (t_mulc 3 (Or.inl e14) i9 rfl).1; (first | have a7 := in_u i9a | (have a7 := i9a; unfold In at a7)); have a8 := t_div e8 ro_49_11 rfl; omega
        exact gg_w (by first | exact Nat.le_add_right _ _ | exact gw2 | exact gw3 | exact gwe rfl | exact gwf rfl | exact gwg rfl | exact gwh rfl | omega) (gg_f (gf_cons rfl (gf_cons rfl gf_nil)) (ih2  sc2 z16 hIc2 hFc2 (in_w 1 2001 i16 rfl) m2))
  refine g_enter2 (k := 210) (N := 32462148017204) (by first | exact dq1 hd rfl | exact dq0 hd rfl | exact dq2 hd rfl | exact dq3 hd rfl | omega) rfl (Nat.le_of_ble_eq_true rfl) ?_
  refine g_iconst 1 1 (gd rfl) rfl rfl ?_
  refine g_istore_n 2 (gd rfl) rfl (Nat.le_of_ble_eq_true rfl) ?_
  have m2 : 3000 - ((Int32.ofInt 1)).toInt < ((3001 : Nat) : Int) := by (first | have a0 := oa2 ro_49_11 ((in_c 1 rfl)) | ((first | have a0 := in_u ro_49_11 | (have a0 := ro_49_11; unfold In at a0)); (first | have a1 := in_u ((in_c 1 rfl)) | (have a1 := (in_c 1 rfl); unfold In at a1)))); omega
  exact gg_w (by first | exact Nat.le_of_ble_eq_true rfl | omega) (gg_f (gf_cons rfl (gf_cons rfl gf_nil)) (ct2 3001 s (Int32.ofInt 1) hI fr_rf (in_w 1 2001 (in_c 1 rfl) rfl) m2))

def fm_219_0 : FM := ([], [], [], [])
/-- GraphHouse.size -/
theorem k_219_0 {Z : AmZ} {A : Nat → Nat} {s : GS} {ex : va_W} {d : Nat} {x1 : Int32} (hd : 7 ≤ d) (hI : Inv s)  : GC Z d 219 [.ref (A 0), .int x1] (WW Z A s ++ ex) 3 18 (fun v u => ∃ t : GS, Inv t ∧ Fr fm_219_0 s t ∧ ∃ z : Int32, v = some (.int z) ∧ u = WW Z A t ++ ex ∧ In z (-2147483648) 2147483647) (gE1 Z A ex fm_219_0 s) := by
  intro post xp hP hX
  obtain ⟨u_0_2, e_0_2⟩ : ∃ w, w = s.2.2.1 0 2 := ⟨_, rfl⟩
  have ro_0_2 := inv_F hI (-1) 4000 rfl e_0_2
  obtain ⟨u_2_1, e_2_1⟩ : ∃ w, w = s.2.2.1 2 1 := ⟨_, rfl⟩
  have ro_2_1 := inv_F hI 0 32 rfl e_2_1
  obtain ⟨u_2_2, e_2_2⟩ : ∃ w, w = s.2.2.1 2 2 := ⟨_, rfl⟩
  obtain ⟨u_2_3, e_2_3⟩ : ∃ w, w = s.2.2.1 2 3 := ⟨_, rfl⟩
  have ro_2_3 := inv_F hI 0 160 rfl e_2_3
  obtain ⟨u_32_1, e_32_1⟩ : ∃ w, w = s.2.2.1 32 1 := ⟨_, rfl⟩
  have ro_32_1 := inv_F hI 0 32 rfl e_32_1
  obtain ⟨u_32_2, e_32_2⟩ : ∃ w, w = s.2.2.1 32 2 := ⟨_, rfl⟩
  obtain ⟨u_32_3, e_32_3⟩ : ∃ w, w = s.2.2.1 32 3 := ⟨_, rfl⟩
  have ro_32_3 := inv_F hI 0 160 rfl e_32_3
  refine g_enter2 (k := 219) (N := 900) (by first | exact dq1 hd rfl | exact dq0 hd rfl | exact dq2 hd rfl | exact dq3 hd rfl | omega) rfl (Nat.le_of_ble_eq_true rfl) ?_
  refine g_iload_n 1 (gd rfl) rfl rfl ?_
  refine g_if_lt 4 13 (gd rfl) rfl rfl (fun c1 => ?_) (fun c1 => ?_)
  · skip
    have i1 := z_lt (-2147483648) (-1) c1 (i_rng x1) rfl
    refine g_iconst 0 14 (gd rfl) rfl rfl ?_
    refine g_thr (E := am_IA) (y := yX11_allow) 17 (gd rfl) rfl rfl (Or.inl ⟨rfl, rfl, rfl⟩) (by first | exact dq1 hd rfl | exact dq0 hd rfl | exact dq2 hd rfl | exact dq3 hd rfl | omega) (Nat.le_of_ble_eq_true rfl) (Nat.le_of_ble_eq_true rfl) (Nat.le_of_ble_eq_true rfl) (fun c14 => ?_) (fun c14 => ?_)
    · skip
      exact zn_ne c14 (in_c 0 rfl) rfl
    · skip
      exact (hX _ _ ⟨rfl, s, hI, fr_rf, rfl⟩)
  · skip
    have i1 := z_ge 0 2147483647 c1 (i_rng x1) rfl
    refine g_iload_n 5 (gd rfl) rfl rfl ?_
    refine g_iconst 3 6 (gd rfl) rfl rfl ?_
    refine g_cmp_gt 9 13 (gd rfl) rfl rfl (fun c6 => ?_) (fun c6 => ?_)
    · skip
      have i6 := r_lt2 4 2147483647 c6 (in_c 3 rfl) i1 rfl
      refine g_iconst 0 14 (gd rfl) rfl rfl ?_
      refine g_thr (E := am_IA) (y := yX11_allow) 17 (gd rfl) rfl rfl (Or.inl ⟨rfl, rfl, rfl⟩) (by first | exact dq1 hd rfl | exact dq0 hd rfl | exact dq2 hd rfl | exact dq3 hd rfl | omega) (Nat.le_of_ble_eq_true rfl) (Nat.le_of_ble_eq_true rfl) (Nat.le_of_ble_eq_true rfl) (fun c14 => ?_) (fun c14 => ?_)
      · skip
        exact zn_ne c14 (in_c 0 rfl) rfl
      · skip
        exact (hX _ _ ⟨rfl, s, hI, fr_rf, rfl⟩)
    · skip
      have i6 := r_le1 0 3 c6 i1 (in_c 3 rfl) rfl
      refine g_iconst 1 10 (gd rfl) rfl rfl ?_
      refine g_goto 14 (gd rfl) rfl ?_
      refine g_thr (E := am_IA) (y := yX11_allow) 17 (gd rfl) rfl rfl (Or.inl ⟨rfl, rfl, rfl⟩) (by first | exact dq1 hd rfl | exact dq0 hd rfl | exact dq2 hd rfl | exact dq3 hd rfl | omega) (Nat.le_of_ble_eq_true rfl) (Nat.le_of_ble_eq_true rfl) (Nat.le_of_ble_eq_true rfl) (fun c14 => ?_) (fun c14 => ?_)
      · skip
        refine g_aload_n 18 (gd rfl) rfl rfl ?_
        refine g_callv (X := _) (As := []) (r := []) (b := A 0) (q := 0) 21 (gd rfl) rfl rfl rfl rfl rfl (ww_o rfl) (Nat.le_of_ble_eq_true rfl) (mc := 0) (ms := 0) (Nat.zero_le _) (Nat.zero_le _) (P := fun v u => _) ?_ (fun e u h => h) (fun v u h => h)
        intro po18 xx18 hp18 hx18
        refine g_enter2 (k := 259) (N := 300) (by first | exact dq1 hd rfl | exact dq0 hd rfl | exact dq2 hd rfl | exact dq3 hd rfl | omega) rfl (Nat.le_of_ble_eq_true rfl) ?_
        refine g_aload_n 1 (gd rfl) rfl rfl ?_
        refine g_getI 4 (gd rfl) rfl rfl rfl (fun z18x1 e18x1 => ?_)
        have q18x1 : u_0_2 = z18x1 := (e_0_2).trans e18x1.symm
        subst q18x1
        refine g_iconst (-1) 5 (gd rfl) rfl rfl ?_
        refine g_cmp_ne 8 18 (gd rfl) rfl rfl (fun c18x5 => ?_) (fun c18x5 => ?_)
        · skip
          have i18x5 := r_ne1 0 4000 c18x5 ro_0_2 (in_c (-1) rfl) rfl
          refine g_aload_n 19 (gd rfl) rfl rfl ?_
          refine g_getA (q2 := 32) 22 (gd rfl) rfl rfl rfl rfl ?_
          refine g_areturn (gd rfl) rfl (hp18 _ _ ?_)
          show GG _ _ _ _ _ _ _ _ [.ref (A 32)] _ _ _
          refine g_astore_n 22 (gd rfl) rfl (Nat.le_of_ble_eq_true rfl) ?_
          refine g_iload_n 23 (gd rfl) rfl rfl ?_
          refine g_tsw [48, 53, 58] 63 (gd rfl) rfl rfl rfl ⟨fun c23 => ?_, fun c23 => ?_, fun c23 => ?_, trivial⟩ (fun c23 => ?_)
          · skip
            have i23 := sw_eq c23
            refine g_aload_n 49 (gd rfl) rfl rfl ?_
            refine g_getI 52 (gd rfl) rfl rfl rfl (fun z49 e49 => ?_)
            have q49 : u_32_1 = z49 := (e_32_1).trans e49.symm
            subst q49
            exact g_ireturn (gd rfl) rfl rfl (hP _ _ ⟨s, hI, fr_rf, u_32_1, rfl, rfl, in_w (-2147483648) 2147483647 ro_32_1 rfl⟩)
          · skip
            have i23 := sw_eq c23
            refine g_aload_n 54 (gd rfl) rfl rfl ?_
            refine g_getI 57 (gd rfl) rfl rfl rfl (fun z54 e54 => ?_)
            have q54 : u_32_2 = z54 := (e_32_2).trans e54.symm
            subst q54
            exact g_ireturn (gd rfl) rfl rfl (hP _ _ ⟨s, hI, fr_rf, u_32_2, rfl, rfl, in_w (-2147483648) 2147483647 (i_rng u_32_2) rfl⟩)
          · skip
            have i23 := sw_eq c23
            refine g_aload_n 59 (gd rfl) rfl rfl ?_
            refine g_callv (X := _) (As := []) (r := []) (b := A 32) (q := 32) 62 (gd rfl) rfl rfl rfl rfl rfl (ww_o rfl) (Nat.le_of_ble_eq_true rfl) (Nat.zero_le _) (Nat.zero_le _) (k_98_32 (by first | exact dq1 hd rfl | exact dq0 hd rfl | exact dq2 hd rfl | exact dq3 hd rfl | omega) hI ) (fun e u h => h) (fun v u h => ?_)
            obtain ⟨z59, rfl, rfl, i59⟩ := h
            show GG _ _ _ _ _ _ _ _ [.int z59] _ _ _
            exact g_ireturn (gd rfl) rfl rfl (hP _ _ ⟨s, hI, fr_rf, z59, rfl, rfl, in_w (-2147483648) 2147483647 i59 rfl⟩)
          · skip
            refine g_aload_n 64 (gd rfl) rfl rfl ?_
            refine g_getI 67 (gd rfl) rfl rfl rfl (fun z64 e64 => ?_)
            have q64 : u_32_3 = z64 := (e_32_3).trans e64.symm
            subst q64
            refine g_iconst 1 68 (gd rfl) rfl rfl ?_
            refine g_isub 69 (gd rfl) rfl (fun z68 e68 => ?_)
            have i68 := in_sub (-1) 159 e68 ro_32_3 (in_c 1 rfl) rfl rfl
            exact g_ireturn (gd rfl) rfl rfl (hP _ _ ⟨s, hI, fr_rf, z68, rfl, rfl, in_w (-2147483648) 2147483647 i68 rfl⟩)
        · skip
          have i18x5 := r_eq1 (-1) (-1) c18x5 ro_0_2 (in_c (-1) rfl) rfl
          refine g_aload_n 9 (gd rfl) rfl rfl ?_
          refine g_getA (q2 := 1) 12 (gd rfl) rfl rfl rfl rfl ?_
          refine g_getA (q2 := 2) 15 (gd rfl) rfl rfl rfl rfl ?_
          refine g_goto 22 (gd rfl) rfl ?_
          refine g_areturn (gd rfl) rfl (hp18 _ _ ?_)
          show GG _ _ _ _ _ _ _ _ [.ref (A 2)] _ _ _
          refine g_astore_n 22 (gd rfl) rfl (Nat.le_of_ble_eq_true rfl) ?_
          refine g_iload_n 23 (gd rfl) rfl rfl ?_
          refine g_tsw [48, 53, 58] 63 (gd rfl) rfl rfl rfl ⟨fun c23 => ?_, fun c23 => ?_, fun c23 => ?_, trivial⟩ (fun c23 => ?_)
          · skip
            have i23 := sw_eq c23
            refine g_aload_n 49 (gd rfl) rfl rfl ?_
            refine g_getI 52 (gd rfl) rfl rfl rfl (fun z49 e49 => ?_)
            have q49 : u_2_1 = z49 := (e_2_1).trans e49.symm
            subst q49
            exact g_ireturn (gd rfl) rfl rfl (hP _ _ ⟨s, hI, fr_rf, u_2_1, rfl, rfl, in_w (-2147483648) 2147483647 ro_2_1 rfl⟩)
          · skip
            have i23 := sw_eq c23
            refine g_aload_n 54 (gd rfl) rfl rfl ?_
            refine g_getI 57 (gd rfl) rfl rfl rfl (fun z54 e54 => ?_)
            have q54 : u_2_2 = z54 := (e_2_2).trans e54.symm
            subst q54
            exact g_ireturn (gd rfl) rfl rfl (hP _ _ ⟨s, hI, fr_rf, u_2_2, rfl, rfl, in_w (-2147483648) 2147483647 (i_rng u_2_2) rfl⟩)
          · skip
            have i23 := sw_eq c23
            refine g_aload_n 59 (gd rfl) rfl rfl ?_
            refine g_callv (X := _) (As := []) (r := []) (b := A 2) (q := 2) 62 (gd rfl) rfl rfl rfl rfl rfl (ww_o rfl) (Nat.le_of_ble_eq_true rfl) (Nat.zero_le _) (Nat.zero_le _) (k_98_2 (by first | exact dq1 hd rfl | exact dq0 hd rfl | exact dq2 hd rfl | exact dq3 hd rfl | omega) hI ) (fun e u h => h) (fun v u h => ?_)
            obtain ⟨z59, rfl, rfl, i59⟩ := h
            show GG _ _ _ _ _ _ _ _ [.int z59] _ _ _
            exact g_ireturn (gd rfl) rfl rfl (hP _ _ ⟨s, hI, fr_rf, z59, rfl, rfl, in_w (-2147483648) 2147483647 i59 rfl⟩)
          · skip
            refine g_aload_n 64 (gd rfl) rfl rfl ?_
            refine g_getI 67 (gd rfl) rfl rfl rfl (fun z64 e64 => ?_)
            have q64 : u_2_3 = z64 := (e_2_3).trans e64.symm
            subst q64
            refine g_iconst 1 68 (gd rfl) rfl rfl ?_
            refine g_isub 69 (gd rfl) rfl (fun z68 e68 => ?_)
            have i68 := in_sub (-1) 159 e68 ro_2_3 (in_c 1 rfl) rfl rfl
            exact g_ireturn (gd rfl) rfl rfl (hP _ _ ⟨s, hI, fr_rf, z68, rfl, rfl, in_w (-2147483648) 2147483647 i68 rfl⟩)
      · skip
        exact zn_eq c14 (in_c 1 rfl) rfl

def fm_220_0 : FM := ([], [], [], [])
/-- GraphHouse.told -/
theorem k_220_0 {Z : AmZ} {A : Nat → Nat} {s : GS} {ex : va_W} {d : Nat} {x1 : Int32} {x2 : Int32} (hd : 7 ≤ d) (hI : Inv s)  : GC Z d 220 [.ref (A 0), .int x1, .int x2] (WW Z A s ++ ex) 3 18 (fun v u => ∃ t : GS, Inv t ∧ Fr fm_220_0 s t ∧ ∃ z : Int64, v = some (.long z) ∧ u = WW Z A t ++ ex) (gE1 Z A ex fm_220_0 s) := by
  intro post xp hP hX
  obtain ⟨u_0_2, e_0_2⟩ : ∃ w, w = s.2.2.1 0 2 := ⟨_, rfl⟩
  have ro_0_2 := inv_F hI (-1) 4000 rfl e_0_2
  obtain ⟨u_2_3, e_2_3⟩ : ∃ w, w = s.2.2.1 2 3 := ⟨_, rfl⟩
  have ro_2_3 := inv_F hI 0 160 rfl e_2_3
  obtain ⟨u_32_3, e_32_3⟩ : ∃ w, w = s.2.2.1 32 3 := ⟨_, rfl⟩
  have ro_32_3 := inv_F hI 0 160 rfl e_32_3
  have ct24 : ∀ (sc24 : GS) , Inv sc24 → Fr fm_220_0 s sc24 → GG Z (d - 1) 220 post (gx xp) (901) 24 (fun j => xlook j [(0, .ref (A 0)), (1, .int x1), (2, .int x2)]) [] (WW Z A sc24 ++ ex) 3 18 := by
    intro sc24  hIc24 hFc24 
    refine g_iconst 0 25 (gd rfl) rfl rfl ?_
    refine g_thr (E := am_IA) (y := yX11_allow) 28 (gd rfl) rfl rfl (Or.inl ⟨rfl, rfl, rfl⟩) (by first | exact dq1 hd rfl | exact dq0 hd rfl | exact dq2 hd rfl | exact dq3 hd rfl | omega) (Nat.le_of_ble_eq_true rfl) (Nat.le_of_ble_eq_true rfl) (Nat.le_of_ble_eq_true rfl) (fun c25 => ?_) (fun c25 => ?_)
    · skip
      exact zn_ne c25 (in_c 0 rfl) rfl
    · skip
      exact (hX _ _ ⟨rfl, sc24, hIc24, hFc24, rfl⟩)
  refine g_enter2 (k := 220) (N := 1801) (by first | exact dq1 hd rfl | exact dq0 hd rfl | exact dq2 hd rfl | exact dq3 hd rfl | omega) rfl (Nat.le_of_ble_eq_true rfl) ?_
  refine g_iload_n 1 (gd rfl) rfl rfl ?_
  refine g_if_lt 4 24 (gd rfl) rfl rfl (fun c1 => ?_) (fun c1 => ?_)
  · skip
    have i1 := z_lt (-2147483648) (-1) c1 (i_rng x1) rfl
    exact gg_w (by first | exact Nat.le_of_ble_eq_true rfl | omega) (gg_f (gf_cons rfl (gf_cons rfl (gf_cons rfl gf_nil))) (ct24 s  hI fr_rf ))
  · skip
    have i1 := z_ge 0 2147483647 c1 (i_rng x1) rfl
    refine g_iload_n 5 (gd rfl) rfl rfl ?_
    refine g_sipush 160 8 (gd rfl) rfl rfl ?_
    refine g_cmp_ge 11 24 (gd rfl) rfl rfl (fun c8 => ?_) (fun c8 => ?_)
    · skip
      have i8 := r_le2 160 2147483647 c8 (in_c 160 rfl) i1 rfl
      exact gg_w (by first | exact Nat.le_of_ble_eq_true rfl | omega) (gg_f (gf_cons rfl (gf_cons rfl (gf_cons rfl gf_nil))) (ct24 s  hI fr_rf ))
    · skip
      have i8 := r_lt1 0 159 c8 i1 (in_c 160 rfl) rfl
      refine g_iload_n 12 (gd rfl) rfl rfl ?_
      refine g_if_lt 15 24 (gd rfl) rfl rfl (fun c12 => ?_) (fun c12 => ?_)
      · skip
        have i12 := z_lt (-2147483648) (-1) c12 (i_rng x2) rfl
        exact gg_w (by first | exact Nat.le_of_ble_eq_true rfl | omega) (gg_f (gf_cons rfl (gf_cons rfl (gf_cons rfl gf_nil))) (ct24 s  hI fr_rf ))
      · skip
        have i12 := z_ge 0 2147483647 c12 (i_rng x2) rfl
        refine g_iload_n 16 (gd rfl) rfl rfl ?_
        refine g_iconst 4 17 (gd rfl) rfl rfl ?_
        refine g_cmp_gt 20 24 (gd rfl) rfl rfl (fun c17 => ?_) (fun c17 => ?_)
        · skip
          have i17 := r_lt2 5 2147483647 c17 (in_c 4 rfl) i12 rfl
          exact gg_w (by first | exact Nat.le_of_ble_eq_true rfl | omega) (gg_f (gf_cons rfl (gf_cons rfl (gf_cons rfl gf_nil))) (ct24 s  hI fr_rf ))
        · skip
          have i17 := r_le1 0 4 c17 i12 (in_c 4 rfl) rfl
          refine g_iconst 1 21 (gd rfl) rfl rfl ?_
          refine g_goto 25 (gd rfl) rfl ?_
          refine g_thr (E := am_IA) (y := yX11_allow) 28 (gd rfl) rfl rfl (Or.inl ⟨rfl, rfl, rfl⟩) (by first | exact dq1 hd rfl | exact dq0 hd rfl | exact dq2 hd rfl | exact dq3 hd rfl | omega) (Nat.le_of_ble_eq_true rfl) (Nat.le_of_ble_eq_true rfl) (Nat.le_of_ble_eq_true rfl) (fun c25 => ?_) (fun c25 => ?_)
          · skip
            refine g_aload_n 29 (gd rfl) rfl rfl ?_
            refine g_callv (X := _) (As := []) (r := []) (b := A 0) (q := 0) 32 (gd rfl) rfl rfl rfl rfl rfl (ww_o rfl) (Nat.le_of_ble_eq_true rfl) (mc := 0) (ms := 0) (Nat.zero_le _) (Nat.zero_le _) (P := fun v u => _) ?_ (fun e u h => h) (fun v u h => h)
            intro po29 xx29 hp29 hx29
            refine g_enter2 (k := 259) (N := 300) (by first | exact dq1 hd rfl | exact dq0 hd rfl | exact dq2 hd rfl | exact dq3 hd rfl | omega) rfl (Nat.le_of_ble_eq_true rfl) ?_
            refine g_aload_n 1 (gd rfl) rfl rfl ?_
            refine g_getI 4 (gd rfl) rfl rfl rfl (fun z29x1 e29x1 => ?_)
            have q29x1 : u_0_2 = z29x1 := (e_0_2).trans e29x1.symm
            subst q29x1
            refine g_iconst (-1) 5 (gd rfl) rfl rfl ?_
            refine g_cmp_ne 8 18 (gd rfl) rfl rfl (fun c29x5 => ?_) (fun c29x5 => ?_)
            · skip
              have i29x5 := r_ne1 0 4000 c29x5 ro_0_2 (in_c (-1) rfl) rfl
              refine g_aload_n 19 (gd rfl) rfl rfl ?_
              refine g_getA (q2 := 32) 22 (gd rfl) rfl rfl rfl rfl ?_
              refine g_areturn (gd rfl) rfl (hp29 _ _ ?_)
              show GG _ _ _ _ _ _ _ _ [.ref (A 32)] _ _ _
              refine g_astore_n 33 (gd rfl) rfl (Nat.le_of_ble_eq_true rfl) ?_
              refine g_aload_n 34 (gd rfl) rfl rfl ?_
              refine g_iload_n 35 (gd rfl) rfl rfl ?_
              refine g_callv (X := _) (As := [.int x1]) (r := []) (b := A 32) (q := 32) 38 (gd rfl) rfl rfl rfl rfl rfl (ww_o rfl) (Nat.le_of_ble_eq_true rfl) (mc := 0) (ms := 0) (Nat.zero_le _) (Nat.zero_le _) (P := fun v u => _) ?_ (fun e u h => h) (fun v u h => h)
              intro po35 xx35 hp35 hx35
              refine g_enter2 (k := 96) (N := 300) (by first | exact dq1 hd rfl | exact dq0 hd rfl | exact dq2 hd rfl | exact dq3 hd rfl | omega) rfl (Nat.le_of_ble_eq_true rfl) ?_
              refine g_iload_n 1 (gd rfl) rfl rfl ?_
              refine g_if_lt 4 26 (gd rfl) rfl rfl (fun c35x1 => ?_) (fun c35x1 => ?_)
              · skip
                exact zn_lt c35x1 i8 rfl
              · skip
                refine g_iload_n 5 (gd rfl) rfl rfl ?_
                refine g_aload_n 6 (gd rfl) rfl rfl ?_
                refine g_getI 9 (gd rfl) rfl rfl rfl (fun z35x6 e35x6 => ?_)
                have q35x6 : u_32_3 = z35x6 := (e_32_3).trans e35x6.symm
                subst q35x6
                refine g_cmp_ge 12 26 (gd rfl) rfl rfl (fun c35x9 => ?_) (fun c35x9 => ?_)
                · skip
                  have i35x9 := r_le1 0 159 c35x9 ro_32_3 i8 rfl
                  refine g_iconst 0 27 (gd rfl) rfl rfl ?_
                  refine g_ireturn (gd rfl) rfl (nb01 (in_w 0 1 (in_c 0 rfl) rfl)) (hp35 _ _ ?_)
                  show GG _ _ _ _ _ _ _ _ [.int (Int32.ofInt 0)] _ _ _
                  refine g_if_ne 41 45 (gd rfl) rfl rfl (fun c38 => ?_) (fun c38 => ?_)
                  · skip
                    exact zn_ne c38 (in_c 0 rfl) rfl
                  · skip
                    refine g_ldc2_w 9000000000000000 44 (gd rfl) rfl rfl ?_
                    exact g_lreturn (gd rfl) rfl (hP _ _ ⟨s, hI, fr_rf, (Int64.ofInt 9000000000000000), rfl, rfl⟩)
                · skip
                  have i35x9 := r_lt2 1 160 c35x9 i8 ro_32_3 rfl
                  refine g_aload_n 13 (gd rfl) rfl rfl ?_
                  refine g_getA (q2 := 34) 16 (gd rfl) rfl rfl rfl rfl ?_
                  refine g_iload_n 17 (gd rfl) rfl rfl ?_
                  refine g_iaload 18 (gd rfl) rfl (n := 160) rfl (in_ix i8 rfl) (fun z35x17 e35x17 => ?_)
                  have i35x17 := inv_I hI (n := 160) (t := 0) (-1) 31 rfl (in_ix i8 rfl) rfl e35x17
                  refine g_iconst (-1) 19 (gd rfl) rfl rfl ?_
                  refine g_cmp_eq 22 26 (gd rfl) rfl rfl (fun c35x19 => ?_) (fun c35x19 => ?_)
                  · skip
                    have i35x19 := r_eq1 (-1) (-1) c35x19 i35x17 (in_c (-1) rfl) rfl
                    refine g_iconst 0 27 (gd rfl) rfl rfl ?_
                    refine g_ireturn (gd rfl) rfl (nb01 (in_w 0 1 (in_c 0 rfl) rfl)) (hp35 _ _ ?_)
                    show GG _ _ _ _ _ _ _ _ [.int (Int32.ofInt 0)] _ _ _
                    refine g_if_ne 41 45 (gd rfl) rfl rfl (fun c38 => ?_) (fun c38 => ?_)
                    · skip
                      exact zn_ne c38 (in_c 0 rfl) rfl
                    · skip
                      refine g_ldc2_w 9000000000000000 44 (gd rfl) rfl rfl ?_
                      exact g_lreturn (gd rfl) rfl (hP _ _ ⟨s, hI, fr_rf, (Int64.ofInt 9000000000000000), rfl, rfl⟩)
                  · skip
                    have i35x19 := r_ne1 0 31 c35x19 i35x17 (in_c (-1) rfl) rfl
                    refine g_iconst 1 23 (gd rfl) rfl rfl ?_
                    refine g_goto 27 (gd rfl) rfl ?_
                    refine g_ireturn (gd rfl) rfl (nb01 (in_w 0 1 (in_c 1 rfl) rfl)) (hp35 _ _ ?_)
                    show GG _ _ _ _ _ _ _ _ [.int (Int32.ofInt 1)] _ _ _
                    refine g_if_ne 41 45 (gd rfl) rfl rfl (fun c38 => ?_) (fun c38 => ?_)
                    · skip
                      refine g_iload_n 46 (gd rfl) rfl rfl ?_
                      refine g_if_ne 49 57 (gd rfl) rfl rfl (fun c46 => ?_) (fun c46 => ?_)
                      · skip
                        have i46 := z_ne 1 4 c46 i17 rfl
                        refine g_iload_n 58 (gd rfl) rfl rfl ?_
                        refine g_iconst 1 59 (gd rfl) rfl rfl ?_
                        refine g_cmp_ne 62 72 (gd rfl) rfl rfl (fun c59 => ?_) (fun c59 => ?_)
                        · skip
                          have i59 := r_ne1 2 4 c59 i46 (in_c 1 rfl) rfl
                          refine g_aload_n 73 (gd rfl) rfl rfl ?_
                          refine g_iload_n 74 (gd rfl) rfl rfl ?_
                          refine g_iload_n 75 (gd rfl) rfl rfl ?_
                          refine g_iconst 2 76 (gd rfl) rfl rfl ?_
                          refine g_isub 77 (gd rfl) rfl (fun z76 e76 => ?_)
                          have i76 := in_sub 0 2 e76 i59 (in_c 2 rfl) rfl rfl
                          refine g_callv (X := _) (As := [.int x1, .int z76]) (r := []) (b := A 32) (q := 32) 80 (gd rfl) rfl rfl rfl rfl rfl (ww_o rfl) (Nat.le_of_ble_eq_true rfl) (mc := 0) (ms := 0) (Nat.zero_le _) (Nat.zero_le _) (P := fun v u => _) ?_ (fun e u h => h) (fun v u h => h)
                          intro po77 xx77 hp77 hx77
                          refine g_enter2 (k := 100) (N := 300) (by first | exact dq1 hd rfl | exact dq0 hd rfl | exact dq2 hd rfl | exact dq3 hd rfl | omega) rfl (Nat.le_of_ble_eq_true rfl) ?_
                          refine g_iload_n 1 (gd rfl) rfl rfl ?_
                          refine g_if_ne 4 11 (gd rfl) rfl rfl (fun c77x1 => ?_) (fun c77x1 => ?_)
                          · skip
                            have i77x1 := z_ne 1 2 c77x1 i76 rfl
                            refine g_iload_n 12 (gd rfl) rfl rfl ?_
                            refine g_iconst 1 13 (gd rfl) rfl rfl ?_
                            refine g_cmp_ne 16 25 (gd rfl) rfl rfl (fun c77x13 => ?_) (fun c77x13 => ?_)
                            · skip
                              have i77x13 := r_ne1 2 2 c77x13 i77x1 (in_c 1 rfl) rfl
                              refine g_aload_n 26 (gd rfl) rfl rfl ?_
                              refine g_getA (q2 := 38) 29 (gd rfl) rfl rfl rfl rfl ?_
                              refine g_iload_n 30 (gd rfl) rfl rfl ?_
                              refine g_iaload 31 (gd rfl) rfl (n := 160) rfl (in_ix i8 rfl) (fun z77x30 e77x30 => ?_)
                              have i77x30 := inv_I hI (n := 160) (t := 0) 0 25 rfl (in_ix i8 rfl) rfl e77x30
                              refine g_ireturn (gd rfl) rfl rfl (hp77 _ _ ?_)
                              show GG _ _ _ _ _ _ _ _ [.int z77x30] _ _ _
                              refine g_i2l 81 (gd rfl) rfl (fun z80 e80 => ?_)
                              have i80 := l_i e80 i77x30
                              exact g_lreturn (gd rfl) rfl (hP _ _ ⟨s, hI, fr_rf, z80, rfl, rfl⟩)
                            · skip
                              have i77x13 := r_eq1 1 1 c77x13 i77x1 (in_c 1 rfl) rfl
                              refine g_aload_n 17 (gd rfl) rfl rfl ?_
                              refine g_getA (q2 := 37) 20 (gd rfl) rfl rfl rfl rfl ?_
                              refine g_iload_n 21 (gd rfl) rfl rfl ?_
                              refine g_iaload 22 (gd rfl) rfl (n := 160) rfl (in_ix i8 rfl) (fun z77x21 e77x21 => ?_)
                              have i77x21 := inv_I hI (n := 160) (t := 0) 0 1000000 rfl (in_ix i8 rfl) rfl e77x21
                              refine g_goto 31 (gd rfl) rfl ?_
                              refine g_ireturn (gd rfl) rfl rfl (hp77 _ _ ?_)
                              show GG _ _ _ _ _ _ _ _ [.int z77x21] _ _ _
                              refine g_i2l 81 (gd rfl) rfl (fun z80 e80 => ?_)
                              have i80 := l_i e80 i77x21
                              exact g_lreturn (gd rfl) rfl (hP _ _ ⟨s, hI, fr_rf, z80, rfl, rfl⟩)
                          · skip
                            have i77x1 := z_eq 0 0 c77x1 i76 rfl
                            refine g_aload_n 5 (gd rfl) rfl rfl ?_
                            refine g_getA (q2 := 36) 8 (gd rfl) rfl rfl rfl rfl ?_
                            refine g_iload_n 9 (gd rfl) rfl rfl ?_
                            refine g_iaload 10 (gd rfl) rfl (n := 160) rfl (in_ix i8 rfl) (fun z77x9 e77x9 => ?_)
                            have i77x9 := inv_I hI (n := 160) (t := 0) (-1000000) 1000000 rfl (in_ix i8 rfl) rfl e77x9
                            refine g_ireturn (gd rfl) rfl rfl (hp77 _ _ ?_)
                            show GG _ _ _ _ _ _ _ _ [.int z77x9] _ _ _
                            refine g_i2l 81 (gd rfl) rfl (fun z80 e80 => ?_)
                            have i80 := l_i e80 i77x9
                            exact g_lreturn (gd rfl) rfl (hP _ _ ⟨s, hI, fr_rf, z80, rfl, rfl⟩)
                        · skip
                          have i59 := r_eq1 1 1 c59 i46 (in_c 1 rfl) rfl
                          refine g_aload_n 63 (gd rfl) rfl rfl ?_
                          refine g_getA (q2 := 35) 66 (gd rfl) rfl rfl rfl rfl ?_
                          refine g_iload_n 67 (gd rfl) rfl rfl ?_
                          refine g_iaload 68 (gd rfl) rfl (n := 160) rfl (in_ix i8 rfl) (fun z67 e67 => ?_)
                          have i67 := inv_I hI (n := 160) (t := 0) 0 31 rfl (in_ix i8 rfl) rfl e67
                          refine g_i2l 69 (gd rfl) rfl (fun z68 e68 => ?_)
                          have i68 := l_i e68 i67
                          refine g_goto 81 (gd rfl) rfl ?_
                          exact g_lreturn (gd rfl) rfl (hP _ _ ⟨s, hI, fr_rf, z68, rfl, rfl⟩)
                      · skip
                        have i46 := z_eq 0 0 c46 i17 rfl
                        refine g_aload_n 50 (gd rfl) rfl rfl ?_
                        refine g_getA (q2 := 34) 53 (gd rfl) rfl rfl rfl rfl ?_
                        refine g_iload_n 54 (gd rfl) rfl rfl ?_
                        refine g_iaload 55 (gd rfl) rfl (n := 160) rfl (in_ix i8 rfl) (fun z54 e54 => ?_)
                        have q54 : z35x17 = z54 := (e35x17).trans e54.symm
                        subst q54
                        refine g_i2l 56 (gd rfl) rfl (fun z55 e55 => ?_)
                        have i55 := l_i e55 i35x19
                        exact g_lreturn (gd rfl) rfl (hP _ _ ⟨s, hI, fr_rf, z55, rfl, rfl⟩)
                    · skip
                      exact zn_eq c38 (in_c 1 rfl) rfl
            · skip
              have i29x5 := r_eq1 (-1) (-1) c29x5 ro_0_2 (in_c (-1) rfl) rfl
              refine g_aload_n 9 (gd rfl) rfl rfl ?_
              refine g_getA (q2 := 1) 12 (gd rfl) rfl rfl rfl rfl ?_
              refine g_getA (q2 := 2) 15 (gd rfl) rfl rfl rfl rfl ?_
              refine g_goto 22 (gd rfl) rfl ?_
              refine g_areturn (gd rfl) rfl (hp29 _ _ ?_)
              show GG _ _ _ _ _ _ _ _ [.ref (A 2)] _ _ _
              refine g_astore_n 33 (gd rfl) rfl (Nat.le_of_ble_eq_true rfl) ?_
              refine g_aload_n 34 (gd rfl) rfl rfl ?_
              refine g_iload_n 35 (gd rfl) rfl rfl ?_
              refine g_callv (X := _) (As := [.int x1]) (r := []) (b := A 2) (q := 2) 38 (gd rfl) rfl rfl rfl rfl rfl (ww_o rfl) (Nat.le_of_ble_eq_true rfl) (mc := 0) (ms := 0) (Nat.zero_le _) (Nat.zero_le _) (P := fun v u => _) ?_ (fun e u h => h) (fun v u h => h)
              intro po35 xx35 hp35 hx35
              refine g_enter2 (k := 96) (N := 300) (by first | exact dq1 hd rfl | exact dq0 hd rfl | exact dq2 hd rfl | exact dq3 hd rfl | omega) rfl (Nat.le_of_ble_eq_true rfl) ?_
              refine g_iload_n 1 (gd rfl) rfl rfl ?_
              refine g_if_lt 4 26 (gd rfl) rfl rfl (fun c35x1 => ?_) (fun c35x1 => ?_)
              · skip
                exact zn_lt c35x1 i8 rfl
              · skip
                refine g_iload_n 5 (gd rfl) rfl rfl ?_
                refine g_aload_n 6 (gd rfl) rfl rfl ?_
                refine g_getI 9 (gd rfl) rfl rfl rfl (fun z35x6 e35x6 => ?_)
                have q35x6 : u_2_3 = z35x6 := (e_2_3).trans e35x6.symm
                subst q35x6
                refine g_cmp_ge 12 26 (gd rfl) rfl rfl (fun c35x9 => ?_) (fun c35x9 => ?_)
                · skip
                  have i35x9 := r_le1 0 159 c35x9 ro_2_3 i8 rfl
                  refine g_iconst 0 27 (gd rfl) rfl rfl ?_
                  refine g_ireturn (gd rfl) rfl (nb01 (in_w 0 1 (in_c 0 rfl) rfl)) (hp35 _ _ ?_)
                  show GG _ _ _ _ _ _ _ _ [.int (Int32.ofInt 0)] _ _ _
                  refine g_if_ne 41 45 (gd rfl) rfl rfl (fun c38 => ?_) (fun c38 => ?_)
                  · skip
                    exact zn_ne c38 (in_c 0 rfl) rfl
                  · skip
                    refine g_ldc2_w 9000000000000000 44 (gd rfl) rfl rfl ?_
                    exact g_lreturn (gd rfl) rfl (hP _ _ ⟨s, hI, fr_rf, (Int64.ofInt 9000000000000000), rfl, rfl⟩)
                · skip
                  have i35x9 := r_lt2 1 160 c35x9 i8 ro_2_3 rfl
                  refine g_aload_n 13 (gd rfl) rfl rfl ?_
                  refine g_getA (q2 := 4) 16 (gd rfl) rfl rfl rfl rfl ?_
                  refine g_iload_n 17 (gd rfl) rfl rfl ?_
                  refine g_iaload 18 (gd rfl) rfl (n := 160) rfl (in_ix i8 rfl) (fun z35x17 e35x17 => ?_)
                  have i35x17 := inv_I hI (n := 160) (t := 0) (-1) 31 rfl (in_ix i8 rfl) rfl e35x17
                  refine g_iconst (-1) 19 (gd rfl) rfl rfl ?_
                  refine g_cmp_eq 22 26 (gd rfl) rfl rfl (fun c35x19 => ?_) (fun c35x19 => ?_)
                  · skip
                    have i35x19 := r_eq1 (-1) (-1) c35x19 i35x17 (in_c (-1) rfl) rfl
                    refine g_iconst 0 27 (gd rfl) rfl rfl ?_
                    refine g_ireturn (gd rfl) rfl (nb01 (in_w 0 1 (in_c 0 rfl) rfl)) (hp35 _ _ ?_)
                    show GG _ _ _ _ _ _ _ _ [.int (Int32.ofInt 0)] _ _ _
                    refine g_if_ne 41 45 (gd rfl) rfl rfl (fun c38 => ?_) (fun c38 => ?_)
                    · skip
                      exact zn_ne c38 (in_c 0 rfl) rfl
                    · skip
                      refine g_ldc2_w 9000000000000000 44 (gd rfl) rfl rfl ?_
                      exact g_lreturn (gd rfl) rfl (hP _ _ ⟨s, hI, fr_rf, (Int64.ofInt 9000000000000000), rfl, rfl⟩)
                  · skip
                    have i35x19 := r_ne1 0 31 c35x19 i35x17 (in_c (-1) rfl) rfl
                    refine g_iconst 1 23 (gd rfl) rfl rfl ?_
                    refine g_goto 27 (gd rfl) rfl ?_
                    refine g_ireturn (gd rfl) rfl (nb01 (in_w 0 1 (in_c 1 rfl) rfl)) (hp35 _ _ ?_)
                    show GG _ _ _ _ _ _ _ _ [.int (Int32.ofInt 1)] _ _ _
                    refine g_if_ne 41 45 (gd rfl) rfl rfl (fun c38 => ?_) (fun c38 => ?_)
                    · skip
                      refine g_iload_n 46 (gd rfl) rfl rfl ?_
                      refine g_if_ne 49 57 (gd rfl) rfl rfl (fun c46 => ?_) (fun c46 => ?_)
                      · skip
                        have i46 := z_ne 1 4 c46 i17 rfl
                        refine g_iload_n 58 (gd rfl) rfl rfl ?_
                        refine g_iconst 1 59 (gd rfl) rfl rfl ?_
                        refine g_cmp_ne 62 72 (gd rfl) rfl rfl (fun c59 => ?_) (fun c59 => ?_)
                        · skip
                          have i59 := r_ne1 2 4 c59 i46 (in_c 1 rfl) rfl
                          refine g_aload_n 73 (gd rfl) rfl rfl ?_
                          refine g_iload_n 74 (gd rfl) rfl rfl ?_
                          refine g_iload_n 75 (gd rfl) rfl rfl ?_
                          refine g_iconst 2 76 (gd rfl) rfl rfl ?_
                          refine g_isub 77 (gd rfl) rfl (fun z76 e76 => ?_)
                          have i76 := in_sub 0 2 e76 i59 (in_c 2 rfl) rfl rfl
                          refine g_callv (X := _) (As := [.int x1, .int z76]) (r := []) (b := A 2) (q := 2) 80 (gd rfl) rfl rfl rfl rfl rfl (ww_o rfl) (Nat.le_of_ble_eq_true rfl) (mc := 0) (ms := 0) (Nat.zero_le _) (Nat.zero_le _) (P := fun v u => _) ?_ (fun e u h => h) (fun v u h => h)
                          intro po77 xx77 hp77 hx77
                          refine g_enter2 (k := 100) (N := 300) (by first | exact dq1 hd rfl | exact dq0 hd rfl | exact dq2 hd rfl | exact dq3 hd rfl | omega) rfl (Nat.le_of_ble_eq_true rfl) ?_
                          refine g_iload_n 1 (gd rfl) rfl rfl ?_
                          refine g_if_ne 4 11 (gd rfl) rfl rfl (fun c77x1 => ?_) (fun c77x1 => ?_)
                          · skip
                            have i77x1 := z_ne 1 2 c77x1 i76 rfl
                            refine g_iload_n 12 (gd rfl) rfl rfl ?_
                            refine g_iconst 1 13 (gd rfl) rfl rfl ?_
                            refine g_cmp_ne 16 25 (gd rfl) rfl rfl (fun c77x13 => ?_) (fun c77x13 => ?_)
                            · skip
                              have i77x13 := r_ne1 2 2 c77x13 i77x1 (in_c 1 rfl) rfl
                              refine g_aload_n 26 (gd rfl) rfl rfl ?_
                              refine g_getA (q2 := 8) 29 (gd rfl) rfl rfl rfl rfl ?_
                              refine g_iload_n 30 (gd rfl) rfl rfl ?_
                              refine g_iaload 31 (gd rfl) rfl (n := 160) rfl (in_ix i8 rfl) (fun z77x30 e77x30 => ?_)
                              have i77x30 := inv_I hI (n := 160) (t := 0) 0 25 rfl (in_ix i8 rfl) rfl e77x30
                              refine g_ireturn (gd rfl) rfl rfl (hp77 _ _ ?_)
                              show GG _ _ _ _ _ _ _ _ [.int z77x30] _ _ _
                              refine g_i2l 81 (gd rfl) rfl (fun z80 e80 => ?_)
                              have i80 := l_i e80 i77x30
                              exact g_lreturn (gd rfl) rfl (hP _ _ ⟨s, hI, fr_rf, z80, rfl, rfl⟩)
                            · skip
                              have i77x13 := r_eq1 1 1 c77x13 i77x1 (in_c 1 rfl) rfl
                              refine g_aload_n 17 (gd rfl) rfl rfl ?_
                              refine g_getA (q2 := 7) 20 (gd rfl) rfl rfl rfl rfl ?_
                              refine g_iload_n 21 (gd rfl) rfl rfl ?_
                              refine g_iaload 22 (gd rfl) rfl (n := 160) rfl (in_ix i8 rfl) (fun z77x21 e77x21 => ?_)
                              have i77x21 := inv_I hI (n := 160) (t := 0) 0 1000000 rfl (in_ix i8 rfl) rfl e77x21
                              refine g_goto 31 (gd rfl) rfl ?_
                              refine g_ireturn (gd rfl) rfl rfl (hp77 _ _ ?_)
                              show GG _ _ _ _ _ _ _ _ [.int z77x21] _ _ _
                              refine g_i2l 81 (gd rfl) rfl (fun z80 e80 => ?_)
                              have i80 := l_i e80 i77x21
                              exact g_lreturn (gd rfl) rfl (hP _ _ ⟨s, hI, fr_rf, z80, rfl, rfl⟩)
                          · skip
                            have i77x1 := z_eq 0 0 c77x1 i76 rfl
                            refine g_aload_n 5 (gd rfl) rfl rfl ?_
                            refine g_getA (q2 := 6) 8 (gd rfl) rfl rfl rfl rfl ?_
                            refine g_iload_n 9 (gd rfl) rfl rfl ?_
                            refine g_iaload 10 (gd rfl) rfl (n := 160) rfl (in_ix i8 rfl) (fun z77x9 e77x9 => ?_)
                            have i77x9 := inv_I hI (n := 160) (t := 0) (-1000000) 1000000 rfl (in_ix i8 rfl) rfl e77x9
                            refine g_ireturn (gd rfl) rfl rfl (hp77 _ _ ?_)
                            show GG _ _ _ _ _ _ _ _ [.int z77x9] _ _ _
                            refine g_i2l 81 (gd rfl) rfl (fun z80 e80 => ?_)
                            have i80 := l_i e80 i77x9
                            exact g_lreturn (gd rfl) rfl (hP _ _ ⟨s, hI, fr_rf, z80, rfl, rfl⟩)
                        · skip
                          have i59 := r_eq1 1 1 c59 i46 (in_c 1 rfl) rfl
                          refine g_aload_n 63 (gd rfl) rfl rfl ?_
                          refine g_getA (q2 := 5) 66 (gd rfl) rfl rfl rfl rfl ?_
                          refine g_iload_n 67 (gd rfl) rfl rfl ?_
                          refine g_iaload 68 (gd rfl) rfl (n := 160) rfl (in_ix i8 rfl) (fun z67 e67 => ?_)
                          have i67 := inv_I hI (n := 160) (t := 0) 0 31 rfl (in_ix i8 rfl) rfl e67
                          refine g_i2l 69 (gd rfl) rfl (fun z68 e68 => ?_)
                          have i68 := l_i e68 i67
                          refine g_goto 81 (gd rfl) rfl ?_
                          exact g_lreturn (gd rfl) rfl (hP _ _ ⟨s, hI, fr_rf, z68, rfl, rfl⟩)
                      · skip
                        have i46 := z_eq 0 0 c46 i17 rfl
                        refine g_aload_n 50 (gd rfl) rfl rfl ?_
                        refine g_getA (q2 := 4) 53 (gd rfl) rfl rfl rfl rfl ?_
                        refine g_iload_n 54 (gd rfl) rfl rfl ?_
                        refine g_iaload 55 (gd rfl) rfl (n := 160) rfl (in_ix i8 rfl) (fun z54 e54 => ?_)
                        have q54 : z35x17 = z54 := (e35x17).trans e54.symm
                        subst q54
                        refine g_i2l 56 (gd rfl) rfl (fun z55 e55 => ?_)
                        have i55 := l_i e55 i35x19
                        exact g_lreturn (gd rfl) rfl (hP _ _ ⟨s, hI, fr_rf, z55, rfl, rfl⟩)
                    · skip
                      exact zn_eq c38 (in_c 1 rfl) rfl
          · skip
            exact zn_eq c25 (in_c 1 rfl) rfl

def fm_221_0 : FM := ([], [], [], [])
/-- GraphHouse.labelOf -/
theorem k_221_0 {Z : AmZ} {A : Nat → Nat} {s : GS} {ex : va_W} {d : Nat} {x1 : Int32} (hd : 7 ≤ d) (hI : Inv s)  : GC Z d 221 [.ref (A 0), .int x1] (WW Z A s ++ ex) 3 18 (fun v u => ∃ t : GS, Inv t ∧ Fr fm_221_0 s t ∧ ∃ z : Int32, v = some (.int z) ∧ u = WW Z A t ++ ex ∧ In z 0 25) (gE1 Z A ex fm_221_0 s) := by
  intro post xp hP hX
  obtain ⟨u_0_2, e_0_2⟩ : ∃ w, w = s.2.2.1 0 2 := ⟨_, rfl⟩
  have ro_0_2 := inv_F hI (-1) 4000 rfl e_0_2
  obtain ⟨u_2_1, e_2_1⟩ : ∃ w, w = s.2.2.1 2 1 := ⟨_, rfl⟩
  have ro_2_1 := inv_F hI 0 32 rfl e_2_1
  obtain ⟨u_32_1, e_32_1⟩ : ∃ w, w = s.2.2.1 32 1 := ⟨_, rfl⟩
  have ro_32_1 := inv_F hI 0 32 rfl e_32_1
  refine g_enter2 (k := 221) (N := 900) (by first | exact dq1 hd rfl | exact dq0 hd rfl | exact dq2 hd rfl | exact dq3 hd rfl | omega) rfl (Nat.le_of_ble_eq_true rfl) ?_
  refine g_aload_n 1 (gd rfl) rfl rfl ?_
  refine g_callv (X := _) (As := []) (r := []) (b := A 0) (q := 0) 4 (gd rfl) rfl rfl rfl rfl rfl (ww_o rfl) (Nat.le_of_ble_eq_true rfl) (mc := 0) (ms := 0) (Nat.zero_le _) (Nat.zero_le _) (P := fun v u => _) ?_ (fun e u h => h) (fun v u h => h)
  intro po1 xx1 hp1 hx1
  refine g_enter2 (k := 259) (N := 300) (by first | exact dq1 hd rfl | exact dq0 hd rfl | exact dq2 hd rfl | exact dq3 hd rfl | omega) rfl (Nat.le_of_ble_eq_true rfl) ?_
  refine g_aload_n 1 (gd rfl) rfl rfl ?_
  refine g_getI 4 (gd rfl) rfl rfl rfl (fun z1x1 e1x1 => ?_)
  have q1x1 : u_0_2 = z1x1 := (e_0_2).trans e1x1.symm
  subst q1x1
  refine g_iconst (-1) 5 (gd rfl) rfl rfl ?_
  refine g_cmp_ne 8 18 (gd rfl) rfl rfl (fun c1x5 => ?_) (fun c1x5 => ?_)
  · skip
    have i1x5 := r_ne1 0 4000 c1x5 ro_0_2 (in_c (-1) rfl) rfl
    refine g_aload_n 19 (gd rfl) rfl rfl ?_
    refine g_getA (q2 := 32) 22 (gd rfl) rfl rfl rfl rfl ?_
    refine g_areturn (gd rfl) rfl (hp1 _ _ ?_)
    show GG _ _ _ _ _ _ _ _ [.ref (A 32)] _ _ _
    refine g_astore_n 5 (gd rfl) rfl (Nat.le_of_ble_eq_true rfl) ?_
    refine g_aload_n 6 (gd rfl) rfl rfl ?_
    refine g_iload_n 7 (gd rfl) rfl rfl ?_
    refine g_callv (X := _) (As := [.int x1]) (r := []) (b := A 32) (q := 32) 10 (gd rfl) rfl rfl rfl rfl rfl (ww_o rfl) (Nat.le_of_ble_eq_true rfl) (mc := 0) (ms := 0) (Nat.zero_le _) (Nat.zero_le _) (P := fun v u => _) ?_ (fun e u h => h) (fun v u h => h)
    intro po7 xx7 hp7 hx7
    refine g_enter2 (k := 94) (N := 300) (by first | exact dq1 hd rfl | exact dq0 hd rfl | exact dq2 hd rfl | exact dq3 hd rfl | omega) rfl (Nat.le_of_ble_eq_true rfl) ?_
    refine g_iload_n 1 (gd rfl) rfl rfl ?_
    refine g_if_lt 4 16 (gd rfl) rfl rfl (fun c7x1 => ?_) (fun c7x1 => ?_)
    · skip
      have i7x1 := z_lt (-2147483648) (-1) c7x1 (i_rng x1) rfl
      refine g_iconst 0 17 (gd rfl) rfl rfl ?_
      refine g_ireturn (gd rfl) rfl (nb01 (in_w 0 1 (in_c 0 rfl) rfl)) (hp7 _ _ ?_)
      show GG _ _ _ _ _ _ _ _ [.int (Int32.ofInt 0)] _ _ _
      refine g_thr (E := am_IA) (y := yX11_allow) 13 (gd rfl) rfl rfl (Or.inl ⟨rfl, rfl, rfl⟩) (by first | exact dq1 hd rfl | exact dq0 hd rfl | exact dq2 hd rfl | exact dq3 hd rfl | omega) (Nat.le_of_ble_eq_true rfl) (Nat.le_of_ble_eq_true rfl) (Nat.le_of_ble_eq_true rfl) (fun c10 => ?_) (fun c10 => ?_)
      · skip
        exact zn_ne c10 (in_c 0 rfl) rfl
      · skip
        exact (hX _ _ ⟨rfl, s, hI, fr_rf, rfl⟩)
    · skip
      have i7x1 := z_ge 0 2147483647 c7x1 (i_rng x1) rfl
      refine g_iload_n 5 (gd rfl) rfl rfl ?_
      refine g_aload_n 6 (gd rfl) rfl rfl ?_
      refine g_getI 9 (gd rfl) rfl rfl rfl (fun z7x6 e7x6 => ?_)
      have q7x6 : u_32_1 = z7x6 := (e_32_1).trans e7x6.symm
      subst q7x6
      refine g_cmp_ge 12 16 (gd rfl) rfl rfl (fun c7x9 => ?_) (fun c7x9 => ?_)
      · skip
        refine g_iconst 0 17 (gd rfl) rfl rfl ?_
        refine g_ireturn (gd rfl) rfl (nb01 (in_w 0 1 (in_c 0 rfl) rfl)) (hp7 _ _ ?_)
        show GG _ _ _ _ _ _ _ _ [.int (Int32.ofInt 0)] _ _ _
        refine g_thr (E := am_IA) (y := yX11_allow) 13 (gd rfl) rfl rfl (Or.inl ⟨rfl, rfl, rfl⟩) (by first | exact dq1 hd rfl | exact dq0 hd rfl | exact dq2 hd rfl | exact dq3 hd rfl | omega) (Nat.le_of_ble_eq_true rfl) (Nat.le_of_ble_eq_true rfl) (Nat.le_of_ble_eq_true rfl) (fun c10 => ?_) (fun c10 => ?_)
        · skip
          exact zn_ne c10 (in_c 0 rfl) rfl
        · skip
          exact (hX _ _ ⟨rfl, s, hI, fr_rf, rfl⟩)
      · skip
        have i7x9 := r_lt1 0 31 c7x9 i7x1 ro_32_1 rfl
        have i7x9a := r_lt2 1 32 c7x9 i7x1 ro_32_1 rfl
        refine g_iconst 1 13 (gd rfl) rfl rfl ?_
        refine g_goto 17 (gd rfl) rfl ?_
        refine g_ireturn (gd rfl) rfl (nb01 (in_w 0 1 (in_c 1 rfl) rfl)) (hp7 _ _ ?_)
        show GG _ _ _ _ _ _ _ _ [.int (Int32.ofInt 1)] _ _ _
        refine g_thr (E := am_IA) (y := yX11_allow) 13 (gd rfl) rfl rfl (Or.inl ⟨rfl, rfl, rfl⟩) (by first | exact dq1 hd rfl | exact dq0 hd rfl | exact dq2 hd rfl | exact dq3 hd rfl | omega) (Nat.le_of_ble_eq_true rfl) (Nat.le_of_ble_eq_true rfl) (Nat.le_of_ble_eq_true rfl) (fun c10 => ?_) (fun c10 => ?_)
        · skip
          refine g_aload_n 14 (gd rfl) rfl rfl ?_
          refine g_getA (q2 := 33) 17 (gd rfl) rfl rfl rfl rfl ?_
          refine g_iload_n 18 (gd rfl) rfl rfl ?_
          refine g_iaload 19 (gd rfl) rfl (n := 32) rfl (in_ix i7x9 rfl) (fun z18 e18 => ?_)
          have i18 := inv_I hI (n := 32) (t := 0) 0 25 rfl (in_ix i7x9 rfl) rfl e18
          exact g_ireturn (gd rfl) rfl rfl (hP _ _ ⟨s, hI, fr_rf, z18, rfl, rfl, in_w 0 25 i18 rfl⟩)
        · skip
          exact zn_eq c10 (in_c 1 rfl) rfl
  · skip
    have i1x5 := r_eq1 (-1) (-1) c1x5 ro_0_2 (in_c (-1) rfl) rfl
    refine g_aload_n 9 (gd rfl) rfl rfl ?_
    refine g_getA (q2 := 1) 12 (gd rfl) rfl rfl rfl rfl ?_
    refine g_getA (q2 := 2) 15 (gd rfl) rfl rfl rfl rfl ?_
    refine g_goto 22 (gd rfl) rfl ?_
    refine g_areturn (gd rfl) rfl (hp1 _ _ ?_)
    show GG _ _ _ _ _ _ _ _ [.ref (A 2)] _ _ _
    refine g_astore_n 5 (gd rfl) rfl (Nat.le_of_ble_eq_true rfl) ?_
    refine g_aload_n 6 (gd rfl) rfl rfl ?_
    refine g_iload_n 7 (gd rfl) rfl rfl ?_
    refine g_callv (X := _) (As := [.int x1]) (r := []) (b := A 2) (q := 2) 10 (gd rfl) rfl rfl rfl rfl rfl (ww_o rfl) (Nat.le_of_ble_eq_true rfl) (mc := 0) (ms := 0) (Nat.zero_le _) (Nat.zero_le _) (P := fun v u => _) ?_ (fun e u h => h) (fun v u h => h)
    intro po7 xx7 hp7 hx7
    refine g_enter2 (k := 94) (N := 300) (by first | exact dq1 hd rfl | exact dq0 hd rfl | exact dq2 hd rfl | exact dq3 hd rfl | omega) rfl (Nat.le_of_ble_eq_true rfl) ?_
    refine g_iload_n 1 (gd rfl) rfl rfl ?_
    refine g_if_lt 4 16 (gd rfl) rfl rfl (fun c7x1 => ?_) (fun c7x1 => ?_)
    · skip
      have i7x1 := z_lt (-2147483648) (-1) c7x1 (i_rng x1) rfl
      refine g_iconst 0 17 (gd rfl) rfl rfl ?_
      refine g_ireturn (gd rfl) rfl (nb01 (in_w 0 1 (in_c 0 rfl) rfl)) (hp7 _ _ ?_)
      show GG _ _ _ _ _ _ _ _ [.int (Int32.ofInt 0)] _ _ _
      refine g_thr (E := am_IA) (y := yX11_allow) 13 (gd rfl) rfl rfl (Or.inl ⟨rfl, rfl, rfl⟩) (by first | exact dq1 hd rfl | exact dq0 hd rfl | exact dq2 hd rfl | exact dq3 hd rfl | omega) (Nat.le_of_ble_eq_true rfl) (Nat.le_of_ble_eq_true rfl) (Nat.le_of_ble_eq_true rfl) (fun c10 => ?_) (fun c10 => ?_)
      · skip
        exact zn_ne c10 (in_c 0 rfl) rfl
      · skip
        exact (hX _ _ ⟨rfl, s, hI, fr_rf, rfl⟩)
    · skip
      have i7x1 := z_ge 0 2147483647 c7x1 (i_rng x1) rfl
      refine g_iload_n 5 (gd rfl) rfl rfl ?_
      refine g_aload_n 6 (gd rfl) rfl rfl ?_
      refine g_getI 9 (gd rfl) rfl rfl rfl (fun z7x6 e7x6 => ?_)
      have q7x6 : u_2_1 = z7x6 := (e_2_1).trans e7x6.symm
      subst q7x6
      refine g_cmp_ge 12 16 (gd rfl) rfl rfl (fun c7x9 => ?_) (fun c7x9 => ?_)
      · skip
        refine g_iconst 0 17 (gd rfl) rfl rfl ?_
        refine g_ireturn (gd rfl) rfl (nb01 (in_w 0 1 (in_c 0 rfl) rfl)) (hp7 _ _ ?_)
        show GG _ _ _ _ _ _ _ _ [.int (Int32.ofInt 0)] _ _ _
        refine g_thr (E := am_IA) (y := yX11_allow) 13 (gd rfl) rfl rfl (Or.inl ⟨rfl, rfl, rfl⟩) (by first | exact dq1 hd rfl | exact dq0 hd rfl | exact dq2 hd rfl | exact dq3 hd rfl | omega) (Nat.le_of_ble_eq_true rfl) (Nat.le_of_ble_eq_true rfl) (Nat.le_of_ble_eq_true rfl) (fun c10 => ?_) (fun c10 => ?_)
        · skip
          exact zn_ne c10 (in_c 0 rfl) rfl
        · skip
          exact (hX _ _ ⟨rfl, s, hI, fr_rf, rfl⟩)
      · skip
        have i7x9 := r_lt1 0 31 c7x9 i7x1 ro_2_1 rfl
        have i7x9a := r_lt2 1 32 c7x9 i7x1 ro_2_1 rfl
        refine g_iconst 1 13 (gd rfl) rfl rfl ?_
        refine g_goto 17 (gd rfl) rfl ?_
        refine g_ireturn (gd rfl) rfl (nb01 (in_w 0 1 (in_c 1 rfl) rfl)) (hp7 _ _ ?_)
        show GG _ _ _ _ _ _ _ _ [.int (Int32.ofInt 1)] _ _ _
        refine g_thr (E := am_IA) (y := yX11_allow) 13 (gd rfl) rfl rfl (Or.inl ⟨rfl, rfl, rfl⟩) (by first | exact dq1 hd rfl | exact dq0 hd rfl | exact dq2 hd rfl | exact dq3 hd rfl | omega) (Nat.le_of_ble_eq_true rfl) (Nat.le_of_ble_eq_true rfl) (Nat.le_of_ble_eq_true rfl) (fun c10 => ?_) (fun c10 => ?_)
        · skip
          refine g_aload_n 14 (gd rfl) rfl rfl ?_
          refine g_getA (q2 := 3) 17 (gd rfl) rfl rfl rfl rfl ?_
          refine g_iload_n 18 (gd rfl) rfl rfl ?_
          refine g_iaload 19 (gd rfl) rfl (n := 32) rfl (in_ix i7x9 rfl) (fun z18 e18 => ?_)
          have i18 := inv_I hI (n := 32) (t := 0) 0 25 rfl (in_ix i7x9 rfl) rfl e18
          exact g_ireturn (gd rfl) rfl rfl (hP _ _ ⟨s, hI, fr_rf, z18, rfl, rfl, in_w 0 25 i18 rfl⟩)
        · skip
          exact zn_eq c10 (in_c 1 rfl) rfl

def fm_222_0 : FM := ([9, 10, 11, 12, 13, 14, 15, 39, 40, 41, 42, 43, 44, 45], [], [(2, 4), (32, 4)], [])
/-- GraphHouse.arcAt -/
theorem k_222_0 {Z : AmZ} {A : Nat → Nat} {s : GS} {ex : va_W} {d : Nat} {x1 : Int32} {x2 : Int32} {x3 : Int32} (hd : 7 ≤ d) (hI : Inv s)  : GC Z d 222 [.ref (A 0), .int x1, .int x2, .int x3] (WW Z A s ++ ex) 3 18 (fun v u => ∃ t : GS, Inv t ∧ Fr fm_222_0 s t ∧ ∃ z : Int32, v = some (.int z) ∧ u = WW Z A t ++ ex ∧ In z (-1) 159) (gE1 Z A ex fm_222_0 s) := by
  intro post xp hP hX
  obtain ⟨u_0_2, e_0_2⟩ : ∃ w, w = s.2.2.1 0 2 := ⟨_, rfl⟩
  have ro_0_2 := inv_F hI (-1) 4000 rfl e_0_2
  obtain ⟨u_2_1, e_2_1⟩ : ∃ w, w = s.2.2.1 2 1 := ⟨_, rfl⟩
  have ro_2_1 := inv_F hI 0 32 rfl e_2_1
  obtain ⟨u_32_1, e_32_1⟩ : ∃ w, w = s.2.2.1 32 1 := ⟨_, rfl⟩
  have ro_32_1 := inv_F hI 0 32 rfl e_32_1
  have ct32 : ∀ (sc32 : GS) , Inv sc32 → Fr fm_222_0 s sc32 → GG Z (d - 1) 222 post (gx xp) (901) 32 (fun j => xlook j [(0, .ref (A 0)), (1, .int x1), (2, .int x2), (3, .int x3)]) [] (WW Z A sc32 ++ ex) 3 18 := by
    intro sc32  hIc32 hFc32 
    refine g_iconst 0 33 (gd rfl) rfl rfl ?_
    refine g_thr (E := am_IA) (y := yX11_allow) 36 (gd rfl) rfl rfl (Or.inl ⟨rfl, rfl, rfl⟩) (by first | exact dq1 hd rfl | exact dq0 hd rfl | exact dq2 hd rfl | exact dq3 hd rfl | omega) (Nat.le_of_ble_eq_true rfl) (Nat.le_of_ble_eq_true rfl) (Nat.le_of_ble_eq_true rfl) (fun c33 => ?_) (fun c33 => ?_)
    · skip
      exact zn_ne c33 (in_c 0 rfl) rfl
    · skip
      exact (hX _ _ ⟨rfl, sc32, hIc32, hFc32, rfl⟩)
  refine g_enter2 (k := 222) (N := 1801) (by first | exact dq1 hd rfl | exact dq0 hd rfl | exact dq2 hd rfl | exact dq3 hd rfl | omega) rfl (Nat.le_of_ble_eq_true rfl) ?_
  refine g_aload_n 1 (gd rfl) rfl rfl ?_
  refine g_callv (X := _) (As := []) (r := []) (b := A 0) (q := 0) 4 (gd rfl) rfl rfl rfl rfl rfl (ww_o rfl) (Nat.le_of_ble_eq_true rfl) (mc := 0) (ms := 0) (Nat.zero_le _) (Nat.zero_le _) (P := fun v u => _) ?_ (fun e u h => h) (fun v u h => h)
  intro po1 xx1 hp1 hx1
  refine g_enter2 (k := 259) (N := 300) (by first | exact dq1 hd rfl | exact dq0 hd rfl | exact dq2 hd rfl | exact dq3 hd rfl | omega) rfl (Nat.le_of_ble_eq_true rfl) ?_
  refine g_aload_n 1 (gd rfl) rfl rfl ?_
  refine g_getI 4 (gd rfl) rfl rfl rfl (fun z1x1 e1x1 => ?_)
  have q1x1 : u_0_2 = z1x1 := (e_0_2).trans e1x1.symm
  subst q1x1
  refine g_iconst (-1) 5 (gd rfl) rfl rfl ?_
  refine g_cmp_ne 8 18 (gd rfl) rfl rfl (fun c1x5 => ?_) (fun c1x5 => ?_)
  · skip
    have i1x5 := r_ne1 0 4000 c1x5 ro_0_2 (in_c (-1) rfl) rfl
    refine g_aload_n 19 (gd rfl) rfl rfl ?_
    refine g_getA (q2 := 32) 22 (gd rfl) rfl rfl rfl rfl ?_
    refine g_areturn (gd rfl) rfl (hp1 _ _ ?_)
    show GG _ _ _ _ _ _ _ _ [.ref (A 32)] _ _ _
    refine g_astore 6 (gd rfl) rfl (Nat.le_of_ble_eq_true rfl) ?_
    refine g_aload 8 (gd rfl) rfl rfl ?_
    refine g_iload_n 9 (gd rfl) rfl rfl ?_
    refine g_callv (X := _) (As := [.int x1]) (r := []) (b := A 32) (q := 32) 12 (gd rfl) rfl rfl rfl rfl rfl (ww_o rfl) (Nat.le_of_ble_eq_true rfl) (mc := 0) (ms := 0) (Nat.zero_le _) (Nat.zero_le _) (P := fun v u => _) ?_ (fun e u h => h) (fun v u h => h)
    intro po9 xx9 hp9 hx9
    refine g_enter2 (k := 94) (N := 300) (by first | exact dq1 hd rfl | exact dq0 hd rfl | exact dq2 hd rfl | exact dq3 hd rfl | omega) rfl (Nat.le_of_ble_eq_true rfl) ?_
    refine g_iload_n 1 (gd rfl) rfl rfl ?_
    refine g_if_lt 4 16 (gd rfl) rfl rfl (fun c9x1 => ?_) (fun c9x1 => ?_)
    · skip
      have i9x1 := z_lt (-2147483648) (-1) c9x1 (i_rng x1) rfl
      refine g_iconst 0 17 (gd rfl) rfl rfl ?_
      refine g_ireturn (gd rfl) rfl (nb01 (in_w 0 1 (in_c 0 rfl) rfl)) (hp9 _ _ ?_)
      show GG _ _ _ _ _ _ _ _ [.int (Int32.ofInt 0)] _ _ _
      refine g_if_eq 15 32 (gd rfl) rfl rfl (fun c12 => ?_) (fun c12 => ?_)
      · skip
        exact gg_w (by first | exact Nat.le_of_ble_eq_true rfl | omega) (gg_f (gf_cons rfl (gf_cons rfl (gf_cons rfl (gf_cons rfl gf_nil)))) (ct32 s  hI fr_rf ))
      · skip
        exact zn_ne c12 (in_c 0 rfl) rfl
    · skip
      have i9x1 := z_ge 0 2147483647 c9x1 (i_rng x1) rfl
      refine g_iload_n 5 (gd rfl) rfl rfl ?_
      refine g_aload_n 6 (gd rfl) rfl rfl ?_
      refine g_getI 9 (gd rfl) rfl rfl rfl (fun z9x6 e9x6 => ?_)
      have q9x6 : u_32_1 = z9x6 := (e_32_1).trans e9x6.symm
      subst q9x6
      refine g_cmp_ge 12 16 (gd rfl) rfl rfl (fun c9x9 => ?_) (fun c9x9 => ?_)
      · skip
        refine g_iconst 0 17 (gd rfl) rfl rfl ?_
        refine g_ireturn (gd rfl) rfl (nb01 (in_w 0 1 (in_c 0 rfl) rfl)) (hp9 _ _ ?_)
        show GG _ _ _ _ _ _ _ _ [.int (Int32.ofInt 0)] _ _ _
        refine g_if_eq 15 32 (gd rfl) rfl rfl (fun c12 => ?_) (fun c12 => ?_)
        · skip
          exact gg_w (by first | exact Nat.le_of_ble_eq_true rfl | omega) (gg_f (gf_cons rfl (gf_cons rfl (gf_cons rfl (gf_cons rfl gf_nil)))) (ct32 s  hI fr_rf ))
        · skip
          exact zn_ne c12 (in_c 0 rfl) rfl
      · skip
        have i9x9 := r_lt1 0 31 c9x9 i9x1 ro_32_1 rfl
        have i9x9a := r_lt2 1 32 c9x9 i9x1 ro_32_1 rfl
        refine g_iconst 1 13 (gd rfl) rfl rfl ?_
        refine g_goto 17 (gd rfl) rfl ?_
        refine g_ireturn (gd rfl) rfl (nb01 (in_w 0 1 (in_c 1 rfl) rfl)) (hp9 _ _ ?_)
        show GG _ _ _ _ _ _ _ _ [.int (Int32.ofInt 1)] _ _ _
        refine g_if_eq 15 32 (gd rfl) rfl rfl (fun c12 => ?_) (fun c12 => ?_)
        · skip
          exact zn_eq c12 (in_c 1 rfl) rfl
        · skip
          refine g_iload_n 16 (gd rfl) rfl rfl ?_
          refine g_if_lt 19 32 (gd rfl) rfl rfl (fun c16 => ?_) (fun c16 => ?_)
          · skip
            have i16 := z_lt (-2147483648) (-1) c16 (i_rng x2) rfl
            exact gg_w (by first | exact Nat.le_of_ble_eq_true rfl | omega) (gg_f (gf_cons rfl (gf_cons rfl (gf_cons rfl (gf_cons rfl gf_nil)))) (ct32 s  hI fr_rf ))
          · skip
            have i16 := z_ge 0 2147483647 c16 (i_rng x2) rfl
            refine g_iload_n 20 (gd rfl) rfl rfl ?_
            refine g_iconst 1 21 (gd rfl) rfl rfl ?_
            refine g_cmp_gt 24 32 (gd rfl) rfl rfl (fun c21 => ?_) (fun c21 => ?_)
            · skip
              have i21 := r_lt2 2 2147483647 c21 (in_c 1 rfl) i16 rfl
              exact gg_w (by first | exact Nat.le_of_ble_eq_true rfl | omega) (gg_f (gf_cons rfl (gf_cons rfl (gf_cons rfl (gf_cons rfl gf_nil)))) (ct32 s  hI fr_rf ))
            · skip
              have i21 := r_le1 0 1 c21 i16 (in_c 1 rfl) rfl
              refine g_iload_n 25 (gd rfl) rfl rfl ?_
              refine g_if_lt 28 32 (gd rfl) rfl rfl (fun c25 => ?_) (fun c25 => ?_)
              · skip
                have i25 := z_lt (-2147483648) (-1) c25 (i_rng x3) rfl
                exact gg_w (by first | exact Nat.le_of_ble_eq_true rfl | omega) (gg_f (gf_cons rfl (gf_cons rfl (gf_cons rfl (gf_cons rfl gf_nil)))) (ct32 s  hI fr_rf ))
              · skip
                have i25 := z_ge 0 2147483647 c25 (i_rng x3) rfl
                refine g_iconst 1 29 (gd rfl) rfl rfl ?_
                refine g_goto 33 (gd rfl) rfl ?_
                refine g_thr (E := am_IA) (y := yX11_allow) 36 (gd rfl) rfl rfl (Or.inl ⟨rfl, rfl, rfl⟩) (by first | exact dq1 hd rfl | exact dq0 hd rfl | exact dq2 hd rfl | exact dq3 hd rfl | omega) (Nat.le_of_ble_eq_true rfl) (Nat.le_of_ble_eq_true rfl) (Nat.le_of_ble_eq_true rfl) (fun c33 => ?_) (fun c33 => ?_)
                · skip
                  refine g_aload 38 (gd rfl) rfl rfl ?_
                  refine g_callv (X := _) (As := []) (r := []) (b := A 32) (q := 32) 41 (gd rfl) rfl rfl rfl rfl rfl (ww_o rfl) (Nat.le_of_ble_eq_true rfl) (Nat.zero_le _) (Nat.zero_le _) (k_106_32 (by first | exact dq1 hd rfl | exact dq0 hd rfl | exact dq2 hd rfl | exact dq3 hd rfl | omega) hI ) (fun e u h => h) (fun v u h => ?_)
                  obtain ⟨s38, hI38, hF38, n38, rfl, rfl⟩ := h
                  obtain ⟨z38a, e38⟩ : ∃ w, w = s38.2.2.1 32 4 := ⟨_, rfl⟩
                  have i38a := inv_F hI38 (-1) 4000 rfl e38
                  obtain ⟨z38b, e38a⟩ : ∃ w, w = s38.2.2.1 32 0 := ⟨_, rfl⟩
                  have i38b := inv_F hI38 0 4000 rfl e38a
                  rw [← (show z38a = s38.2.2.1 32 4 from e38)] at n38
                  rw [← (show z38b = s38.2.2.1 32 0 from e38a)] at n38
                  show GG _ _ _ _ _ _ _ _ [] _ _ _
                  refine g_iload_n 42 (gd rfl) rfl rfl ?_
                  refine g_if_ne 45 75 (gd rfl) rfl rfl (fun c42 => ?_) (fun c42 => ?_)
                  · skip
                    have i42 := z_ne 1 1 c42 i21 rfl
                    refine g_iload_n 76 (gd rfl) rfl rfl ?_
                    refine g_aload 78 (gd rfl) rfl rfl ?_
                    refine g_iload_n 79 (gd rfl) rfl rfl ?_
                    refine g_callv (X := _) (As := [.int x1]) (r := [.int x3]) (b := A 32) (q := 32) 82 (gd rfl) rfl rfl rfl rfl rfl (ww_o rfl) (Nat.le_of_ble_eq_true rfl) (mc := 0) (ms := 0) (Nat.zero_le _) (Nat.zero_le _) (P := fun v u => _) ?_ (fun e u h => h) (fun v u h => h)
                    intro po79 xx79 hp79 hx79
                    refine g_enter2 (k := 104) (N := 300) (by first | exact dq1 hd rfl | exact dq0 hd rfl | exact dq2 hd rfl | exact dq3 hd rfl | omega) rfl (Nat.le_of_ble_eq_true rfl) ?_
                    refine g_aload_n 1 (gd rfl) rfl rfl ?_
                    refine g_getA (q2 := 44) 4 (gd rfl) rfl rfl rfl rfl ?_
                    refine g_iload_n 5 (gd rfl) rfl rfl ?_
                    refine g_iconst 1 6 (gd rfl) rfl rfl ?_
                    refine g_iadd 7 (gd rfl) rfl (fun z79x6 e79x6 => ?_)
                    have i79x6 := in_add 1 32 e79x6 i9x9 (in_c 1 rfl) rfl rfl
                    refine g_iaload 8 (gd rfl) rfl (n := 33) rfl (in_ix i79x6 rfl) (fun z79x7 e79x7 => ?_)
                    have i79x7 := inv_I hI38 (n := 33) (t := 0) 0 160 rfl (in_ix i79x6 rfl) rfl e79x7
                    refine g_aload_n 9 (gd rfl) rfl rfl ?_
                    refine g_getA (q2 := 44) 12 (gd rfl) rfl rfl rfl rfl ?_
                    refine g_iload_n 13 (gd rfl) rfl rfl ?_
                    refine g_iaload 14 (gd rfl) rfl (n := 33) rfl (in_ix i9x9 rfl) (fun z79x13 e79x13 => ?_)
                    have i79x13 := inv_I hI38 (n := 33) (t := 0) 0 160 rfl (in_ix i9x9 rfl) rfl e79x13
                    refine g_isub 15 (gd rfl) rfl (fun z79x14 e79x14 => ?_)
                    have i79x14 := in_sub (-160) 160 e79x14 i79x7 i79x13 rfl rfl
                    refine g_ireturn (gd rfl) rfl rfl (hp79 _ _ ?_)
                    show GG _ _ _ _ _ _ _ _ [.int z79x14, .int x3] _ _ _
                    refine g_cmp_ge 85 103 (gd rfl) rfl rfl (fun c82 => ?_) (fun c82 => ?_)
                    · skip
                      refine g_iconst (-1) 104 (gd rfl) rfl rfl ?_
                      exact g_ireturn (gd rfl) rfl rfl (hP _ _ ⟨s38, hI38, (fr_tr rfl fr_rf hF38), (Int32.ofInt (-1)), rfl, rfl, in_w (-1) 159 (in_c (-1) rfl) rfl⟩)
                    · skip
                      have i82 := r_lt1 0 159 c82 i25 i79x14 rfl
                      have i82a := r_lt2 1 160 c82 i25 i79x14 rfl
                      refine g_aload 87 (gd rfl) rfl rfl ?_
                      refine g_getA (q2 := 45) 90 (gd rfl) rfl rfl rfl rfl ?_
                      refine g_aload 92 (gd rfl) rfl rfl ?_
                      refine g_getA (q2 := 44) 95 (gd rfl) rfl rfl rfl rfl ?_
                      refine g_iload_n 96 (gd rfl) rfl rfl ?_
                      refine g_iaload 97 (gd rfl) rfl (n := 33) rfl (in_ix i9x9 rfl) (fun z96 e96 => ?_)
                      have q96 : z79x13 = z96 := (e79x13).trans e96.symm
                      subst q96
                      refine g_iload_n 98 (gd rfl) rfl rfl ?_
                      refine g_iadd 99 (gd rfl) rfl (fun z98 e98 => ?_)
                      have i98 := in_add 0 319 e98 i79x13 i82 rfl rfl
                      have i99 : In z98 0 159 := by (first | have a0 := oa9 i82 i42 i9x9 i9x9a ro_2_1 i1x5 i38b i38a i98 | ((first | have a0 := in_u i82 | (have a0 := i82; unfold In at a0)); (first | have a1 := in_u i42 | (have a1 := i42; unfold In at a1)); (first | have a2 := in_u i9x9 | (have a2 := i9x9; unfold In at a2)); (first | have a3 := in_u i9x9a | (have a3 := i9x9a; unfold In at a3)); (first | have a4 := in_u ro_2_1 | (have a4 := ro_2_1; unfold In at a4)); (first | have a5 := in_u i1x5 | (have a5 := i1x5; unfold In at a5)); (first | have a6 := in_u i38b | (have a6 := i38b; unfold In at a6)); (first | have a7 := in_u i38a | (have a7 := i38a; unfold In at a7)); (first | have a8 := in_u i98 | (have a8 := i98; unfold In at a8)))); have a9 := t_add e98 i79x13 i82 rfl; (first | have a10 := oa2 i79x13 i82a | ((first | have a10 := in_u i79x13 | (have a10 := i79x13; unfold In at a10)); (first | have a11 := in_u i82a | (have a11 := i82a; unfold In at a11)))); have a12 := t_sub e79x14 i79x7 i79x13 rfl; (first | have a13 := oa2 i79x7 i79x6 | ((first | have a13 := in_u i79x7 | (have a13 := i79x7; unfold In at a13)); (first | have a14 := in_u i79x6 | (have a14 := i79x6; unfold In at a14)))); have a15 := t_add e79x6 i9x9 (in_c 1 rfl) rfl; (first | have a16 := in_u ((in_c 1 rfl)) | (have a16 := (in_c 1 rfl); unfold In at a16)); exact ⟨by omega, by omega⟩
                      refine g_iaload 100 (gd rfl) rfl (n := 160) rfl (in_ix i99 rfl) (fun z99 e99 => ?_)
                      have i99a := inv_I hI38 (n := 160) (t := 0) 0 159 rfl (in_ix i99 rfl) rfl e99
                      refine g_goto 104 (gd rfl) rfl ?_
                      exact g_ireturn (gd rfl) rfl rfl (hP _ _ ⟨s38, hI38, (fr_tr rfl fr_rf hF38), z99, rfl, rfl, in_w (-1) 159 i99a rfl⟩)
                  · skip
                    have i42 := z_eq 0 0 c42 i21 rfl
                    refine g_iload_n 46 (gd rfl) rfl rfl ?_
                    refine g_aload 48 (gd rfl) rfl rfl ?_
                    refine g_iload_n 49 (gd rfl) rfl rfl ?_
                    refine g_callv (X := _) (As := [.int x1]) (r := [.int x3]) (b := A 32) (q := 32) 52 (gd rfl) rfl rfl rfl rfl rfl (ww_o rfl) (Nat.le_of_ble_eq_true rfl) (mc := 0) (ms := 0) (Nat.zero_le _) (Nat.zero_le _) (P := fun v u => _) ?_ (fun e u h => h) (fun v u h => h)
                    intro po49 xx49 hp49 hx49
                    refine g_enter2 (k := 103) (N := 300) (by first | exact dq1 hd rfl | exact dq0 hd rfl | exact dq2 hd rfl | exact dq3 hd rfl | omega) rfl (Nat.le_of_ble_eq_true rfl) ?_
                    refine g_aload_n 1 (gd rfl) rfl rfl ?_
                    refine g_getA (q2 := 42) 4 (gd rfl) rfl rfl rfl rfl ?_
                    refine g_iload_n 5 (gd rfl) rfl rfl ?_
                    refine g_iconst 1 6 (gd rfl) rfl rfl ?_
                    refine g_iadd 7 (gd rfl) rfl (fun z49x6 e49x6 => ?_)
                    have i49x6 := in_add 1 32 e49x6 i9x9 (in_c 1 rfl) rfl rfl
                    refine g_iaload 8 (gd rfl) rfl (n := 33) rfl (in_ix i49x6 rfl) (fun z49x7 e49x7 => ?_)
                    have i49x7 := inv_I hI38 (n := 33) (t := 0) 0 160 rfl (in_ix i49x6 rfl) rfl e49x7
                    refine g_aload_n 9 (gd rfl) rfl rfl ?_
                    refine g_getA (q2 := 42) 12 (gd rfl) rfl rfl rfl rfl ?_
                    refine g_iload_n 13 (gd rfl) rfl rfl ?_
                    refine g_iaload 14 (gd rfl) rfl (n := 33) rfl (in_ix i9x9 rfl) (fun z49x13 e49x13 => ?_)
                    have i49x13 := inv_I hI38 (n := 33) (t := 0) 0 160 rfl (in_ix i9x9 rfl) rfl e49x13
                    refine g_isub 15 (gd rfl) rfl (fun z49x14 e49x14 => ?_)
                    have i49x14 := in_sub (-160) 160 e49x14 i49x7 i49x13 rfl rfl
                    refine g_ireturn (gd rfl) rfl rfl (hp49 _ _ ?_)
                    show GG _ _ _ _ _ _ _ _ [.int z49x14, .int x3] _ _ _
                    refine g_cmp_ge 55 73 (gd rfl) rfl rfl (fun c52 => ?_) (fun c52 => ?_)
                    · skip
                      refine g_iconst (-1) 74 (gd rfl) rfl rfl ?_
                      exact g_ireturn (gd rfl) rfl rfl (hP _ _ ⟨s38, hI38, (fr_tr rfl fr_rf hF38), (Int32.ofInt (-1)), rfl, rfl, in_w (-1) 159 (in_c (-1) rfl) rfl⟩)
                    · skip
                      have i52 := r_lt1 0 159 c52 i25 i49x14 rfl
                      have i52a := r_lt2 1 160 c52 i25 i49x14 rfl
                      refine g_aload 57 (gd rfl) rfl rfl ?_
                      refine g_getA (q2 := 43) 60 (gd rfl) rfl rfl rfl rfl ?_
                      refine g_aload 62 (gd rfl) rfl rfl ?_
                      refine g_getA (q2 := 42) 65 (gd rfl) rfl rfl rfl rfl ?_
                      refine g_iload_n 66 (gd rfl) rfl rfl ?_
                      refine g_iaload 67 (gd rfl) rfl (n := 33) rfl (in_ix i9x9 rfl) (fun z66 e66 => ?_)
                      have q66 : z49x13 = z66 := (e49x13).trans e66.symm
                      subst q66
                      refine g_iload_n 68 (gd rfl) rfl rfl ?_
                      refine g_iadd 69 (gd rfl) rfl (fun z68 e68 => ?_)
                      have i68 := in_add 0 319 e68 i49x13 i52 rfl rfl
                      have i69 : In z68 0 159 := by (first | have a0 := oa9 i52 i42 i9x9 i9x9a ro_2_1 i1x5 i38b i38a i68 | ((first | have a0 := in_u i52 | (have a0 := i52; unfold In at a0)); (first | have a1 := in_u i42 | (have a1 := i42; unfold In at a1)); (first | have a2 := in_u i9x9 | (have a2 := i9x9; unfold In at a2)); (first | have a3 := in_u i9x9a | (have a3 := i9x9a; unfold In at a3)); (first | have a4 := in_u ro_2_1 | (have a4 := ro_2_1; unfold In at a4)); (first | have a5 := in_u i1x5 | (have a5 := i1x5; unfold In at a5)); (first | have a6 := in_u i38b | (have a6 := i38b; unfold In at a6)); (first | have a7 := in_u i38a | (have a7 := i38a; unfold In at a7)); (first | have a8 := in_u i68 | (have a8 := i68; unfold In at a8)))); have a9 := t_add e68 i49x13 i52 rfl; (first | have a10 := oa2 i49x13 i52a | ((first | have a10 := in_u i49x13 | (have a10 := i49x13; unfold In at a10)); (first | have a11 := in_u i52a | (have a11 := i52a; unfold In at a11)))); have a12 := t_sub e49x14 i49x7 i49x13 rfl; (first | have a13 := oa2 i49x7 i49x6 | ((first | have a13 := in_u i49x7 | (have a13 := i49x7; unfold In at a13)); (first | have a14 := in_u i49x6 | (have a14 := i49x6; unfold In at a14)))); have a15 := t_add e49x6 i9x9 (in_c 1 rfl) rfl; (first | have a16 := in_u ((in_c 1 rfl)) | (have a16 := (in_c 1 rfl); unfold In at a16)); exact ⟨by omega, by omega⟩
                      refine g_iaload 70 (gd rfl) rfl (n := 160) rfl (in_ix i69 rfl) (fun z69 e69 => ?_)
                      have i69a := inv_I hI38 (n := 160) (t := 0) 0 159 rfl (in_ix i69 rfl) rfl e69
                      refine g_goto 74 (gd rfl) rfl ?_
                      exact g_ireturn (gd rfl) rfl rfl (hP _ _ ⟨s38, hI38, (fr_tr rfl fr_rf hF38), z69, rfl, rfl, in_w (-1) 159 i69a rfl⟩)
                · skip
                  exact zn_eq c33 (in_c 1 rfl) rfl
  · skip
    have i1x5 := r_eq1 (-1) (-1) c1x5 ro_0_2 (in_c (-1) rfl) rfl
    refine g_aload_n 9 (gd rfl) rfl rfl ?_
    refine g_getA (q2 := 1) 12 (gd rfl) rfl rfl rfl rfl ?_
    refine g_getA (q2 := 2) 15 (gd rfl) rfl rfl rfl rfl ?_
    refine g_goto 22 (gd rfl) rfl ?_
    refine g_areturn (gd rfl) rfl (hp1 _ _ ?_)
    show GG _ _ _ _ _ _ _ _ [.ref (A 2)] _ _ _
    refine g_astore 6 (gd rfl) rfl (Nat.le_of_ble_eq_true rfl) ?_
    refine g_aload 8 (gd rfl) rfl rfl ?_
    refine g_iload_n 9 (gd rfl) rfl rfl ?_
    refine g_callv (X := _) (As := [.int x1]) (r := []) (b := A 2) (q := 2) 12 (gd rfl) rfl rfl rfl rfl rfl (ww_o rfl) (Nat.le_of_ble_eq_true rfl) (mc := 0) (ms := 0) (Nat.zero_le _) (Nat.zero_le _) (P := fun v u => _) ?_ (fun e u h => h) (fun v u h => h)
    intro po9 xx9 hp9 hx9
    refine g_enter2 (k := 94) (N := 300) (by first | exact dq1 hd rfl | exact dq0 hd rfl | exact dq2 hd rfl | exact dq3 hd rfl | omega) rfl (Nat.le_of_ble_eq_true rfl) ?_
    refine g_iload_n 1 (gd rfl) rfl rfl ?_
    refine g_if_lt 4 16 (gd rfl) rfl rfl (fun c9x1 => ?_) (fun c9x1 => ?_)
    · skip
      have i9x1 := z_lt (-2147483648) (-1) c9x1 (i_rng x1) rfl
      refine g_iconst 0 17 (gd rfl) rfl rfl ?_
      refine g_ireturn (gd rfl) rfl (nb01 (in_w 0 1 (in_c 0 rfl) rfl)) (hp9 _ _ ?_)
      show GG _ _ _ _ _ _ _ _ [.int (Int32.ofInt 0)] _ _ _
      refine g_if_eq 15 32 (gd rfl) rfl rfl (fun c12 => ?_) (fun c12 => ?_)
      · skip
        exact gg_w (by first | exact Nat.le_of_ble_eq_true rfl | omega) (gg_f (gf_cons rfl (gf_cons rfl (gf_cons rfl (gf_cons rfl gf_nil)))) (ct32 s  hI fr_rf ))
      · skip
        exact zn_ne c12 (in_c 0 rfl) rfl
    · skip
      have i9x1 := z_ge 0 2147483647 c9x1 (i_rng x1) rfl
      refine g_iload_n 5 (gd rfl) rfl rfl ?_
      refine g_aload_n 6 (gd rfl) rfl rfl ?_
      refine g_getI 9 (gd rfl) rfl rfl rfl (fun z9x6 e9x6 => ?_)
      have q9x6 : u_2_1 = z9x6 := (e_2_1).trans e9x6.symm
      subst q9x6
      refine g_cmp_ge 12 16 (gd rfl) rfl rfl (fun c9x9 => ?_) (fun c9x9 => ?_)
      · skip
        refine g_iconst 0 17 (gd rfl) rfl rfl ?_
        refine g_ireturn (gd rfl) rfl (nb01 (in_w 0 1 (in_c 0 rfl) rfl)) (hp9 _ _ ?_)
        show GG _ _ _ _ _ _ _ _ [.int (Int32.ofInt 0)] _ _ _
        refine g_if_eq 15 32 (gd rfl) rfl rfl (fun c12 => ?_) (fun c12 => ?_)
        · skip
          exact gg_w (by first | exact Nat.le_of_ble_eq_true rfl | omega) (gg_f (gf_cons rfl (gf_cons rfl (gf_cons rfl (gf_cons rfl gf_nil)))) (ct32 s  hI fr_rf ))
        · skip
          exact zn_ne c12 (in_c 0 rfl) rfl
      · skip
        have i9x9 := r_lt1 0 31 c9x9 i9x1 ro_2_1 rfl
        have i9x9a := r_lt2 1 32 c9x9 i9x1 ro_2_1 rfl
        refine g_iconst 1 13 (gd rfl) rfl rfl ?_
        refine g_goto 17 (gd rfl) rfl ?_
        refine g_ireturn (gd rfl) rfl (nb01 (in_w 0 1 (in_c 1 rfl) rfl)) (hp9 _ _ ?_)
        show GG _ _ _ _ _ _ _ _ [.int (Int32.ofInt 1)] _ _ _
        refine g_if_eq 15 32 (gd rfl) rfl rfl (fun c12 => ?_) (fun c12 => ?_)
        · skip
          exact zn_eq c12 (in_c 1 rfl) rfl
        · skip
          refine g_iload_n 16 (gd rfl) rfl rfl ?_
          refine g_if_lt 19 32 (gd rfl) rfl rfl (fun c16 => ?_) (fun c16 => ?_)
          · skip
            have i16 := z_lt (-2147483648) (-1) c16 (i_rng x2) rfl
            exact gg_w (by first | exact Nat.le_of_ble_eq_true rfl | omega) (gg_f (gf_cons rfl (gf_cons rfl (gf_cons rfl (gf_cons rfl gf_nil)))) (ct32 s  hI fr_rf ))
          · skip
            have i16 := z_ge 0 2147483647 c16 (i_rng x2) rfl
            refine g_iload_n 20 (gd rfl) rfl rfl ?_
            refine g_iconst 1 21 (gd rfl) rfl rfl ?_
            refine g_cmp_gt 24 32 (gd rfl) rfl rfl (fun c21 => ?_) (fun c21 => ?_)
            · skip
              have i21 := r_lt2 2 2147483647 c21 (in_c 1 rfl) i16 rfl
              exact gg_w (by first | exact Nat.le_of_ble_eq_true rfl | omega) (gg_f (gf_cons rfl (gf_cons rfl (gf_cons rfl (gf_cons rfl gf_nil)))) (ct32 s  hI fr_rf ))
            · skip
              have i21 := r_le1 0 1 c21 i16 (in_c 1 rfl) rfl
              refine g_iload_n 25 (gd rfl) rfl rfl ?_
              refine g_if_lt 28 32 (gd rfl) rfl rfl (fun c25 => ?_) (fun c25 => ?_)
              · skip
                have i25 := z_lt (-2147483648) (-1) c25 (i_rng x3) rfl
                exact gg_w (by first | exact Nat.le_of_ble_eq_true rfl | omega) (gg_f (gf_cons rfl (gf_cons rfl (gf_cons rfl (gf_cons rfl gf_nil)))) (ct32 s  hI fr_rf ))
              · skip
                have i25 := z_ge 0 2147483647 c25 (i_rng x3) rfl
                refine g_iconst 1 29 (gd rfl) rfl rfl ?_
                refine g_goto 33 (gd rfl) rfl ?_
                refine g_thr (E := am_IA) (y := yX11_allow) 36 (gd rfl) rfl rfl (Or.inl ⟨rfl, rfl, rfl⟩) (by first | exact dq1 hd rfl | exact dq0 hd rfl | exact dq2 hd rfl | exact dq3 hd rfl | omega) (Nat.le_of_ble_eq_true rfl) (Nat.le_of_ble_eq_true rfl) (Nat.le_of_ble_eq_true rfl) (fun c33 => ?_) (fun c33 => ?_)
                · skip
                  refine g_aload 38 (gd rfl) rfl rfl ?_
                  refine g_callv (X := _) (As := []) (r := []) (b := A 2) (q := 2) 41 (gd rfl) rfl rfl rfl rfl rfl (ww_o rfl) (Nat.le_of_ble_eq_true rfl) (Nat.zero_le _) (Nat.zero_le _) (k_106_2 (by first | exact dq1 hd rfl | exact dq0 hd rfl | exact dq2 hd rfl | exact dq3 hd rfl | omega) hI ) (fun e u h => h) (fun v u h => ?_)
                  obtain ⟨s38, hI38, hF38, n38, rfl, rfl⟩ := h
                  obtain ⟨z38a, e38⟩ : ∃ w, w = s38.2.2.1 2 4 := ⟨_, rfl⟩
                  have i38a := inv_F hI38 (-1) 4000 rfl e38
                  obtain ⟨z38b, e38a⟩ : ∃ w, w = s38.2.2.1 2 0 := ⟨_, rfl⟩
                  have i38b := inv_F hI38 0 4000 rfl e38a
                  rw [← (show z38a = s38.2.2.1 2 4 from e38)] at n38
                  rw [← (show z38b = s38.2.2.1 2 0 from e38a)] at n38
                  show GG _ _ _ _ _ _ _ _ [] _ _ _
                  refine g_iload_n 42 (gd rfl) rfl rfl ?_
                  refine g_if_ne 45 75 (gd rfl) rfl rfl (fun c42 => ?_) (fun c42 => ?_)
                  · skip
                    have i42 := z_ne 1 1 c42 i21 rfl
                    refine g_iload_n 76 (gd rfl) rfl rfl ?_
                    refine g_aload 78 (gd rfl) rfl rfl ?_
                    refine g_iload_n 79 (gd rfl) rfl rfl ?_
                    refine g_callv (X := _) (As := [.int x1]) (r := [.int x3]) (b := A 2) (q := 2) 82 (gd rfl) rfl rfl rfl rfl rfl (ww_o rfl) (Nat.le_of_ble_eq_true rfl) (mc := 0) (ms := 0) (Nat.zero_le _) (Nat.zero_le _) (P := fun v u => _) ?_ (fun e u h => h) (fun v u h => h)
                    intro po79 xx79 hp79 hx79
                    refine g_enter2 (k := 104) (N := 300) (by first | exact dq1 hd rfl | exact dq0 hd rfl | exact dq2 hd rfl | exact dq3 hd rfl | omega) rfl (Nat.le_of_ble_eq_true rfl) ?_
                    refine g_aload_n 1 (gd rfl) rfl rfl ?_
                    refine g_getA (q2 := 14) 4 (gd rfl) rfl rfl rfl rfl ?_
                    refine g_iload_n 5 (gd rfl) rfl rfl ?_
                    refine g_iconst 1 6 (gd rfl) rfl rfl ?_
                    refine g_iadd 7 (gd rfl) rfl (fun z79x6 e79x6 => ?_)
                    have i79x6 := in_add 1 32 e79x6 i9x9 (in_c 1 rfl) rfl rfl
                    refine g_iaload 8 (gd rfl) rfl (n := 33) rfl (in_ix i79x6 rfl) (fun z79x7 e79x7 => ?_)
                    have i79x7 := inv_I hI38 (n := 33) (t := 0) 0 160 rfl (in_ix i79x6 rfl) rfl e79x7
                    refine g_aload_n 9 (gd rfl) rfl rfl ?_
                    refine g_getA (q2 := 14) 12 (gd rfl) rfl rfl rfl rfl ?_
                    refine g_iload_n 13 (gd rfl) rfl rfl ?_
                    refine g_iaload 14 (gd rfl) rfl (n := 33) rfl (in_ix i9x9 rfl) (fun z79x13 e79x13 => ?_)
                    have i79x13 := inv_I hI38 (n := 33) (t := 0) 0 160 rfl (in_ix i9x9 rfl) rfl e79x13
                    refine g_isub 15 (gd rfl) rfl (fun z79x14 e79x14 => ?_)
                    have i79x14 := in_sub (-160) 160 e79x14 i79x7 i79x13 rfl rfl
                    refine g_ireturn (gd rfl) rfl rfl (hp79 _ _ ?_)
                    show GG _ _ _ _ _ _ _ _ [.int z79x14, .int x3] _ _ _
                    refine g_cmp_ge 85 103 (gd rfl) rfl rfl (fun c82 => ?_) (fun c82 => ?_)
                    · skip
                      refine g_iconst (-1) 104 (gd rfl) rfl rfl ?_
                      exact g_ireturn (gd rfl) rfl rfl (hP _ _ ⟨s38, hI38, (fr_tr rfl fr_rf hF38), (Int32.ofInt (-1)), rfl, rfl, in_w (-1) 159 (in_c (-1) rfl) rfl⟩)
                    · skip
                      have i82 := r_lt1 0 159 c82 i25 i79x14 rfl
                      have i82a := r_lt2 1 160 c82 i25 i79x14 rfl
                      refine g_aload 87 (gd rfl) rfl rfl ?_
                      refine g_getA (q2 := 15) 90 (gd rfl) rfl rfl rfl rfl ?_
                      refine g_aload 92 (gd rfl) rfl rfl ?_
                      refine g_getA (q2 := 14) 95 (gd rfl) rfl rfl rfl rfl ?_
                      refine g_iload_n 96 (gd rfl) rfl rfl ?_
                      refine g_iaload 97 (gd rfl) rfl (n := 33) rfl (in_ix i9x9 rfl) (fun z96 e96 => ?_)
                      have q96 : z79x13 = z96 := (e79x13).trans e96.symm
                      subst q96
                      refine g_iload_n 98 (gd rfl) rfl rfl ?_
                      refine g_iadd 99 (gd rfl) rfl (fun z98 e98 => ?_)
                      have i98 := in_add 0 319 e98 i79x13 i82 rfl rfl
                      have i99 : In z98 0 159 := by (first | have a0 := oa9 i82 i42 i9x9 ro_32_1 i9x9a i1x5 i38b i38a i98 | ((first | have a0 := in_u i82 | (have a0 := i82; unfold In at a0)); (first | have a1 := in_u i42 | (have a1 := i42; unfold In at a1)); (first | have a2 := in_u i9x9 | (have a2 := i9x9; unfold In at a2)); (first | have a3 := in_u ro_32_1 | (have a3 := ro_32_1; unfold In at a3)); (first | have a4 := in_u i9x9a | (have a4 := i9x9a; unfold In at a4)); (first | have a5 := in_u i1x5 | (have a5 := i1x5; unfold In at a5)); (first | have a6 := in_u i38b | (have a6 := i38b; unfold In at a6)); (first | have a7 := in_u i38a | (have a7 := i38a; unfold In at a7)); (first | have a8 := in_u i98 | (have a8 := i98; unfold In at a8)))); have a9 := t_add e98 i79x13 i82 rfl; (first | have a10 := oa2 i79x13 i82a | ((first | have a10 := in_u i79x13 | (have a10 := i79x13; unfold In at a10)); (first | have a11 := in_u i82a | (have a11 := i82a; unfold In at a11)))); have a12 := t_sub e79x14 i79x7 i79x13 rfl; (first | have a13 := oa2 i79x7 i79x6 | ((first | have a13 := in_u i79x7 | (have a13 := i79x7; unfold In at a13)); (first | have a14 := in_u i79x6 | (have a14 := i79x6; unfold In at a14)))); have a15 := t_add e79x6 i9x9 (in_c 1 rfl) rfl; (first | have a16 := in_u ((in_c 1 rfl)) | (have a16 := (in_c 1 rfl); unfold In at a16)); exact ⟨by omega, by omega⟩
                      refine g_iaload 100 (gd rfl) rfl (n := 160) rfl (in_ix i99 rfl) (fun z99 e99 => ?_)
                      have i99a := inv_I hI38 (n := 160) (t := 0) 0 159 rfl (in_ix i99 rfl) rfl e99
                      refine g_goto 104 (gd rfl) rfl ?_
                      exact g_ireturn (gd rfl) rfl rfl (hP _ _ ⟨s38, hI38, (fr_tr rfl fr_rf hF38), z99, rfl, rfl, in_w (-1) 159 i99a rfl⟩)
                  · skip
                    have i42 := z_eq 0 0 c42 i21 rfl
                    refine g_iload_n 46 (gd rfl) rfl rfl ?_
                    refine g_aload 48 (gd rfl) rfl rfl ?_
                    refine g_iload_n 49 (gd rfl) rfl rfl ?_
                    refine g_callv (X := _) (As := [.int x1]) (r := [.int x3]) (b := A 2) (q := 2) 52 (gd rfl) rfl rfl rfl rfl rfl (ww_o rfl) (Nat.le_of_ble_eq_true rfl) (mc := 0) (ms := 0) (Nat.zero_le _) (Nat.zero_le _) (P := fun v u => _) ?_ (fun e u h => h) (fun v u h => h)
                    intro po49 xx49 hp49 hx49
                    refine g_enter2 (k := 103) (N := 300) (by first | exact dq1 hd rfl | exact dq0 hd rfl | exact dq2 hd rfl | exact dq3 hd rfl | omega) rfl (Nat.le_of_ble_eq_true rfl) ?_
                    refine g_aload_n 1 (gd rfl) rfl rfl ?_
                    refine g_getA (q2 := 12) 4 (gd rfl) rfl rfl rfl rfl ?_
                    refine g_iload_n 5 (gd rfl) rfl rfl ?_
                    refine g_iconst 1 6 (gd rfl) rfl rfl ?_
                    refine g_iadd 7 (gd rfl) rfl (fun z49x6 e49x6 => ?_)
                    have i49x6 := in_add 1 32 e49x6 i9x9 (in_c 1 rfl) rfl rfl
                    refine g_iaload 8 (gd rfl) rfl (n := 33) rfl (in_ix i49x6 rfl) (fun z49x7 e49x7 => ?_)
                    have i49x7 := inv_I hI38 (n := 33) (t := 0) 0 160 rfl (in_ix i49x6 rfl) rfl e49x7
                    refine g_aload_n 9 (gd rfl) rfl rfl ?_
                    refine g_getA (q2 := 12) 12 (gd rfl) rfl rfl rfl rfl ?_
                    refine g_iload_n 13 (gd rfl) rfl rfl ?_
                    refine g_iaload 14 (gd rfl) rfl (n := 33) rfl (in_ix i9x9 rfl) (fun z49x13 e49x13 => ?_)
                    have i49x13 := inv_I hI38 (n := 33) (t := 0) 0 160 rfl (in_ix i9x9 rfl) rfl e49x13
                    refine g_isub 15 (gd rfl) rfl (fun z49x14 e49x14 => ?_)
                    have i49x14 := in_sub (-160) 160 e49x14 i49x7 i49x13 rfl rfl
                    refine g_ireturn (gd rfl) rfl rfl (hp49 _ _ ?_)
                    show GG _ _ _ _ _ _ _ _ [.int z49x14, .int x3] _ _ _
                    refine g_cmp_ge 55 73 (gd rfl) rfl rfl (fun c52 => ?_) (fun c52 => ?_)
                    · skip
                      refine g_iconst (-1) 74 (gd rfl) rfl rfl ?_
                      exact g_ireturn (gd rfl) rfl rfl (hP _ _ ⟨s38, hI38, (fr_tr rfl fr_rf hF38), (Int32.ofInt (-1)), rfl, rfl, in_w (-1) 159 (in_c (-1) rfl) rfl⟩)
                    · skip
                      have i52 := r_lt1 0 159 c52 i25 i49x14 rfl
                      have i52a := r_lt2 1 160 c52 i25 i49x14 rfl
                      refine g_aload 57 (gd rfl) rfl rfl ?_
                      refine g_getA (q2 := 13) 60 (gd rfl) rfl rfl rfl rfl ?_
                      refine g_aload 62 (gd rfl) rfl rfl ?_
                      refine g_getA (q2 := 12) 65 (gd rfl) rfl rfl rfl rfl ?_
                      refine g_iload_n 66 (gd rfl) rfl rfl ?_
                      refine g_iaload 67 (gd rfl) rfl (n := 33) rfl (in_ix i9x9 rfl) (fun z66 e66 => ?_)
                      have q66 : z49x13 = z66 := (e49x13).trans e66.symm
                      subst q66
                      refine g_iload_n 68 (gd rfl) rfl rfl ?_
                      refine g_iadd 69 (gd rfl) rfl (fun z68 e68 => ?_)
                      have i68 := in_add 0 319 e68 i49x13 i52 rfl rfl
                      have i69 : In z68 0 159 := by (first | have a0 := oa9 i52 i42 i9x9 ro_32_1 i9x9a i1x5 i38b i38a i68 | ((first | have a0 := in_u i52 | (have a0 := i52; unfold In at a0)); (first | have a1 := in_u i42 | (have a1 := i42; unfold In at a1)); (first | have a2 := in_u i9x9 | (have a2 := i9x9; unfold In at a2)); (first | have a3 := in_u ro_32_1 | (have a3 := ro_32_1; unfold In at a3)); (first | have a4 := in_u i9x9a | (have a4 := i9x9a; unfold In at a4)); (first | have a5 := in_u i1x5 | (have a5 := i1x5; unfold In at a5)); (first | have a6 := in_u i38b | (have a6 := i38b; unfold In at a6)); (first | have a7 := in_u i38a | (have a7 := i38a; unfold In at a7)); (first | have a8 := in_u i68 | (have a8 := i68; unfold In at a8)))); have a9 := t_add e68 i49x13 i52 rfl; (first | have a10 := oa2 i49x13 i52a | ((first | have a10 := in_u i49x13 | (have a10 := i49x13; unfold In at a10)); (first | have a11 := in_u i52a | (have a11 := i52a; unfold In at a11)))); have a12 := t_sub e49x14 i49x7 i49x13 rfl; (first | have a13 := oa2 i49x7 i49x6 | ((first | have a13 := in_u i49x7 | (have a13 := i49x7; unfold In at a13)); (first | have a14 := in_u i49x6 | (have a14 := i49x6; unfold In at a14)))); have a15 := t_add e49x6 i9x9 (in_c 1 rfl) rfl; (first | have a16 := in_u ((in_c 1 rfl)) | (have a16 := (in_c 1 rfl); unfold In at a16)); exact ⟨by omega, by omega⟩
                      refine g_iaload 70 (gd rfl) rfl (n := 160) rfl (in_ix i69 rfl) (fun z69 e69 => ?_)
                      have i69a := inv_I hI38 (n := 160) (t := 0) 0 159 rfl (in_ix i69 rfl) rfl e69
                      refine g_goto 74 (gd rfl) rfl ?_
                      exact g_ireturn (gd rfl) rfl rfl (hP _ _ ⟨s38, hI38, (fr_tr rfl fr_rf hF38), z69, rfl, rfl, in_w (-1) 159 i69a rfl⟩)
                · skip
                  exact zn_eq c33 (in_c 1 rfl) rfl

def fm_223_0 : FM := ([47], [], [(46, 1)], [])
def fm_224_0 : FM := ([], [], [(46, 1)], [])
def fm_226_0 : FM := ([], [], [], [])
/-- GraphHouse.fault -/
theorem k_226_0 {Z : AmZ} {A : Nat → Nat} {s : GS} {ex : va_W} {d : Nat} {x1 : Int32} (hd : 7 ≤ d) (hI : Inv s)  : GC Z d 226 [.ref (A 0), .int x1] (WW Z A s ++ ex) 3 18 (fun v u => ∃ t : GS, Inv t ∧ Fr fm_226_0 s t ∧ ∃ z : Int32, v = some (.int z) ∧ u = WW Z A t ++ ex ∧ In z (-1) 1000) (gE1 Z A ex fm_226_0 s) := by
  intro post xp hP hX
  obtain ⟨u_46_6, e_46_6⟩ : ∃ w, w = s.2.2.1 46 6 := ⟨_, rfl⟩
  have ro_46_6 := inv_F hI (-1) 5 rfl e_46_6
  obtain ⟨u_46_7, e_46_7⟩ : ∃ w, w = s.2.2.1 46 7 := ⟨_, rfl⟩
  have ro_46_7 := inv_F hI (-1) 1000 rfl e_46_7
  refine g_enter2 (k := 226) (N := 900) (by first | exact dq1 hd rfl | exact dq0 hd rfl | exact dq2 hd rfl | exact dq3 hd rfl | omega) rfl (Nat.le_of_ble_eq_true rfl) ?_
  refine g_iload_n 1 (gd rfl) rfl rfl ?_
  refine g_if_lt 4 13 (gd rfl) rfl rfl (fun c1 => ?_) (fun c1 => ?_)
  · skip
    have i1 := z_lt (-2147483648) (-1) c1 (i_rng x1) rfl
    refine g_iconst 0 14 (gd rfl) rfl rfl ?_
    refine g_thr (E := am_IA) (y := yX11_allow) 17 (gd rfl) rfl rfl (Or.inl ⟨rfl, rfl, rfl⟩) (by first | exact dq1 hd rfl | exact dq0 hd rfl | exact dq2 hd rfl | exact dq3 hd rfl | omega) (Nat.le_of_ble_eq_true rfl) (Nat.le_of_ble_eq_true rfl) (Nat.le_of_ble_eq_true rfl) (fun c14 => ?_) (fun c14 => ?_)
    · skip
      exact zn_ne c14 (in_c 0 rfl) rfl
    · skip
      exact (hX _ _ ⟨rfl, s, hI, fr_rf, rfl⟩)
  · skip
    have i1 := z_ge 0 2147483647 c1 (i_rng x1) rfl
    refine g_iload_n 5 (gd rfl) rfl rfl ?_
    refine g_iconst 1 6 (gd rfl) rfl rfl ?_
    refine g_cmp_gt 9 13 (gd rfl) rfl rfl (fun c6 => ?_) (fun c6 => ?_)
    · skip
      have i6 := r_lt2 2 2147483647 c6 (in_c 1 rfl) i1 rfl
      refine g_iconst 0 14 (gd rfl) rfl rfl ?_
      refine g_thr (E := am_IA) (y := yX11_allow) 17 (gd rfl) rfl rfl (Or.inl ⟨rfl, rfl, rfl⟩) (by first | exact dq1 hd rfl | exact dq0 hd rfl | exact dq2 hd rfl | exact dq3 hd rfl | omega) (Nat.le_of_ble_eq_true rfl) (Nat.le_of_ble_eq_true rfl) (Nat.le_of_ble_eq_true rfl) (fun c14 => ?_) (fun c14 => ?_)
      · skip
        exact zn_ne c14 (in_c 0 rfl) rfl
      · skip
        exact (hX _ _ ⟨rfl, s, hI, fr_rf, rfl⟩)
    · skip
      have i6 := r_le1 0 1 c6 i1 (in_c 1 rfl) rfl
      refine g_iconst 1 10 (gd rfl) rfl rfl ?_
      refine g_goto 14 (gd rfl) rfl ?_
      refine g_thr (E := am_IA) (y := yX11_allow) 17 (gd rfl) rfl rfl (Or.inl ⟨rfl, rfl, rfl⟩) (by first | exact dq1 hd rfl | exact dq0 hd rfl | exact dq2 hd rfl | exact dq3 hd rfl | omega) (Nat.le_of_ble_eq_true rfl) (Nat.le_of_ble_eq_true rfl) (Nat.le_of_ble_eq_true rfl) (fun c14 => ?_) (fun c14 => ?_)
      · skip
        refine g_iload_n 18 (gd rfl) rfl rfl ?_
        refine g_if_ne 21 31 (gd rfl) rfl rfl (fun c18 => ?_) (fun c18 => ?_)
        · skip
          have i18 := z_ne 1 1 c18 i6 rfl
          refine g_aload_n 32 (gd rfl) rfl rfl ?_
          refine g_getA (q2 := 46) 35 (gd rfl) rfl rfl rfl rfl ?_
          refine g_getI 38 (gd rfl) rfl rfl rfl (fun z35 e35 => ?_)
          have q35 : u_46_7 = z35 := (e_46_7).trans e35.symm
          subst q35
          exact g_ireturn (gd rfl) rfl rfl (hP _ _ ⟨s, hI, fr_rf, u_46_7, rfl, rfl, in_w (-1) 1000 ro_46_7 rfl⟩)
        · skip
          have i18 := z_eq 0 0 c18 i6 rfl
          refine g_aload_n 22 (gd rfl) rfl rfl ?_
          refine g_getA (q2 := 46) 25 (gd rfl) rfl rfl rfl rfl ?_
          refine g_getI 28 (gd rfl) rfl rfl rfl (fun z25 e25 => ?_)
          have q25 : u_46_6 = z25 := (e_46_6).trans e25.symm
          subst q25
          refine g_goto 38 (gd rfl) rfl ?_
          exact g_ireturn (gd rfl) rfl rfl (hP _ _ ⟨s, hI, fr_rf, u_46_6, rfl, rfl, in_w (-1) 1000 ro_46_6 rfl⟩)
      · skip
        exact zn_eq c14 (in_c 1 rfl) rfl

def fm_228_0 : FM := ([], [], [], [])
/-- GraphHouse.printed -/
theorem k_228_0 {Z : AmZ} {A : Nat → Nat} {s : GS} {ex : va_W} {d : Nat} {x1 : Int32} (hd : 7 ≤ d) (hI : Inv s)  : GC Z d 228 [.ref (A 0), .int x1] (WW Z A s ++ ex) 3 18 (fun v u => ∃ t : GS, Inv t ∧ Fr fm_228_0 s t ∧ ∃ z : Int32, v = some (.int z) ∧ u = WW Z A t ++ ex ∧ In z 0 65535) (gE1 Z A ex fm_228_0 s) := by
  intro post xp hP hX
  obtain ⟨u_46_9, e_46_9⟩ : ∃ w, w = s.2.2.1 46 9 := ⟨_, rfl⟩
  have ro_46_9 := inv_F hI 0 4608 rfl e_46_9
  refine g_enter2 (k := 228) (N := 900) (by first | exact dq1 hd rfl | exact dq0 hd rfl | exact dq2 hd rfl | exact dq3 hd rfl | omega) rfl (Nat.le_of_ble_eq_true rfl) ?_
  refine g_iload_n 1 (gd rfl) rfl rfl ?_
  refine g_if_lt 4 19 (gd rfl) rfl rfl (fun c1 => ?_) (fun c1 => ?_)
  · skip
    have i1 := z_lt (-2147483648) (-1) c1 (i_rng x1) rfl
    refine g_iconst 0 20 (gd rfl) rfl rfl ?_
    refine g_thr (E := am_IA) (y := yX11_allow) 23 (gd rfl) rfl rfl (Or.inl ⟨rfl, rfl, rfl⟩) (by first | exact dq1 hd rfl | exact dq0 hd rfl | exact dq2 hd rfl | exact dq3 hd rfl | omega) (Nat.le_of_ble_eq_true rfl) (Nat.le_of_ble_eq_true rfl) (Nat.le_of_ble_eq_true rfl) (fun c20 => ?_) (fun c20 => ?_)
    · skip
      exact zn_ne c20 (in_c 0 rfl) rfl
    · skip
      exact (hX _ _ ⟨rfl, s, hI, fr_rf, rfl⟩)
  · skip
    have i1 := z_ge 0 2147483647 c1 (i_rng x1) rfl
    refine g_iload_n 5 (gd rfl) rfl rfl ?_
    refine g_aload_n 6 (gd rfl) rfl rfl ?_
    refine g_getA (q2 := 46) 9 (gd rfl) rfl rfl rfl rfl ?_
    refine g_getI 12 (gd rfl) rfl rfl rfl (fun z9 e9 => ?_)
    have q9 : u_46_9 = z9 := (e_46_9).trans e9.symm
    subst q9
    refine g_cmp_ge 15 19 (gd rfl) rfl rfl (fun c12 => ?_) (fun c12 => ?_)
    · skip
      refine g_iconst 0 20 (gd rfl) rfl rfl ?_
      refine g_thr (E := am_IA) (y := yX11_allow) 23 (gd rfl) rfl rfl (Or.inl ⟨rfl, rfl, rfl⟩) (by first | exact dq1 hd rfl | exact dq0 hd rfl | exact dq2 hd rfl | exact dq3 hd rfl | omega) (Nat.le_of_ble_eq_true rfl) (Nat.le_of_ble_eq_true rfl) (Nat.le_of_ble_eq_true rfl) (fun c20 => ?_) (fun c20 => ?_)
      · skip
        exact zn_ne c20 (in_c 0 rfl) rfl
      · skip
        exact (hX _ _ ⟨rfl, s, hI, fr_rf, rfl⟩)
    · skip
      have i12 := r_lt1 0 4607 c12 i1 ro_46_9 rfl
      have i12a := r_lt2 1 4608 c12 i1 ro_46_9 rfl
      refine g_iconst 1 16 (gd rfl) rfl rfl ?_
      refine g_goto 20 (gd rfl) rfl ?_
      refine g_thr (E := am_IA) (y := yX11_allow) 23 (gd rfl) rfl rfl (Or.inl ⟨rfl, rfl, rfl⟩) (by first | exact dq1 hd rfl | exact dq0 hd rfl | exact dq2 hd rfl | exact dq3 hd rfl | omega) (Nat.le_of_ble_eq_true rfl) (Nat.le_of_ble_eq_true rfl) (Nat.le_of_ble_eq_true rfl) (fun c20 => ?_) (fun c20 => ?_)
      · skip
        refine g_aload_n 24 (gd rfl) rfl rfl ?_
        refine g_getA (q2 := 46) 27 (gd rfl) rfl rfl rfl rfl ?_
        refine g_getA (q2 := 48) 30 (gd rfl) rfl rfl rfl rfl ?_
        refine g_iload_n 31 (gd rfl) rfl rfl ?_
        refine g_caload 32 (gd rfl) rfl (n := 4608) rfl (in_ix i12 rfl) (fun z31 e31 => ?_)
        have i31 := inv_I hI (n := 4608) (t := 2) 0 65535 rfl (in_ix i12 rfl) rfl e31
        exact g_ireturn (gd rfl) rfl rfl (hP _ _ ⟨s, hI, fr_rf, z31, rfl, rfl, in_w 0 65535 i31 rfl⟩)
      · skip
        exact zn_eq c20 (in_c 1 rfl) rfl

def fm_239_0 : FM := ([9, 10, 11, 12, 13, 14, 15, 39, 40, 41, 42, 43, 44, 45], [], [(2, 4), (32, 4), (60, 0), (60, 1)], [])
/-- GraphHouse.clique -/
theorem k_239_0 {Z : AmZ} {A : Nat → Nat} {s : GS} {ex : va_W} {d : Nat} {x1 : Int32} (hd : 106 ≤ d) (hI : Inv s)  : GC Z d 239 [.ref (A 0), .int x1] (WW Z A s ++ ex) 3 18 (fun v u => ∃ t : GS, Inv t ∧ Fr fm_239_0 s t ∧ ∃ z : Int32, v = some (.int z) ∧ u = WW Z A t ++ ex ∧ In z (-1) 32) (gE1 Z A ex fm_239_0 s) := by
  intro post xp hP hX
  obtain ⟨u_0_2, e_0_2⟩ : ∃ w, w = s.2.2.1 0 2 := ⟨_, rfl⟩
  have ro_0_2 := inv_F hI (-1) 4000 rfl e_0_2
  obtain ⟨u_2_0, e_2_0⟩ : ∃ w, w = s.2.2.1 2 0 := ⟨_, rfl⟩
  have ro_2_0 := inv_F hI 0 4000 rfl e_2_0
  obtain ⟨u_2_1, e_2_1⟩ : ∃ w, w = s.2.2.1 2 1 := ⟨_, rfl⟩
  have ro_2_1 := inv_F hI 0 32 rfl e_2_1
  obtain ⟨u_32_0, e_32_0⟩ : ∃ w, w = s.2.2.1 32 0 := ⟨_, rfl⟩
  have ro_32_0 := inv_F hI 0 4000 rfl e_32_0
  obtain ⟨u_32_1, e_32_1⟩ : ∃ w, w = s.2.2.1 32 1 := ⟨_, rfl⟩
  have ro_32_1 := inv_F hI 0 32 rfl e_32_1
  have ct36 : ∀ (k36 : Nat) (sc36 : GS) (y36_2 : Int32) (y36_3 : Int32), Inv sc36 → Fr fm_239_0 s sc36 → (In x1 0 31) → (In y36_3 0 31) → 31 - (y36_3).toInt < (k36 : Int) → GG Z (d - 1) 239 post (gx xp) (1 + k36 * 900) 36 (fun j => xlook j [(0, .ref (A 0)), (1, .int x1), (2, .int y36_2), (3, .int y36_3)]) [] (WW Z A sc36 ++ ex) 2 12 := by
    intro k36
    induction k36 with
    | zero => intro sc36 y36_2 y36_3 hIc36 hFc36 j36_1 j36_3 mm36; exact m_no mm36 j36_3 rfl
    | succ k36 ih36 =>
      intro sc36 y36_2 y36_3 hIc36 hFc36 j36_1 j36_3 mm36
      refine gg_w (M := 1 + k36 * 900 + 900) gws ?_
      refine g_iload_n 37 (gd rfl) rfl rfl ?_
      refine g_iload_n 38 (gd rfl) rfl rfl ?_
      refine g_cmp_ge 41 53 (gd rfl) rfl rfl (fun c38 => ?_) (fun c38 => ?_)
      · skip
        refine g_iload_n 54 (gd rfl) rfl rfl ?_
        refine g_calls (As := [.int y36_2]) (r := []) 57 (gd rfl) rfl rfl rfl rfl rfl (Nat.le_of_ble_eq_true rfl) (Nat.zero_le _) (Nat.zero_le _) (k_264 (by first | exact dq1 hd rfl | exact dq0 hd rfl | exact dq2 hd rfl | exact dq3 hd rfl | omega)) (fun v u h => ?_)
        obtain ⟨z54, rfl, rfl, i54, hb54⟩ := h
        show GG _ _ _ _ _ _ _ _ [.int z54] _ _ _
        exact g_ireturn (gd rfl) rfl rfl (hP _ _ ⟨sc36, hIc36, hFc36, z54, rfl, rfl, in_w (-1) 32 i54 rfl⟩)
      · skip
        have i38 := r_lt1 0 30 c38 j36_3 j36_1 rfl
        have i38a := r_lt2 1 31 c38 j36_3 j36_1 rfl
        refine g_iload_n 42 (gd rfl) rfl rfl ?_
        refine g_iload_n 43 (gd rfl) rfl rfl ?_
        refine g_iconst 1 44 (gd rfl) rfl rfl ?_
        refine g_isub 45 (gd rfl) rfl (fun z44 e44 => ?_)
        refine g_iand 46 (gd rfl) rfl (fun z45 e45 => ?_)
        refine g_istore_n 47 (gd rfl) rfl (Nat.le_of_ble_eq_true rfl) ?_
        refine g_iinc 50 (gd rfl) rfl rfl (Nat.le_of_ble_eq_true rfl) (fun z47 e47 => ?_)
        have i47 := in_add 1 31 e47 i38 (in_c 1 rfl) rfl rfl
        refine g_goto 36 (gd rfl) rfl ?_
        exact gg_w (by first | exact Nat.le_add_right _ _ | exact gw2 | exact gw3 | exact gwe rfl | exact gwf rfl | exact gwg rfl | exact gwh rfl | omega) (gg_f (gf_cons rfl (gf_cons rfl (gf_cons rfl (gf_cons rfl gf_nil)))) (ih36 sc36 z45 z47 hIc36 hFc36 (in_w 0 31 i38a rfl) (in_w 0 31 i47 rfl) (m_up mm36 (t_add e47 i38 (in_c 1 rfl) rfl) (in_w 1 1 (in_c 1 rfl) rfl))))
  refine g_enter2 (k := 239) (N := 29701) (by first | exact dq1 hd rfl | exact dq0 hd rfl | exact dq2 hd rfl | exact dq3 hd rfl | omega) rfl (Nat.le_of_ble_eq_true rfl) ?_
  refine g_iload_n 1 (gd rfl) rfl rfl ?_
  refine g_if_lt 4 8 (gd rfl) rfl rfl (fun c1 => ?_) (fun c1 => ?_)
  · skip
    have i1 := z_lt (-2147483648) (-1) c1 (i_rng x1) rfl
    refine g_iconst 0 9 (gd rfl) rfl rfl ?_
    refine g_thr (E := am_IA) (y := yX11_allow) 12 (gd rfl) rfl rfl (Or.inl ⟨rfl, rfl, rfl⟩) (by first | exact dq1 hd rfl | exact dq0 hd rfl | exact dq2 hd rfl | exact dq3 hd rfl | omega) (Nat.le_of_ble_eq_true rfl) (Nat.le_of_ble_eq_true rfl) (Nat.le_of_ble_eq_true rfl) (fun c9 => ?_) (fun c9 => ?_)
    · skip
      exact zn_ne c9 (in_c 0 rfl) rfl
    · skip
      exact (hX _ _ ⟨rfl, s, hI, fr_rf, rfl⟩)
  · skip
    have i1 := z_ge 0 2147483647 c1 (i_rng x1) rfl
    refine g_iconst 1 5 (gd rfl) rfl rfl ?_
    refine g_goto 9 (gd rfl) rfl ?_
    refine g_thr (E := am_IA) (y := yX11_allow) 12 (gd rfl) rfl rfl (Or.inl ⟨rfl, rfl, rfl⟩) (by first | exact dq1 hd rfl | exact dq0 hd rfl | exact dq2 hd rfl | exact dq3 hd rfl | omega) (Nat.le_of_ble_eq_true rfl) (Nat.le_of_ble_eq_true rfl) (Nat.le_of_ble_eq_true rfl) (fun c9 => ?_) (fun c9 => ?_)
    · skip
      refine g_aload_n 13 (gd rfl) rfl rfl ?_
      refine g_getA (q2 := 60) 16 (gd rfl) rfl rfl rfl rfl ?_
      refine g_aload_n 17 (gd rfl) rfl rfl ?_
      refine g_callv (X := _) (As := []) (r := [.ref (A 60)]) (b := A 0) (q := 0) 20 (gd rfl) rfl rfl rfl rfl rfl (ww_o rfl) (Nat.le_of_ble_eq_true rfl) (mc := 0) (ms := 0) (Nat.zero_le _) (Nat.zero_le _) (P := fun v u => _) ?_ (fun e u h => h) (fun v u h => h)
      intro po17 xx17 hp17 hx17
      refine g_enter2 (k := 259) (N := 300) (by first | exact dq1 hd rfl | exact dq0 hd rfl | exact dq2 hd rfl | exact dq3 hd rfl | omega) rfl (Nat.le_of_ble_eq_true rfl) ?_
      refine g_aload_n 1 (gd rfl) rfl rfl ?_
      refine g_getI 4 (gd rfl) rfl rfl rfl (fun z17x1 e17x1 => ?_)
      have q17x1 : u_0_2 = z17x1 := (e_0_2).trans e17x1.symm
      subst q17x1
      refine g_iconst (-1) 5 (gd rfl) rfl rfl ?_
      refine g_cmp_ne 8 18 (gd rfl) rfl rfl (fun c17x5 => ?_) (fun c17x5 => ?_)
      · skip
        have i17x5 := r_ne1 0 4000 c17x5 ro_0_2 (in_c (-1) rfl) rfl
        refine g_aload_n 19 (gd rfl) rfl rfl ?_
        refine g_getA (q2 := 32) 22 (gd rfl) rfl rfl rfl rfl ?_
        refine g_areturn (gd rfl) rfl (hp17 _ _ ?_)
        show GG _ _ _ _ _ _ _ _ [.ref (A 32), .ref (A 60)] _ _ _
        refine g_callv (X := _) (As := [.ref (A 32)]) (r := []) (b := A 60) (q := 60) 23 (gd rfl) rfl rfl rfl rfl rfl (ww_o rfl) (Nat.le_of_ble_eq_true rfl) (mc := 0) (ms := 0) (Nat.zero_le _) (Nat.zero_le _) (P := fun v u => _) ?_ (fun e u h => h) (fun v u h => h)
        intro po20 xx20 hp20 hx20
        refine g_enter2 (k := 41) (N := 300) (by first | exact dq1 hd rfl | exact dq0 hd rfl | exact dq2 hd rfl | exact dq3 hd rfl | omega) rfl (Nat.le_of_ble_eq_true rfl) ?_
        refine g_aload_n 1 (gd rfl) rfl rfl ?_
        refine g_getI 4 (gd rfl) rfl rfl rfl (fun z20x1 e20x1 => ?_)
        have i20x1 := inv_F hI (-1) 4000 rfl e20x1
        refine g_aload_n 5 (gd rfl) rfl rfl ?_
        refine g_getI 8 (gd rfl) rfl rfl rfl (fun z20x5 e20x5 => ?_)
        have q20x5 : u_32_0 = z20x5 := (e_32_0).trans e20x5.symm
        subst q20x5
        refine g_cmp_eq 11 42 (gd rfl) rfl rfl (fun c20x8 => ?_) (fun c20x8 => ?_)
        · skip
          have i20x8 := r_eq1 0 4000 c20x8 i20x1 ro_32_0 rfl
          refine g_aload_n 43 (gd rfl) rfl rfl ?_
          refine g_getI 46 (gd rfl) rfl rfl rfl (fun z20x43 e20x43 => ?_)
          refine g_ireturn (gd rfl) rfl rfl (hp20 _ _ ?_)
          show GG _ _ _ _ _ _ _ _ [.int z20x43] _ _ _
          refine g_istore_n 24 (gd rfl) rfl (Nat.le_of_ble_eq_true rfl) ?_
          refine g_iload_n 25 (gd rfl) rfl rfl ?_
          refine g_iload_n 26 (gd rfl) rfl rfl ?_
          refine g_calls (As := [.int z20x43]) (r := [.int x1]) 29 (gd rfl) rfl rfl rfl rfl rfl (Nat.le_of_ble_eq_true rfl) (Nat.zero_le _) (Nat.zero_le _) (k_414b (by first | exact dq1 hd rfl | exact dq0 hd rfl | exact dq2 hd rfl | exact dq3 hd rfl | omega) hI ) (fun v u h => ?_)
          obtain ⟨z26, rfl, rfl, i26⟩ := h
          show GG _ _ _ _ _ _ _ _ [.int z26, .int x1] _ _ _
          refine g_cmp_lt 32 34 (gd rfl) rfl rfl (fun c29 => ?_) (fun c29 => ?_)
          · skip
            have i29 := r_lt1 0 31 c29 i1 i26 rfl
            have i29a := r_lt2 1 32 c29 i1 i26 rfl
            refine g_iconst 0 35 (gd rfl) rfl rfl ?_
            refine g_istore_n 36 (gd rfl) rfl (Nat.le_of_ble_eq_true rfl) ?_
            exact gg_w (by first | exact Nat.le_of_ble_eq_true rfl | omega) (gg_f (gf_cons rfl (gf_cons rfl (gf_cons rfl (gf_cons rfl gf_nil)))) (ct36 32 s z20x43 (Int32.ofInt 0) hI fr_rf (in_w 0 31 i29 rfl) (in_w 0 31 (in_c 0 rfl) rfl) (m_in 32 (in_w 0 31 (in_c 0 rfl) rfl) rfl)))
          · skip
            refine g_iconst (-1) 33 (gd rfl) rfl rfl ?_
            exact g_ireturn (gd rfl) rfl rfl (hP _ _ ⟨s, hI, fr_rf, (Int32.ofInt (-1)), rfl, rfl, in_w (-1) 32 (in_c (-1) rfl) rfl⟩)
        · skip
          refine g_aload_n 12 (gd rfl) rfl rfl ?_
          refine g_aload_n 13 (gd rfl) rfl rfl ?_
          refine g_getI 16 (gd rfl) rfl rfl rfl (fun z20x13 e20x13 => ?_)
          have q20x13 : u_32_0 = z20x13 := (e_32_0).trans e20x13.symm
          subst q20x13
          refine g_putI 19 (gd rfl) rfl rfl rfl rfl ?_
          have hI20x16 := inv_sF (q := 60) (j := 0) hI rfl (in_w (-1) 4000 ro_32_0 rfl)
          refine g_aload_n 20 (gd rfl) rfl rfl ?_
          refine g_callv (X := _) (As := []) (r := []) (b := A 32) (q := 32) 23 (gd rfl) rfl rfl rfl rfl rfl (ww_o rfl) (Nat.le_of_ble_eq_true rfl) (Nat.zero_le _) (Nat.zero_le _) (k_106_32 (by first | exact dq1 hd rfl | exact dq0 hd rfl | exact dq2 hd rfl | exact dq3 hd rfl | omega) hI20x16 ) (fun e u h => h) (fun v u h => ?_)
          obtain ⟨s20x20, hI20x20, hF20x20, n20x20, rfl, rfl⟩ := h
          obtain ⟨z20x20a, e20x20⟩ : ∃ w, w = s20x20.2.2.1 32 4 := ⟨_, rfl⟩
          have i20x20a := inv_F hI20x20 (-1) 4000 rfl e20x20
          rw [← (show z20x20a = s20x20.2.2.1 32 4 from e20x20)] at n20x20
          rw [← (show u_32_0 = s20x20.2.2.1 32 0 from fr_F (s := (sF s 60 0 u_32_0)) (sF_ne rfl (e_32_0)) hF20x20 rfl)] at n20x20
          show GG _ _ _ _ _ _ _ _ [] _ _ _
          refine g_aload_n 24 (gd rfl) rfl rfl ?_
          refine g_iconst 0 25 (gd rfl) rfl rfl ?_
          refine g_putI 28 (gd rfl) rfl rfl rfl rfl ?_
          have hI20x25 := inv_sF (q := 60) (j := 1) hI20x20 rfl (in_w (-2147483648) 2147483647 (in_c 0 rfl) rfl)
          refine g_aload_n 29 (gd rfl) rfl rfl ?_
          refine g_aload_n 30 (gd rfl) rfl rfl ?_
          refine g_getA (q2 := 39) 33 (gd rfl) rfl rfl rfl rfl ?_
          refine g_iconst 0 34 (gd rfl) rfl rfl ?_
          refine g_aload_n 35 (gd rfl) rfl rfl ?_
          refine g_callv (X := _) (As := []) (r := [.int (Int32.ofInt 0), .ref (A 39), .ref (A 60)]) (b := A 32) (q := 32) 38 (gd rfl) rfl rfl rfl rfl rfl (ww_o rfl) (Nat.le_of_ble_eq_true rfl) (mc := 0) (ms := 0) (Nat.zero_le _) (Nat.zero_le _) (P := fun v u => _) ?_ (fun e u h => h) (fun v u h => h)
          intro po20x35 xx20x35 hp20x35 hx20x35
          refine g_enter2 (k := 102) (N := 300) (by first | exact dq1 hd rfl | exact dq0 hd rfl | exact dq2 hd rfl | exact dq3 hd rfl | omega) rfl (Nat.le_of_ble_eq_true rfl) ?_
          refine g_aload_n 1 (gd rfl) rfl rfl ?_
          refine g_getI 4 (gd rfl) rfl rfl rfl (fun z20x35x1 e20x35x1 => ?_)
          have q20x35x1 : u_32_1 = z20x35x1 := (sF_ne rfl (fr_F (s := (sF s 60 0 u_32_0)) (sF_ne rfl (e_32_1)) hF20x20 rfl)).trans e20x35x1.symm
          subst q20x35x1
          refine g_bipush 32 6 (gd rfl) rfl rfl ?_
          refine g_cmp_lt 9 13 (gd rfl) rfl rfl (fun c20x35x6 => ?_) (fun c20x35x6 => ?_)
          · skip
            have i20x35x6 := r_lt1 0 31 c20x35x6 ro_32_1 (in_c 32 rfl) rfl
            refine g_iconst 1 14 (gd rfl) rfl rfl ?_
            refine g_aload_n 15 (gd rfl) rfl rfl ?_
            refine g_getI 18 (gd rfl) rfl rfl rfl (fun z20x35x15 e20x35x15 => ?_)
            have q20x35x15 : u_32_1 = z20x35x15 := (sF_ne rfl (fr_F (s := (sF s 60 0 u_32_0)) (sF_ne rfl (e_32_1)) hF20x20 rfl)).trans e20x35x15.symm
            subst q20x35x15
            refine g_ishl 19 (gd rfl) rfl (fun z20x35x18 e20x35x18 => ?_)
            refine g_iconst 1 20 (gd rfl) rfl rfl ?_
            refine g_isub 21 (gd rfl) rfl (fun z20x35x20 e20x35x20 => ?_)
            refine g_ireturn (gd rfl) rfl rfl (hp20x35 _ _ ?_)
            show GG _ _ _ _ _ _ _ _ [.int z20x35x20, .int (Int32.ofInt 0), .ref (A 39), .ref (A 60)] _ _ _
            refine g_iconst 0 39 (gd rfl) rfl rfl ?_
            refine g_callv (X := _) (As := [.ref (A 39), .int (Int32.ofInt 0), .int z20x35x20, .int (Int32.ofInt 0)]) (r := []) (b := A 60) (q := 60) 42 (gd rfl) rfl rfl rfl rfl rfl (ww_o rfl) (Nat.le_of_ble_eq_true rfl) (Nat.zero_le _) (Nat.zero_le _) (k_42_60_39 (by first | exact dq1 hd rfl | exact dq0 hd rfl | exact dq2 hd rfl | exact dq3 hd rfl | omega) hI20x25 (in_w 0 32 (in_c 0 rfl) rfl)) (fun e u h => h) (fun v u h => ?_)
            obtain ⟨s20x39, hI20x39, hF20x39, rfl, rfl⟩ := h
            show GG _ _ _ _ _ _ _ _ [] _ _ _
            refine g_aload_n 43 (gd rfl) rfl rfl ?_
            refine g_getI 46 (gd rfl) rfl rfl rfl (fun z20x43 e20x43 => ?_)
            refine g_ireturn (gd rfl) rfl rfl (hp20 _ _ ?_)
            show GG _ _ _ _ _ _ _ _ [.int z20x43] _ _ _
            refine g_istore_n 24 (gd rfl) rfl (Nat.le_of_ble_eq_true rfl) ?_
            refine g_iload_n 25 (gd rfl) rfl rfl ?_
            refine g_iload_n 26 (gd rfl) rfl rfl ?_
            refine g_calls (As := [.int z20x43]) (r := [.int x1]) 29 (gd rfl) rfl rfl rfl rfl rfl (Nat.le_of_ble_eq_true rfl) (Nat.zero_le _) (Nat.zero_le _) (k_414b (by first | exact dq1 hd rfl | exact dq0 hd rfl | exact dq2 hd rfl | exact dq3 hd rfl | omega) hI20x39 ) (fun v u h => ?_)
            obtain ⟨z26, rfl, rfl, i26⟩ := h
            show GG _ _ _ _ _ _ _ _ [.int z26, .int x1] _ _ _
            refine g_cmp_lt 32 34 (gd rfl) rfl rfl (fun c29 => ?_) (fun c29 => ?_)
            · skip
              have i29 := r_lt1 0 31 c29 i1 i26 rfl
              have i29a := r_lt2 1 32 c29 i1 i26 rfl
              refine g_iconst 0 35 (gd rfl) rfl rfl ?_
              refine g_istore_n 36 (gd rfl) rfl (Nat.le_of_ble_eq_true rfl) ?_
              exact gg_w (by first | exact Nat.le_of_ble_eq_true rfl | omega) (gg_f (gf_cons rfl (gf_cons rfl (gf_cons rfl (gf_cons rfl gf_nil)))) (ct36 32 s20x39 z20x43 (Int32.ofInt 0) hI20x39 (fr_tr rfl (fr_sF rfl (fr_tr rfl (fr_sF rfl fr_rf) hF20x20)) hF20x39) (in_w 0 31 i29 rfl) (in_w 0 31 (in_c 0 rfl) rfl) (m_in 32 (in_w 0 31 (in_c 0 rfl) rfl) rfl)))
            · skip
              refine g_iconst (-1) 33 (gd rfl) rfl rfl ?_
              exact g_ireturn (gd rfl) rfl rfl (hP _ _ ⟨s20x39, hI20x39, (fr_tr rfl (fr_sF rfl (fr_tr rfl (fr_sF rfl fr_rf) hF20x20)) hF20x39), (Int32.ofInt (-1)), rfl, rfl, in_w (-1) 32 (in_c (-1) rfl) rfl⟩)
          · skip
            have i20x35x6 := r_le2 32 32 c20x35x6 (in_c 32 rfl) ro_32_1 rfl
            refine g_iconst (-1) 10 (gd rfl) rfl rfl ?_
            refine g_goto 21 (gd rfl) rfl ?_
            refine g_ireturn (gd rfl) rfl rfl (hp20x35 _ _ ?_)
            show GG _ _ _ _ _ _ _ _ [.int (Int32.ofInt (-1)), .int (Int32.ofInt 0), .ref (A 39), .ref (A 60)] _ _ _
            refine g_iconst 0 39 (gd rfl) rfl rfl ?_
            refine g_callv (X := _) (As := [.ref (A 39), .int (Int32.ofInt 0), .int (Int32.ofInt (-1)), .int (Int32.ofInt 0)]) (r := []) (b := A 60) (q := 60) 42 (gd rfl) rfl rfl rfl rfl rfl (ww_o rfl) (Nat.le_of_ble_eq_true rfl) (Nat.zero_le _) (Nat.zero_le _) (k_42_60_39 (by first | exact dq1 hd rfl | exact dq0 hd rfl | exact dq2 hd rfl | exact dq3 hd rfl | omega) hI20x25 (in_w 0 32 (in_c 0 rfl) rfl)) (fun e u h => h) (fun v u h => ?_)
            obtain ⟨s20x39, hI20x39, hF20x39, rfl, rfl⟩ := h
            show GG _ _ _ _ _ _ _ _ [] _ _ _
            refine g_aload_n 43 (gd rfl) rfl rfl ?_
            refine g_getI 46 (gd rfl) rfl rfl rfl (fun z20x43 e20x43 => ?_)
            refine g_ireturn (gd rfl) rfl rfl (hp20 _ _ ?_)
            show GG _ _ _ _ _ _ _ _ [.int z20x43] _ _ _
            refine g_istore_n 24 (gd rfl) rfl (Nat.le_of_ble_eq_true rfl) ?_
            refine g_iload_n 25 (gd rfl) rfl rfl ?_
            refine g_iload_n 26 (gd rfl) rfl rfl ?_
            refine g_calls (As := [.int z20x43]) (r := [.int x1]) 29 (gd rfl) rfl rfl rfl rfl rfl (Nat.le_of_ble_eq_true rfl) (Nat.zero_le _) (Nat.zero_le _) (k_414b (by first | exact dq1 hd rfl | exact dq0 hd rfl | exact dq2 hd rfl | exact dq3 hd rfl | omega) hI20x39 ) (fun v u h => ?_)
            obtain ⟨z26, rfl, rfl, i26⟩ := h
            show GG _ _ _ _ _ _ _ _ [.int z26, .int x1] _ _ _
            refine g_cmp_lt 32 34 (gd rfl) rfl rfl (fun c29 => ?_) (fun c29 => ?_)
            · skip
              have i29 := r_lt1 0 31 c29 i1 i26 rfl
              have i29a := r_lt2 1 32 c29 i1 i26 rfl
              refine g_iconst 0 35 (gd rfl) rfl rfl ?_
              refine g_istore_n 36 (gd rfl) rfl (Nat.le_of_ble_eq_true rfl) ?_
              exact gg_w (by first | exact Nat.le_of_ble_eq_true rfl | omega) (gg_f (gf_cons rfl (gf_cons rfl (gf_cons rfl (gf_cons rfl gf_nil)))) (ct36 32 s20x39 z20x43 (Int32.ofInt 0) hI20x39 (fr_tr rfl (fr_sF rfl (fr_tr rfl (fr_sF rfl fr_rf) hF20x20)) hF20x39) (in_w 0 31 i29 rfl) (in_w 0 31 (in_c 0 rfl) rfl) (m_in 32 (in_w 0 31 (in_c 0 rfl) rfl) rfl)))
            · skip
              refine g_iconst (-1) 33 (gd rfl) rfl rfl ?_
              exact g_ireturn (gd rfl) rfl rfl (hP _ _ ⟨s20x39, hI20x39, (fr_tr rfl (fr_sF rfl (fr_tr rfl (fr_sF rfl fr_rf) hF20x20)) hF20x39), (Int32.ofInt (-1)), rfl, rfl, in_w (-1) 32 (in_c (-1) rfl) rfl⟩)
      · skip
        have i17x5 := r_eq1 (-1) (-1) c17x5 ro_0_2 (in_c (-1) rfl) rfl
        refine g_aload_n 9 (gd rfl) rfl rfl ?_
        refine g_getA (q2 := 1) 12 (gd rfl) rfl rfl rfl rfl ?_
        refine g_getA (q2 := 2) 15 (gd rfl) rfl rfl rfl rfl ?_
        refine g_goto 22 (gd rfl) rfl ?_
        refine g_areturn (gd rfl) rfl (hp17 _ _ ?_)
        show GG _ _ _ _ _ _ _ _ [.ref (A 2), .ref (A 60)] _ _ _
        refine g_callv (X := _) (As := [.ref (A 2)]) (r := []) (b := A 60) (q := 60) 23 (gd rfl) rfl rfl rfl rfl rfl (ww_o rfl) (Nat.le_of_ble_eq_true rfl) (mc := 0) (ms := 0) (Nat.zero_le _) (Nat.zero_le _) (P := fun v u => _) ?_ (fun e u h => h) (fun v u h => h)
        intro po20 xx20 hp20 hx20
        refine g_enter2 (k := 41) (N := 300) (by first | exact dq1 hd rfl | exact dq0 hd rfl | exact dq2 hd rfl | exact dq3 hd rfl | omega) rfl (Nat.le_of_ble_eq_true rfl) ?_
        refine g_aload_n 1 (gd rfl) rfl rfl ?_
        refine g_getI 4 (gd rfl) rfl rfl rfl (fun z20x1 e20x1 => ?_)
        have i20x1 := inv_F hI (-1) 4000 rfl e20x1
        refine g_aload_n 5 (gd rfl) rfl rfl ?_
        refine g_getI 8 (gd rfl) rfl rfl rfl (fun z20x5 e20x5 => ?_)
        have q20x5 : u_2_0 = z20x5 := (e_2_0).trans e20x5.symm
        subst q20x5
        refine g_cmp_eq 11 42 (gd rfl) rfl rfl (fun c20x8 => ?_) (fun c20x8 => ?_)
        · skip
          have i20x8 := r_eq1 0 4000 c20x8 i20x1 ro_2_0 rfl
          refine g_aload_n 43 (gd rfl) rfl rfl ?_
          refine g_getI 46 (gd rfl) rfl rfl rfl (fun z20x43 e20x43 => ?_)
          refine g_ireturn (gd rfl) rfl rfl (hp20 _ _ ?_)
          show GG _ _ _ _ _ _ _ _ [.int z20x43] _ _ _
          refine g_istore_n 24 (gd rfl) rfl (Nat.le_of_ble_eq_true rfl) ?_
          refine g_iload_n 25 (gd rfl) rfl rfl ?_
          refine g_iload_n 26 (gd rfl) rfl rfl ?_
          refine g_calls (As := [.int z20x43]) (r := [.int x1]) 29 (gd rfl) rfl rfl rfl rfl rfl (Nat.le_of_ble_eq_true rfl) (Nat.zero_le _) (Nat.zero_le _) (k_414b (by first | exact dq1 hd rfl | exact dq0 hd rfl | exact dq2 hd rfl | exact dq3 hd rfl | omega) hI ) (fun v u h => ?_)
          obtain ⟨z26, rfl, rfl, i26⟩ := h
          show GG _ _ _ _ _ _ _ _ [.int z26, .int x1] _ _ _
          refine g_cmp_lt 32 34 (gd rfl) rfl rfl (fun c29 => ?_) (fun c29 => ?_)
          · skip
            have i29 := r_lt1 0 31 c29 i1 i26 rfl
            have i29a := r_lt2 1 32 c29 i1 i26 rfl
            refine g_iconst 0 35 (gd rfl) rfl rfl ?_
            refine g_istore_n 36 (gd rfl) rfl (Nat.le_of_ble_eq_true rfl) ?_
            exact gg_w (by first | exact Nat.le_of_ble_eq_true rfl | omega) (gg_f (gf_cons rfl (gf_cons rfl (gf_cons rfl (gf_cons rfl gf_nil)))) (ct36 32 s z20x43 (Int32.ofInt 0) hI fr_rf (in_w 0 31 i29 rfl) (in_w 0 31 (in_c 0 rfl) rfl) (m_in 32 (in_w 0 31 (in_c 0 rfl) rfl) rfl)))
          · skip
            refine g_iconst (-1) 33 (gd rfl) rfl rfl ?_
            exact g_ireturn (gd rfl) rfl rfl (hP _ _ ⟨s, hI, fr_rf, (Int32.ofInt (-1)), rfl, rfl, in_w (-1) 32 (in_c (-1) rfl) rfl⟩)
        · skip
          refine g_aload_n 12 (gd rfl) rfl rfl ?_
          refine g_aload_n 13 (gd rfl) rfl rfl ?_
          refine g_getI 16 (gd rfl) rfl rfl rfl (fun z20x13 e20x13 => ?_)
          have q20x13 : u_2_0 = z20x13 := (e_2_0).trans e20x13.symm
          subst q20x13
          refine g_putI 19 (gd rfl) rfl rfl rfl rfl ?_
          have hI20x16 := inv_sF (q := 60) (j := 0) hI rfl (in_w (-1) 4000 ro_2_0 rfl)
          refine g_aload_n 20 (gd rfl) rfl rfl ?_
          refine g_callv (X := _) (As := []) (r := []) (b := A 2) (q := 2) 23 (gd rfl) rfl rfl rfl rfl rfl (ww_o rfl) (Nat.le_of_ble_eq_true rfl) (Nat.zero_le _) (Nat.zero_le _) (k_106_2 (by first | exact dq1 hd rfl | exact dq0 hd rfl | exact dq2 hd rfl | exact dq3 hd rfl | omega) hI20x16 ) (fun e u h => h) (fun v u h => ?_)
          obtain ⟨s20x20, hI20x20, hF20x20, n20x20, rfl, rfl⟩ := h
          obtain ⟨z20x20a, e20x20⟩ : ∃ w, w = s20x20.2.2.1 2 4 := ⟨_, rfl⟩
          have i20x20a := inv_F hI20x20 (-1) 4000 rfl e20x20
          rw [← (show z20x20a = s20x20.2.2.1 2 4 from e20x20)] at n20x20
          rw [← (show u_2_0 = s20x20.2.2.1 2 0 from fr_F (s := (sF s 60 0 u_2_0)) (sF_ne rfl (e_2_0)) hF20x20 rfl)] at n20x20
          show GG _ _ _ _ _ _ _ _ [] _ _ _
          refine g_aload_n 24 (gd rfl) rfl rfl ?_
          refine g_iconst 0 25 (gd rfl) rfl rfl ?_
          refine g_putI 28 (gd rfl) rfl rfl rfl rfl ?_
          have hI20x25 := inv_sF (q := 60) (j := 1) hI20x20 rfl (in_w (-2147483648) 2147483647 (in_c 0 rfl) rfl)
          refine g_aload_n 29 (gd rfl) rfl rfl ?_
          refine g_aload_n 30 (gd rfl) rfl rfl ?_
          refine g_getA (q2 := 9) 33 (gd rfl) rfl rfl rfl rfl ?_
          refine g_iconst 0 34 (gd rfl) rfl rfl ?_
          refine g_aload_n 35 (gd rfl) rfl rfl ?_
          refine g_callv (X := _) (As := []) (r := [.int (Int32.ofInt 0), .ref (A 9), .ref (A 60)]) (b := A 2) (q := 2) 38 (gd rfl) rfl rfl rfl rfl rfl (ww_o rfl) (Nat.le_of_ble_eq_true rfl) (mc := 0) (ms := 0) (Nat.zero_le _) (Nat.zero_le _) (P := fun v u => _) ?_ (fun e u h => h) (fun v u h => h)
          intro po20x35 xx20x35 hp20x35 hx20x35
          refine g_enter2 (k := 102) (N := 300) (by first | exact dq1 hd rfl | exact dq0 hd rfl | exact dq2 hd rfl | exact dq3 hd rfl | omega) rfl (Nat.le_of_ble_eq_true rfl) ?_
          refine g_aload_n 1 (gd rfl) rfl rfl ?_
          refine g_getI 4 (gd rfl) rfl rfl rfl (fun z20x35x1 e20x35x1 => ?_)
          have q20x35x1 : u_2_1 = z20x35x1 := (sF_ne rfl (fr_F (s := (sF s 60 0 u_2_0)) (sF_ne rfl (e_2_1)) hF20x20 rfl)).trans e20x35x1.symm
          subst q20x35x1
          refine g_bipush 32 6 (gd rfl) rfl rfl ?_
          refine g_cmp_lt 9 13 (gd rfl) rfl rfl (fun c20x35x6 => ?_) (fun c20x35x6 => ?_)
          · skip
            have i20x35x6 := r_lt1 0 31 c20x35x6 ro_2_1 (in_c 32 rfl) rfl
            refine g_iconst 1 14 (gd rfl) rfl rfl ?_
            refine g_aload_n 15 (gd rfl) rfl rfl ?_
            refine g_getI 18 (gd rfl) rfl rfl rfl (fun z20x35x15 e20x35x15 => ?_)
            have q20x35x15 : u_2_1 = z20x35x15 := (sF_ne rfl (fr_F (s := (sF s 60 0 u_2_0)) (sF_ne rfl (e_2_1)) hF20x20 rfl)).trans e20x35x15.symm
            subst q20x35x15
            refine g_ishl 19 (gd rfl) rfl (fun z20x35x18 e20x35x18 => ?_)
            refine g_iconst 1 20 (gd rfl) rfl rfl ?_
            refine g_isub 21 (gd rfl) rfl (fun z20x35x20 e20x35x20 => ?_)
            refine g_ireturn (gd rfl) rfl rfl (hp20x35 _ _ ?_)
            show GG _ _ _ _ _ _ _ _ [.int z20x35x20, .int (Int32.ofInt 0), .ref (A 9), .ref (A 60)] _ _ _
            refine g_iconst 0 39 (gd rfl) rfl rfl ?_
            refine g_callv (X := _) (As := [.ref (A 9), .int (Int32.ofInt 0), .int z20x35x20, .int (Int32.ofInt 0)]) (r := []) (b := A 60) (q := 60) 42 (gd rfl) rfl rfl rfl rfl rfl (ww_o rfl) (Nat.le_of_ble_eq_true rfl) (Nat.zero_le _) (Nat.zero_le _) (k_42_60_9 (by first | exact dq1 hd rfl | exact dq0 hd rfl | exact dq2 hd rfl | exact dq3 hd rfl | omega) hI20x25 (in_w 0 32 (in_c 0 rfl) rfl)) (fun e u h => h) (fun v u h => ?_)
            obtain ⟨s20x39, hI20x39, hF20x39, rfl, rfl⟩ := h
            show GG _ _ _ _ _ _ _ _ [] _ _ _
            refine g_aload_n 43 (gd rfl) rfl rfl ?_
            refine g_getI 46 (gd rfl) rfl rfl rfl (fun z20x43 e20x43 => ?_)
            refine g_ireturn (gd rfl) rfl rfl (hp20 _ _ ?_)
            show GG _ _ _ _ _ _ _ _ [.int z20x43] _ _ _
            refine g_istore_n 24 (gd rfl) rfl (Nat.le_of_ble_eq_true rfl) ?_
            refine g_iload_n 25 (gd rfl) rfl rfl ?_
            refine g_iload_n 26 (gd rfl) rfl rfl ?_
            refine g_calls (As := [.int z20x43]) (r := [.int x1]) 29 (gd rfl) rfl rfl rfl rfl rfl (Nat.le_of_ble_eq_true rfl) (Nat.zero_le _) (Nat.zero_le _) (k_414b (by first | exact dq1 hd rfl | exact dq0 hd rfl | exact dq2 hd rfl | exact dq3 hd rfl | omega) hI20x39 ) (fun v u h => ?_)
            obtain ⟨z26, rfl, rfl, i26⟩ := h
            show GG _ _ _ _ _ _ _ _ [.int z26, .int x1] _ _ _
            refine g_cmp_lt 32 34 (gd rfl) rfl rfl (fun c29 => ?_) (fun c29 => ?_)
            · skip
              have i29 := r_lt1 0 31 c29 i1 i26 rfl
              have i29a := r_lt2 1 32 c29 i1 i26 rfl
              refine g_iconst 0 35 (gd rfl) rfl rfl ?_
              refine g_istore_n 36 (gd rfl) rfl (Nat.le_of_ble_eq_true rfl) ?_
              exact gg_w (by first | exact Nat.le_of_ble_eq_true rfl | omega) (gg_f (gf_cons rfl (gf_cons rfl (gf_cons rfl (gf_cons rfl gf_nil)))) (ct36 32 s20x39 z20x43 (Int32.ofInt 0) hI20x39 (fr_tr rfl (fr_sF rfl (fr_tr rfl (fr_sF rfl fr_rf) hF20x20)) hF20x39) (in_w 0 31 i29 rfl) (in_w 0 31 (in_c 0 rfl) rfl) (m_in 32 (in_w 0 31 (in_c 0 rfl) rfl) rfl)))
            · skip
              refine g_iconst (-1) 33 (gd rfl) rfl rfl ?_
              exact g_ireturn (gd rfl) rfl rfl (hP _ _ ⟨s20x39, hI20x39, (fr_tr rfl (fr_sF rfl (fr_tr rfl (fr_sF rfl fr_rf) hF20x20)) hF20x39), (Int32.ofInt (-1)), rfl, rfl, in_w (-1) 32 (in_c (-1) rfl) rfl⟩)
          · skip
            have i20x35x6 := r_le2 32 32 c20x35x6 (in_c 32 rfl) ro_2_1 rfl
            refine g_iconst (-1) 10 (gd rfl) rfl rfl ?_
            refine g_goto 21 (gd rfl) rfl ?_
            refine g_ireturn (gd rfl) rfl rfl (hp20x35 _ _ ?_)
            show GG _ _ _ _ _ _ _ _ [.int (Int32.ofInt (-1)), .int (Int32.ofInt 0), .ref (A 9), .ref (A 60)] _ _ _
            refine g_iconst 0 39 (gd rfl) rfl rfl ?_
            refine g_callv (X := _) (As := [.ref (A 9), .int (Int32.ofInt 0), .int (Int32.ofInt (-1)), .int (Int32.ofInt 0)]) (r := []) (b := A 60) (q := 60) 42 (gd rfl) rfl rfl rfl rfl rfl (ww_o rfl) (Nat.le_of_ble_eq_true rfl) (Nat.zero_le _) (Nat.zero_le _) (k_42_60_9 (by first | exact dq1 hd rfl | exact dq0 hd rfl | exact dq2 hd rfl | exact dq3 hd rfl | omega) hI20x25 (in_w 0 32 (in_c 0 rfl) rfl)) (fun e u h => h) (fun v u h => ?_)
            obtain ⟨s20x39, hI20x39, hF20x39, rfl, rfl⟩ := h
            show GG _ _ _ _ _ _ _ _ [] _ _ _
            refine g_aload_n 43 (gd rfl) rfl rfl ?_
            refine g_getI 46 (gd rfl) rfl rfl rfl (fun z20x43 e20x43 => ?_)
            refine g_ireturn (gd rfl) rfl rfl (hp20 _ _ ?_)
            show GG _ _ _ _ _ _ _ _ [.int z20x43] _ _ _
            refine g_istore_n 24 (gd rfl) rfl (Nat.le_of_ble_eq_true rfl) ?_
            refine g_iload_n 25 (gd rfl) rfl rfl ?_
            refine g_iload_n 26 (gd rfl) rfl rfl ?_
            refine g_calls (As := [.int z20x43]) (r := [.int x1]) 29 (gd rfl) rfl rfl rfl rfl rfl (Nat.le_of_ble_eq_true rfl) (Nat.zero_le _) (Nat.zero_le _) (k_414b (by first | exact dq1 hd rfl | exact dq0 hd rfl | exact dq2 hd rfl | exact dq3 hd rfl | omega) hI20x39 ) (fun v u h => ?_)
            obtain ⟨z26, rfl, rfl, i26⟩ := h
            show GG _ _ _ _ _ _ _ _ [.int z26, .int x1] _ _ _
            refine g_cmp_lt 32 34 (gd rfl) rfl rfl (fun c29 => ?_) (fun c29 => ?_)
            · skip
              have i29 := r_lt1 0 31 c29 i1 i26 rfl
              have i29a := r_lt2 1 32 c29 i1 i26 rfl
              refine g_iconst 0 35 (gd rfl) rfl rfl ?_
              refine g_istore_n 36 (gd rfl) rfl (Nat.le_of_ble_eq_true rfl) ?_
              exact gg_w (by first | exact Nat.le_of_ble_eq_true rfl | omega) (gg_f (gf_cons rfl (gf_cons rfl (gf_cons rfl (gf_cons rfl gf_nil)))) (ct36 32 s20x39 z20x43 (Int32.ofInt 0) hI20x39 (fr_tr rfl (fr_sF rfl (fr_tr rfl (fr_sF rfl fr_rf) hF20x20)) hF20x39) (in_w 0 31 i29 rfl) (in_w 0 31 (in_c 0 rfl) rfl) (m_in 32 (in_w 0 31 (in_c 0 rfl) rfl) rfl)))
            · skip
              refine g_iconst (-1) 33 (gd rfl) rfl rfl ?_
              exact g_ireturn (gd rfl) rfl rfl (hP _ _ ⟨s20x39, hI20x39, (fr_tr rfl (fr_sF rfl (fr_tr rfl (fr_sF rfl fr_rf) hF20x20)) hF20x39), (Int32.ofInt (-1)), rfl, rfl, in_w (-1) 32 (in_c (-1) rfl) rfl⟩)
    · skip
      exact zn_eq c9 (in_c 1 rfl) rfl

def fm_252_0 : FM := ([9, 10, 11, 12, 13, 14, 15, 39, 40, 41, 42, 43, 44, 45], [], [(2, 4), (32, 4)], [])
/-- GraphHouse.figures -/
theorem k_252_0 {Z : AmZ} {A : Nat → Nat} {s : GS} {ex : va_W} {d : Nat} {x1 : Int32} (hd : 7 ≤ d) (hI : Inv s)  : GC Z d 252 [.ref (A 0), .int x1] (WW Z A s ++ ex) 3 18 (fun v u => ∃ t : GS, Inv t ∧ Fr fm_252_0 s t ∧ ∃ z : Int64, v = some (.long z) ∧ u = WW Z A t ++ ex) (gE1 Z A ex fm_252_0 s) := by
  intro post xp hP hX
  obtain ⟨u_0_2, e_0_2⟩ : ∃ w, w = s.2.2.1 0 2 := ⟨_, rfl⟩
  have ro_0_2 := inv_F hI (-1) 4000 rfl e_0_2
  refine g_enter2 (k := 252) (N := 900) (by first | exact dq1 hd rfl | exact dq0 hd rfl | exact dq2 hd rfl | exact dq3 hd rfl | omega) rfl (Nat.le_of_ble_eq_true rfl) ?_
  refine g_iload_n 1 (gd rfl) rfl rfl ?_
  refine g_if_lt 4 13 (gd rfl) rfl rfl (fun c1 => ?_) (fun c1 => ?_)
  · skip
    have i1 := z_lt (-2147483648) (-1) c1 (i_rng x1) rfl
    refine g_iconst 0 14 (gd rfl) rfl rfl ?_
    refine g_thr (E := am_IA) (y := yX11_allow) 17 (gd rfl) rfl rfl (Or.inl ⟨rfl, rfl, rfl⟩) (by first | exact dq1 hd rfl | exact dq0 hd rfl | exact dq2 hd rfl | exact dq3 hd rfl | omega) (Nat.le_of_ble_eq_true rfl) (Nat.le_of_ble_eq_true rfl) (Nat.le_of_ble_eq_true rfl) (fun c14 => ?_) (fun c14 => ?_)
    · skip
      exact zn_ne c14 (in_c 0 rfl) rfl
    · skip
      exact (hX _ _ ⟨rfl, s, hI, fr_rf, rfl⟩)
  · skip
    have i1 := z_ge 0 2147483647 c1 (i_rng x1) rfl
    refine g_iload_n 5 (gd rfl) rfl rfl ?_
    refine g_iconst 1 6 (gd rfl) rfl rfl ?_
    refine g_cmp_gt 9 13 (gd rfl) rfl rfl (fun c6 => ?_) (fun c6 => ?_)
    · skip
      have i6 := r_lt2 2 2147483647 c6 (in_c 1 rfl) i1 rfl
      refine g_iconst 0 14 (gd rfl) rfl rfl ?_
      refine g_thr (E := am_IA) (y := yX11_allow) 17 (gd rfl) rfl rfl (Or.inl ⟨rfl, rfl, rfl⟩) (by first | exact dq1 hd rfl | exact dq0 hd rfl | exact dq2 hd rfl | exact dq3 hd rfl | omega) (Nat.le_of_ble_eq_true rfl) (Nat.le_of_ble_eq_true rfl) (Nat.le_of_ble_eq_true rfl) (fun c14 => ?_) (fun c14 => ?_)
      · skip
        exact zn_ne c14 (in_c 0 rfl) rfl
      · skip
        exact (hX _ _ ⟨rfl, s, hI, fr_rf, rfl⟩)
    · skip
      have i6 := r_le1 0 1 c6 i1 (in_c 1 rfl) rfl
      refine g_iconst 1 10 (gd rfl) rfl rfl ?_
      refine g_goto 14 (gd rfl) rfl ?_
      refine g_thr (E := am_IA) (y := yX11_allow) 17 (gd rfl) rfl rfl (Or.inl ⟨rfl, rfl, rfl⟩) (by first | exact dq1 hd rfl | exact dq0 hd rfl | exact dq2 hd rfl | exact dq3 hd rfl | omega) (Nat.le_of_ble_eq_true rfl) (Nat.le_of_ble_eq_true rfl) (Nat.le_of_ble_eq_true rfl) (fun c14 => ?_) (fun c14 => ?_)
      · skip
        refine g_iload_n 18 (gd rfl) rfl rfl ?_
        refine g_if_ne 21 35 (gd rfl) rfl rfl (fun c18 => ?_) (fun c18 => ?_)
        · skip
          have i18 := z_ne 1 1 c18 i6 rfl
          refine g_aload_n 36 (gd rfl) rfl rfl ?_
          refine g_getA (q2 := 56) 39 (gd rfl) rfl rfl rfl rfl ?_
          refine g_aload_n 40 (gd rfl) rfl rfl ?_
          refine g_callv (X := _) (As := []) (r := [.ref (A 56)]) (b := A 0) (q := 0) 43 (gd rfl) rfl rfl rfl rfl rfl (ww_o rfl) (Nat.le_of_ble_eq_true rfl) (mc := 0) (ms := 0) (Nat.zero_le _) (Nat.zero_le _) (P := fun v u => _) ?_ (fun e u h => h) (fun v u h => h)
          intro po40 xx40 hp40 hx40
          refine g_enter2 (k := 259) (N := 300) (by first | exact dq1 hd rfl | exact dq0 hd rfl | exact dq2 hd rfl | exact dq3 hd rfl | omega) rfl (Nat.le_of_ble_eq_true rfl) ?_
          refine g_aload_n 1 (gd rfl) rfl rfl ?_
          refine g_getI 4 (gd rfl) rfl rfl rfl (fun z40x1 e40x1 => ?_)
          have q40x1 : u_0_2 = z40x1 := (e_0_2).trans e40x1.symm
          subst q40x1
          refine g_iconst (-1) 5 (gd rfl) rfl rfl ?_
          refine g_cmp_ne 8 18 (gd rfl) rfl rfl (fun c40x5 => ?_) (fun c40x5 => ?_)
          · skip
            have i40x5 := r_ne1 0 4000 c40x5 ro_0_2 (in_c (-1) rfl) rfl
            refine g_aload_n 19 (gd rfl) rfl rfl ?_
            refine g_getA (q2 := 32) 22 (gd rfl) rfl rfl rfl rfl ?_
            refine g_areturn (gd rfl) rfl (hp40 _ _ ?_)
            show GG _ _ _ _ _ _ _ _ [.ref (A 32), .ref (A 56)] _ _ _
            refine g_callv (X := _) (As := [.ref (A 32)]) (r := []) (b := A 56) (q := 56) 46 (gd rfl) rfl rfl rfl rfl rfl (ww_o rfl) (Nat.le_of_ble_eq_true rfl) (Nat.zero_le _) (Nat.zero_le _) (k_152_56_32 (by first | exact dq1 hd rfl | exact dq0 hd rfl | exact dq2 hd rfl | exact dq3 hd rfl | omega) hI ) (fun e u h => h) (fun v u h => ?_)
            obtain ⟨s43, hI43, hF43, z43, rfl, rfl⟩ := h
            show GG _ _ _ _ _ _ _ _ [.long z43] _ _ _
            exact g_lreturn (gd rfl) rfl (hP _ _ ⟨s43, hI43, (fr_tr rfl fr_rf hF43), z43, rfl, rfl⟩)
          · skip
            have i40x5 := r_eq1 (-1) (-1) c40x5 ro_0_2 (in_c (-1) rfl) rfl
            refine g_aload_n 9 (gd rfl) rfl rfl ?_
            refine g_getA (q2 := 1) 12 (gd rfl) rfl rfl rfl rfl ?_
            refine g_getA (q2 := 2) 15 (gd rfl) rfl rfl rfl rfl ?_
            refine g_goto 22 (gd rfl) rfl ?_
            refine g_areturn (gd rfl) rfl (hp40 _ _ ?_)
            show GG _ _ _ _ _ _ _ _ [.ref (A 2), .ref (A 56)] _ _ _
            refine g_callv (X := _) (As := [.ref (A 2)]) (r := []) (b := A 56) (q := 56) 46 (gd rfl) rfl rfl rfl rfl rfl (ww_o rfl) (Nat.le_of_ble_eq_true rfl) (Nat.zero_le _) (Nat.zero_le _) (k_152_56_2 (by first | exact dq1 hd rfl | exact dq0 hd rfl | exact dq2 hd rfl | exact dq3 hd rfl | omega) hI ) (fun e u h => h) (fun v u h => ?_)
            obtain ⟨s43, hI43, hF43, z43, rfl, rfl⟩ := h
            show GG _ _ _ _ _ _ _ _ [.long z43] _ _ _
            exact g_lreturn (gd rfl) rfl (hP _ _ ⟨s43, hI43, (fr_tr rfl fr_rf hF43), z43, rfl, rfl⟩)
        · skip
          have i18 := z_eq 0 0 c18 i6 rfl
          refine g_aload_n 22 (gd rfl) rfl rfl ?_
          refine g_getA (q2 := 56) 25 (gd rfl) rfl rfl rfl rfl ?_
          refine g_aload_n 26 (gd rfl) rfl rfl ?_
          refine g_callv (X := _) (As := []) (r := [.ref (A 56)]) (b := A 0) (q := 0) 29 (gd rfl) rfl rfl rfl rfl rfl (ww_o rfl) (Nat.le_of_ble_eq_true rfl) (mc := 0) (ms := 0) (Nat.zero_le _) (Nat.zero_le _) (P := fun v u => _) ?_ (fun e u h => h) (fun v u h => h)
          intro po26 xx26 hp26 hx26
          refine g_enter2 (k := 259) (N := 300) (by first | exact dq1 hd rfl | exact dq0 hd rfl | exact dq2 hd rfl | exact dq3 hd rfl | omega) rfl (Nat.le_of_ble_eq_true rfl) ?_
          refine g_aload_n 1 (gd rfl) rfl rfl ?_
          refine g_getI 4 (gd rfl) rfl rfl rfl (fun z26x1 e26x1 => ?_)
          have q26x1 : u_0_2 = z26x1 := (e_0_2).trans e26x1.symm
          subst q26x1
          refine g_iconst (-1) 5 (gd rfl) rfl rfl ?_
          refine g_cmp_ne 8 18 (gd rfl) rfl rfl (fun c26x5 => ?_) (fun c26x5 => ?_)
          · skip
            have i26x5 := r_ne1 0 4000 c26x5 ro_0_2 (in_c (-1) rfl) rfl
            refine g_aload_n 19 (gd rfl) rfl rfl ?_
            refine g_getA (q2 := 32) 22 (gd rfl) rfl rfl rfl rfl ?_
            refine g_areturn (gd rfl) rfl (hp26 _ _ ?_)
            show GG _ _ _ _ _ _ _ _ [.ref (A 32), .ref (A 56)] _ _ _
            refine g_callv (X := _) (As := [.ref (A 32)]) (r := []) (b := A 56) (q := 56) 32 (gd rfl) rfl rfl rfl rfl rfl (ww_o rfl) (Nat.le_of_ble_eq_true rfl) (Nat.zero_le _) (Nat.zero_le _) (k_151_56_32 (by first | exact dq1 hd rfl | exact dq0 hd rfl | exact dq2 hd rfl | exact dq3 hd rfl | omega) hI ) (fun e u h => h) (fun v u h => ?_)
            obtain ⟨s29, hI29, hF29, z29, rfl, rfl⟩ := h
            show GG _ _ _ _ _ _ _ _ [.long z29] _ _ _
            refine g_goto 46 (gd rfl) rfl ?_
            exact g_lreturn (gd rfl) rfl (hP _ _ ⟨s29, hI29, (fr_tr rfl fr_rf hF29), z29, rfl, rfl⟩)
          · skip
            have i26x5 := r_eq1 (-1) (-1) c26x5 ro_0_2 (in_c (-1) rfl) rfl
            refine g_aload_n 9 (gd rfl) rfl rfl ?_
            refine g_getA (q2 := 1) 12 (gd rfl) rfl rfl rfl rfl ?_
            refine g_getA (q2 := 2) 15 (gd rfl) rfl rfl rfl rfl ?_
            refine g_goto 22 (gd rfl) rfl ?_
            refine g_areturn (gd rfl) rfl (hp26 _ _ ?_)
            show GG _ _ _ _ _ _ _ _ [.ref (A 2), .ref (A 56)] _ _ _
            refine g_callv (X := _) (As := [.ref (A 2)]) (r := []) (b := A 56) (q := 56) 32 (gd rfl) rfl rfl rfl rfl rfl (ww_o rfl) (Nat.le_of_ble_eq_true rfl) (Nat.zero_le _) (Nat.zero_le _) (k_151_56_2 (by first | exact dq1 hd rfl | exact dq0 hd rfl | exact dq2 hd rfl | exact dq3 hd rfl | omega) hI ) (fun e u h => h) (fun v u h => ?_)
            obtain ⟨s29, hI29, hF29, z29, rfl, rfl⟩ := h
            show GG _ _ _ _ _ _ _ _ [.long z29] _ _ _
            refine g_goto 46 (gd rfl) rfl ?_
            exact g_lreturn (gd rfl) rfl (hP _ _ ⟨s29, hI29, (fr_tr rfl fr_rf hF29), z29, rfl, rfl⟩)
      · skip
        exact zn_eq c14 (in_c 1 rfl) rfl

def fm_257_0 : FM := ([], [], [], [])
/-- GraphHouse.state -/
theorem k_257_0 {Z : AmZ} {A : Nat → Nat} {s : GS} {ex : va_W} {d : Nat} {x1 : Int32} (hd : 7 ≤ d) (hI : Inv s)  : GC Z d 257 [.ref (A 0), .int x1] (WW Z A s ++ ex) 3 18 (fun v u => ∃ t : GS, Inv t ∧ Fr fm_257_0 s t ∧ ∃ z : Int64, v = some (.long z) ∧ u = WW Z A t ++ ex) (gE1 Z A ex fm_257_0 s) := by
  intro post xp hP hX
  obtain ⟨u_102_9, e_102_9⟩ : ∃ w, w = s.2.2.1 102 9 := ⟨_, rfl⟩
  have ro_102_9 := inv_F hI 0 32 rfl e_102_9
  refine g_enter2 (k := 257) (N := 900) (by first | exact dq1 hd rfl | exact dq0 hd rfl | exact dq2 hd rfl | exact dq3 hd rfl | omega) rfl (Nat.le_of_ble_eq_true rfl) ?_
  refine g_iload_n 1 (gd rfl) rfl rfl ?_
  refine g_if_lt 4 19 (gd rfl) rfl rfl (fun c1 => ?_) (fun c1 => ?_)
  · skip
    have i1 := z_lt (-2147483648) (-1) c1 (i_rng x1) rfl
    refine g_iconst 0 20 (gd rfl) rfl rfl ?_
    refine g_thr (E := am_IA) (y := yX11_allow) 23 (gd rfl) rfl rfl (Or.inl ⟨rfl, rfl, rfl⟩) (by first | exact dq1 hd rfl | exact dq0 hd rfl | exact dq2 hd rfl | exact dq3 hd rfl | omega) (Nat.le_of_ble_eq_true rfl) (Nat.le_of_ble_eq_true rfl) (Nat.le_of_ble_eq_true rfl) (fun c20 => ?_) (fun c20 => ?_)
    · skip
      exact zn_ne c20 (in_c 0 rfl) rfl
    · skip
      exact (hX _ _ ⟨rfl, s, hI, fr_rf, rfl⟩)
  · skip
    have i1 := z_ge 0 2147483647 c1 (i_rng x1) rfl
    refine g_iload_n 5 (gd rfl) rfl rfl ?_
    refine g_aload_n 6 (gd rfl) rfl rfl ?_
    refine g_getA (q2 := 102) 9 (gd rfl) rfl rfl rfl rfl ?_
    refine g_getI 12 (gd rfl) rfl rfl rfl (fun z9 e9 => ?_)
    have q9 : u_102_9 = z9 := (e_102_9).trans e9.symm
    subst q9
    refine g_cmp_ge 15 19 (gd rfl) rfl rfl (fun c12 => ?_) (fun c12 => ?_)
    · skip
      refine g_iconst 0 20 (gd rfl) rfl rfl ?_
      refine g_thr (E := am_IA) (y := yX11_allow) 23 (gd rfl) rfl rfl (Or.inl ⟨rfl, rfl, rfl⟩) (by first | exact dq1 hd rfl | exact dq0 hd rfl | exact dq2 hd rfl | exact dq3 hd rfl | omega) (Nat.le_of_ble_eq_true rfl) (Nat.le_of_ble_eq_true rfl) (Nat.le_of_ble_eq_true rfl) (fun c20 => ?_) (fun c20 => ?_)
      · skip
        exact zn_ne c20 (in_c 0 rfl) rfl
      · skip
        exact (hX _ _ ⟨rfl, s, hI, fr_rf, rfl⟩)
    · skip
      have i12 := r_lt1 0 31 c12 i1 ro_102_9 rfl
      have i12a := r_lt2 1 32 c12 i1 ro_102_9 rfl
      refine g_iconst 1 16 (gd rfl) rfl rfl ?_
      refine g_goto 20 (gd rfl) rfl ?_
      refine g_thr (E := am_IA) (y := yX11_allow) 23 (gd rfl) rfl rfl (Or.inl ⟨rfl, rfl, rfl⟩) (by first | exact dq1 hd rfl | exact dq0 hd rfl | exact dq2 hd rfl | exact dq3 hd rfl | omega) (Nat.le_of_ble_eq_true rfl) (Nat.le_of_ble_eq_true rfl) (Nat.le_of_ble_eq_true rfl) (fun c20 => ?_) (fun c20 => ?_)
      · skip
        refine g_aload_n 24 (gd rfl) rfl rfl ?_
        refine g_getA (q2 := 102) 27 (gd rfl) rfl rfl rfl rfl ?_
        refine g_getA (q2 := 107) 30 (gd rfl) rfl rfl rfl rfl ?_
        refine g_iload_n 31 (gd rfl) rfl rfl ?_
        refine g_laload 32 (gd rfl) rfl (n := 32) rfl (in_ix i12 rfl) (fun z31 e31 => ?_)
        exact g_lreturn (gd rfl) rfl (hP _ _ ⟨s, hI, fr_rf, z31, rfl, rfl⟩)
      · skip
        exact zn_eq c20 (in_c 1 rfl) rfl

def fm_258_0 : FM := ([], [], [], [])
/-- GraphHouse.letters -/
theorem k_258_0 {Z : AmZ} {A : Nat → Nat} {s : GS} {ex : va_W} {d : Nat} {x1 : Int32} (hd : 7 ≤ d) (hI : Inv s)  : GC Z d 258 [.ref (A 0), .int x1] (WW Z A s ++ ex) 3 18 (fun v u => ∃ t : GS, Inv t ∧ Fr fm_258_0 s t ∧ ∃ z : Int32, v = some (.int z) ∧ u = WW Z A t ++ ex ∧ In z (-2147483648) 2147483647) (gE1 Z A ex fm_258_0 s) := by
  intro post xp hP hX
  obtain ⟨u_102_10, e_102_10⟩ : ∃ w, w = s.2.2.1 102 10 := ⟨_, rfl⟩
  obtain ⟨u_102_11, e_102_11⟩ : ∃ w, w = s.2.2.1 102 11 := ⟨_, rfl⟩
  obtain ⟨u_102_12, e_102_12⟩ : ∃ w, w = s.2.2.1 102 12 := ⟨_, rfl⟩
  refine g_enter2 (k := 258) (N := 900) (by first | exact dq1 hd rfl | exact dq0 hd rfl | exact dq2 hd rfl | exact dq3 hd rfl | omega) rfl (Nat.le_of_ble_eq_true rfl) ?_
  refine g_iload_n 1 (gd rfl) rfl rfl ?_
  refine g_if_lt 4 13 (gd rfl) rfl rfl (fun c1 => ?_) (fun c1 => ?_)
  · skip
    have i1 := z_lt (-2147483648) (-1) c1 (i_rng x1) rfl
    refine g_iconst 0 14 (gd rfl) rfl rfl ?_
    refine g_thr (E := am_IA) (y := yX11_allow) 17 (gd rfl) rfl rfl (Or.inl ⟨rfl, rfl, rfl⟩) (by first | exact dq1 hd rfl | exact dq0 hd rfl | exact dq2 hd rfl | exact dq3 hd rfl | omega) (Nat.le_of_ble_eq_true rfl) (Nat.le_of_ble_eq_true rfl) (Nat.le_of_ble_eq_true rfl) (fun c14 => ?_) (fun c14 => ?_)
    · skip
      exact zn_ne c14 (in_c 0 rfl) rfl
    · skip
      exact (hX _ _ ⟨rfl, s, hI, fr_rf, rfl⟩)
  · skip
    have i1 := z_ge 0 2147483647 c1 (i_rng x1) rfl
    refine g_iload_n 5 (gd rfl) rfl rfl ?_
    refine g_iconst 2 6 (gd rfl) rfl rfl ?_
    refine g_cmp_gt 9 13 (gd rfl) rfl rfl (fun c6 => ?_) (fun c6 => ?_)
    · skip
      have i6 := r_lt2 3 2147483647 c6 (in_c 2 rfl) i1 rfl
      refine g_iconst 0 14 (gd rfl) rfl rfl ?_
      refine g_thr (E := am_IA) (y := yX11_allow) 17 (gd rfl) rfl rfl (Or.inl ⟨rfl, rfl, rfl⟩) (by first | exact dq1 hd rfl | exact dq0 hd rfl | exact dq2 hd rfl | exact dq3 hd rfl | omega) (Nat.le_of_ble_eq_true rfl) (Nat.le_of_ble_eq_true rfl) (Nat.le_of_ble_eq_true rfl) (fun c14 => ?_) (fun c14 => ?_)
      · skip
        exact zn_ne c14 (in_c 0 rfl) rfl
      · skip
        exact (hX _ _ ⟨rfl, s, hI, fr_rf, rfl⟩)
    · skip
      have i6 := r_le1 0 2 c6 i1 (in_c 2 rfl) rfl
      refine g_iconst 1 10 (gd rfl) rfl rfl ?_
      refine g_goto 14 (gd rfl) rfl ?_
      refine g_thr (E := am_IA) (y := yX11_allow) 17 (gd rfl) rfl rfl (Or.inl ⟨rfl, rfl, rfl⟩) (by first | exact dq1 hd rfl | exact dq0 hd rfl | exact dq2 hd rfl | exact dq3 hd rfl | omega) (Nat.le_of_ble_eq_true rfl) (Nat.le_of_ble_eq_true rfl) (Nat.le_of_ble_eq_true rfl) (fun c14 => ?_) (fun c14 => ?_)
      · skip
        refine g_iload_n 18 (gd rfl) rfl rfl ?_
        refine g_if_ne 21 29 (gd rfl) rfl rfl (fun c18 => ?_) (fun c18 => ?_)
        · skip
          have i18 := z_ne 1 2 c18 i6 rfl
          refine g_iload_n 30 (gd rfl) rfl rfl ?_
          refine g_iconst 1 31 (gd rfl) rfl rfl ?_
          refine g_cmp_ne 34 44 (gd rfl) rfl rfl (fun c31 => ?_) (fun c31 => ?_)
          · skip
            have i31 := r_ne1 2 2 c31 i18 (in_c 1 rfl) rfl
            refine g_aload_n 45 (gd rfl) rfl rfl ?_
            refine g_getA (q2 := 102) 48 (gd rfl) rfl rfl rfl rfl ?_
            refine g_getI 51 (gd rfl) rfl rfl rfl (fun z48 e48 => ?_)
            have q48 : u_102_12 = z48 := (e_102_12).trans e48.symm
            subst q48
            exact g_ireturn (gd rfl) rfl rfl (hP _ _ ⟨s, hI, fr_rf, u_102_12, rfl, rfl, in_w (-2147483648) 2147483647 (i_rng u_102_12) rfl⟩)
          · skip
            have i31 := r_eq1 1 1 c31 i18 (in_c 1 rfl) rfl
            refine g_aload_n 35 (gd rfl) rfl rfl ?_
            refine g_getA (q2 := 102) 38 (gd rfl) rfl rfl rfl rfl ?_
            refine g_getI 41 (gd rfl) rfl rfl rfl (fun z38 e38 => ?_)
            have q38 : u_102_11 = z38 := (e_102_11).trans e38.symm
            subst q38
            refine g_goto 51 (gd rfl) rfl ?_
            exact g_ireturn (gd rfl) rfl rfl (hP _ _ ⟨s, hI, fr_rf, u_102_11, rfl, rfl, in_w (-2147483648) 2147483647 (i_rng u_102_11) rfl⟩)
        · skip
          have i18 := z_eq 0 0 c18 i6 rfl
          refine g_aload_n 22 (gd rfl) rfl rfl ?_
          refine g_getA (q2 := 102) 25 (gd rfl) rfl rfl rfl rfl ?_
          refine g_getI 28 (gd rfl) rfl rfl rfl (fun z25 e25 => ?_)
          have q25 : u_102_10 = z25 := (e_102_10).trans e25.symm
          subst q25
          exact g_ireturn (gd rfl) rfl rfl (hP _ _ ⟨s, hI, fr_rf, u_102_10, rfl, rfl, in_w (-2147483648) 2147483647 (i_rng u_102_10) rfl⟩)
      · skip
        exact zn_eq c14 (in_c 1 rfl) rfl

/-- GraphHouse.flood -/
theorem k_266_9 {Z : AmZ} {A : Nat → Nat} {s : GS} {ex : va_W} {d : Nat} {X : AmX} {x1 : Int32} {x2 : Int32} (hd : 4 ≤ d) (hI : Inv s)  : GC Z d 266 [.ref (A 9), .int x1, .int x2] (WW Z A s ++ ex) 0 0 (fun v u => ∃ z : Int32, v = some (.int z) ∧ u = WW Z A s ++ ex ∧ In z (-2147483648) 2147483647 ∧ (∀ k, bt x1 k = true → bt z k = true)) X := by
  intro post xp hP hX
  have ct8 : ∀ (k8 : Nat) (y8_3 : Int32) (y8_4 : Int32) (y8_5 : Int32), (In y8_5 0 32) → (∀ k, bt x1 k = true → bt y8_3 k = true) → 32 - (y8_5).toInt < (k8 : Int) → GG Z (d - 1) 266 post (gx xp) (1 + k8 * 900) 8 (fun j => xlook j [(0, .ref (A 9)), (1, .int x1), (2, .int x2), (3, .int y8_3), (4, .int y8_4), (5, .int y8_5)]) [] (WW Z A s ++ ex) 0 0 := by
    intro k8
    induction k8 with
    | zero => intro y8_3 y8_4 y8_5 j8_5 g8_0 mm8; exact m_no mm8 j8_5 rfl
    | succ k8 ih8 =>
      intro y8_3 y8_4 y8_5 j8_5 g8_0 mm8
      refine gg_w (M := 1 + k8 * 900 + 900) gws ?_
      refine g_iload 10 (gd rfl) rfl rfl ?_
      refine g_bipush 32 12 (gd rfl) rfl rfl ?_
      refine g_cmp_ge 15 62 (gd rfl) rfl rfl (fun c12 => ?_) (fun c12 => ?_)
      · skip
        have i12 := r_le2 32 32 c12 (in_c 32 rfl) j8_5 rfl
        refine g_iload_n 63 (gd rfl) rfl rfl ?_
        have n63 : ∀ k, bt x1 k = true → bt y8_3 k = true := by exact g8_0
        exact g_ireturn (gd rfl) rfl rfl (hP _ _ ⟨y8_3, rfl, rfl, in_w (-2147483648) 2147483647 (i_rng y8_3) rfl, n63⟩)
      · skip
        have i12 := r_lt1 0 31 c12 j8_5 (in_c 32 rfl) rfl
        refine g_iload 17 (gd rfl) rfl rfl ?_
        refine g_if_eq 20 62 (gd rfl) rfl rfl (fun c17 => ?_) (fun c17 => ?_)
        · skip
          have i17 := z_eq 0 0 c17 (i_rng y8_4) rfl
          refine g_iload_n 63 (gd rfl) rfl rfl ?_
          have n63 : ∀ k, bt x1 k = true → bt y8_3 k = true := by exact g8_0
          exact g_ireturn (gd rfl) rfl rfl (hP _ _ ⟨y8_3, rfl, rfl, in_w (-2147483648) 2147483647 (i_rng y8_3) rfl, n63⟩)
        · skip
          refine g_aload_n 21 (gd rfl) rfl rfl ?_
          refine g_iload 23 (gd rfl) rfl rfl ?_
          refine g_calls (As := [.int y8_4]) (r := [.ref (A 9)]) 26 (gd rfl) rfl rfl rfl rfl rfl (Nat.le_of_ble_eq_true rfl) (Nat.zero_le _) (Nat.zero_le _) (k_264n (by first | exact dq1 hd rfl | exact dq0 hd rfl | exact dq2 hd rfl | exact dq3 hd rfl | omega) c17) (fun v u h => ?_)
          obtain ⟨z23, rfl, rfl, i23, hb23, hl23⟩ := h
          show GG _ _ _ _ _ _ _ _ [.int z23, .ref (A 9)] _ _ _
          refine g_iaload 27 (gd rfl) rfl (n := 32) rfl (in_ix i23 rfl) (fun z26 e26 => ?_)
          refine g_iload_n 28 (gd rfl) rfl rfl ?_
          refine g_iand 29 (gd rfl) rfl (fun z28 e28 => ?_)
          refine g_iload_n 30 (gd rfl) rfl rfl ?_
          refine g_iconst (-1) 31 (gd rfl) rfl rfl ?_
          refine g_ixor 32 (gd rfl) rfl (fun z31 e31 => ?_)
          refine g_iand 33 (gd rfl) rfl (fun z32 e32 => ?_)
          refine g_istore 35 (gd rfl) rfl (Nat.le_of_ble_eq_true rfl) ?_
          refine g_iload 37 (gd rfl) rfl rfl ?_
          refine g_iload 39 (gd rfl) rfl rfl ?_
          refine g_iconst 1 40 (gd rfl) rfl rfl ?_
          refine g_isub 41 (gd rfl) rfl (fun z40 e40 => ?_)
          refine g_iand 42 (gd rfl) rfl (fun z41 e41 => ?_)
          refine g_istore 44 (gd rfl) rfl (Nat.le_of_ble_eq_true rfl) ?_
          refine g_iload 46 (gd rfl) rfl rfl ?_
          refine g_iload 48 (gd rfl) rfl rfl ?_
          refine g_ior 49 (gd rfl) rfl (fun z48 e48 => ?_)
          refine g_istore 51 (gd rfl) rfl (Nat.le_of_ble_eq_true rfl) ?_
          refine g_iload_n 52 (gd rfl) rfl rfl ?_
          refine g_iload 54 (gd rfl) rfl rfl ?_
          refine g_ior 55 (gd rfl) rfl (fun z54 e54 => ?_)
          refine g_istore_n 56 (gd rfl) rfl (Nat.le_of_ble_eq_true rfl) ?_
          refine g_iinc 59 (gd rfl) rfl rfl (Nat.le_of_ble_eq_true rfl) (fun z56 e56 => ?_)
          have i56 := in_add 1 32 e56 i12 (in_c 1 rfl) rfl rfl
          refine g_goto 8 (gd rfl) rfl ?_
          have n8 : ∀ k, bt x1 k = true → bt z54 k = true := by first | exact fun k h => h | exact fun k h => bt_orl e54 (g8_0 k h)
          exact gg_w (by first | exact Nat.le_add_right _ _ | exact gw2 | exact gw3 | exact gwe rfl | exact gwf rfl | exact gwg rfl | exact gwh rfl | omega) (gg_f (gf_cons rfl (gf_cons rfl (gf_cons rfl (gf_cons rfl (gf_cons rfl (gf_cons rfl gf_nil)))))) (ih8  z54 z48 z56  (in_w 0 32 i56 rfl) n8 (m_up mm8 (t_add e56 i12 (in_c 1 rfl) rfl) (in_w 1 1 (in_c 1 rfl) rfl))))
  refine g_enter2 (k := 266) (N := 30601) (by first | exact dq1 hd rfl | exact dq0 hd rfl | exact dq2 hd rfl | exact dq3 hd rfl | omega) rfl (Nat.le_of_ble_eq_true rfl) ?_
  refine g_iload_n 1 (gd rfl) rfl rfl ?_
  refine g_istore_n 2 (gd rfl) rfl (Nat.le_of_ble_eq_true rfl) ?_
  refine g_iload_n 3 (gd rfl) rfl rfl ?_
  refine g_istore 5 (gd rfl) rfl (Nat.le_of_ble_eq_true rfl) ?_
  refine g_iconst 0 6 (gd rfl) rfl rfl ?_
  refine g_istore 8 (gd rfl) rfl (Nat.le_of_ble_eq_true rfl) ?_
  have n8 : ∀ k, bt x1 k = true → bt x1 k = true := by first | exact fun k h => h | exact fun k h => bt_orl e54 (g8_0 k h)
  exact gg_w (by first | exact Nat.le_of_ble_eq_true rfl | omega) (gg_f (gf_cons rfl (gf_cons rfl (gf_cons rfl (gf_cons rfl (gf_cons rfl (gf_cons rfl gf_nil)))))) (ct8 33  x1 x1 (Int32.ofInt 0)  (in_w 0 32 (in_c 0 rfl) rfl) n8 (m_in 33 (in_w 0 32 (in_c 0 rfl) rfl) rfl)))

/-- GraphHouse.flood -/
theorem k_266_10 {Z : AmZ} {A : Nat → Nat} {s : GS} {ex : va_W} {d : Nat} {X : AmX} {x1 : Int32} {x2 : Int32} (hd : 4 ≤ d) (hI : Inv s) (h2 : In x2 (-1) (-1)) : GC Z d 266 [.ref (A 10), .int x1, .int x2] (WW Z A s ++ ex) 0 0 (fun v u => ∃ z : Int32, v = some (.int z) ∧ u = WW Z A s ++ ex ∧ In z (-2147483648) 2147483647 ∧ (∀ k, bt x1 k = true → bt z k = true)) X := by
  intro post xp hP hX
  have ct8 : ∀ (k8 : Nat) (y8_3 : Int32) (y8_4 : Int32) (y8_5 : Int32), (In y8_5 0 32) → (∀ k, bt x1 k = true → bt y8_3 k = true) → 32 - (y8_5).toInt < (k8 : Int) → GG Z (d - 1) 266 post (gx xp) (1 + k8 * 900) 8 (fun j => xlook j [(0, .ref (A 10)), (1, .int x1), (2, .int x2), (3, .int y8_3), (4, .int y8_4), (5, .int y8_5)]) [] (WW Z A s ++ ex) 0 0 := by
    intro k8
    induction k8 with
    | zero => intro y8_3 y8_4 y8_5 j8_5 g8_0 mm8; exact m_no mm8 j8_5 rfl
    | succ k8 ih8 =>
      intro y8_3 y8_4 y8_5 j8_5 g8_0 mm8
      refine gg_w (M := 1 + k8 * 900 + 900) gws ?_
      refine g_iload 10 (gd rfl) rfl rfl ?_
      refine g_bipush 32 12 (gd rfl) rfl rfl ?_
      refine g_cmp_ge 15 62 (gd rfl) rfl rfl (fun c12 => ?_) (fun c12 => ?_)
      · skip
        have i12 := r_le2 32 32 c12 (in_c 32 rfl) j8_5 rfl
        refine g_iload_n 63 (gd rfl) rfl rfl ?_
        have n63 : ∀ k, bt x1 k = true → bt y8_3 k = true := by exact g8_0
        exact g_ireturn (gd rfl) rfl rfl (hP _ _ ⟨y8_3, rfl, rfl, in_w (-2147483648) 2147483647 (i_rng y8_3) rfl, n63⟩)
      · skip
        have i12 := r_lt1 0 31 c12 j8_5 (in_c 32 rfl) rfl
        refine g_iload 17 (gd rfl) rfl rfl ?_
        refine g_if_eq 20 62 (gd rfl) rfl rfl (fun c17 => ?_) (fun c17 => ?_)
        · skip
          have i17 := z_eq 0 0 c17 (i_rng y8_4) rfl
          refine g_iload_n 63 (gd rfl) rfl rfl ?_
          have n63 : ∀ k, bt x1 k = true → bt y8_3 k = true := by exact g8_0
          exact g_ireturn (gd rfl) rfl rfl (hP _ _ ⟨y8_3, rfl, rfl, in_w (-2147483648) 2147483647 (i_rng y8_3) rfl, n63⟩)
        · skip
          refine g_aload_n 21 (gd rfl) rfl rfl ?_
          refine g_iload 23 (gd rfl) rfl rfl ?_
          refine g_calls (As := [.int y8_4]) (r := [.ref (A 10)]) 26 (gd rfl) rfl rfl rfl rfl rfl (Nat.le_of_ble_eq_true rfl) (Nat.zero_le _) (Nat.zero_le _) (k_264n (by first | exact dq1 hd rfl | exact dq0 hd rfl | exact dq2 hd rfl | exact dq3 hd rfl | omega) c17) (fun v u h => ?_)
          obtain ⟨z23, rfl, rfl, i23, hb23, hl23⟩ := h
          show GG _ _ _ _ _ _ _ _ [.int z23, .ref (A 10)] _ _ _
          refine g_iaload 27 (gd rfl) rfl (n := 32) rfl (in_ix i23 rfl) (fun z26 e26 => ?_)
          refine g_iload_n 28 (gd rfl) rfl rfl ?_
          refine g_iand 29 (gd rfl) rfl (fun z28 e28 => ?_)
          refine g_iload_n 30 (gd rfl) rfl rfl ?_
          refine g_iconst (-1) 31 (gd rfl) rfl rfl ?_
          refine g_ixor 32 (gd rfl) rfl (fun z31 e31 => ?_)
          refine g_iand 33 (gd rfl) rfl (fun z32 e32 => ?_)
          refine g_istore 35 (gd rfl) rfl (Nat.le_of_ble_eq_true rfl) ?_
          refine g_iload 37 (gd rfl) rfl rfl ?_
          refine g_iload 39 (gd rfl) rfl rfl ?_
          refine g_iconst 1 40 (gd rfl) rfl rfl ?_
          refine g_isub 41 (gd rfl) rfl (fun z40 e40 => ?_)
          refine g_iand 42 (gd rfl) rfl (fun z41 e41 => ?_)
          refine g_istore 44 (gd rfl) rfl (Nat.le_of_ble_eq_true rfl) ?_
          refine g_iload 46 (gd rfl) rfl rfl ?_
          refine g_iload 48 (gd rfl) rfl rfl ?_
          refine g_ior 49 (gd rfl) rfl (fun z48 e48 => ?_)
          refine g_istore 51 (gd rfl) rfl (Nat.le_of_ble_eq_true rfl) ?_
          refine g_iload_n 52 (gd rfl) rfl rfl ?_
          refine g_iload 54 (gd rfl) rfl rfl ?_
          refine g_ior 55 (gd rfl) rfl (fun z54 e54 => ?_)
          refine g_istore_n 56 (gd rfl) rfl (Nat.le_of_ble_eq_true rfl) ?_
          refine g_iinc 59 (gd rfl) rfl rfl (Nat.le_of_ble_eq_true rfl) (fun z56 e56 => ?_)
          have i56 := in_add 1 32 e56 i12 (in_c 1 rfl) rfl rfl
          refine g_goto 8 (gd rfl) rfl ?_
          have n8 : ∀ k, bt x1 k = true → bt z54 k = true := by first | exact fun k h => h | exact fun k h => bt_orl e54 (g8_0 k h)
          exact gg_w (by first | exact Nat.le_add_right _ _ | exact gw2 | exact gw3 | exact gwe rfl | exact gwf rfl | exact gwg rfl | exact gwh rfl | omega) (gg_f (gf_cons rfl (gf_cons rfl (gf_cons rfl (gf_cons rfl (gf_cons rfl (gf_cons rfl gf_nil)))))) (ih8  z54 z48 z56  (in_w 0 32 i56 rfl) n8 (m_up mm8 (t_add e56 i12 (in_c 1 rfl) rfl) (in_w 1 1 (in_c 1 rfl) rfl))))
  refine g_enter2 (k := 266) (N := 30601) (by first | exact dq1 hd rfl | exact dq0 hd rfl | exact dq2 hd rfl | exact dq3 hd rfl | omega) rfl (Nat.le_of_ble_eq_true rfl) ?_
  refine g_iload_n 1 (gd rfl) rfl rfl ?_
  refine g_istore_n 2 (gd rfl) rfl (Nat.le_of_ble_eq_true rfl) ?_
  refine g_iload_n 3 (gd rfl) rfl rfl ?_
  refine g_istore 5 (gd rfl) rfl (Nat.le_of_ble_eq_true rfl) ?_
  refine g_iconst 0 6 (gd rfl) rfl rfl ?_
  refine g_istore 8 (gd rfl) rfl (Nat.le_of_ble_eq_true rfl) ?_
  have n8 : ∀ k, bt x1 k = true → bt x1 k = true := by first | exact fun k h => h | exact fun k h => bt_orl e54 (g8_0 k h)
  exact gg_w (by first | exact Nat.le_of_ble_eq_true rfl | omega) (gg_f (gf_cons rfl (gf_cons rfl (gf_cons rfl (gf_cons rfl (gf_cons rfl (gf_cons rfl gf_nil)))))) (ct8 33  x1 x1 (Int32.ofInt 0)  (in_w 0 32 (in_c 0 rfl) rfl) n8 (m_in 33 (in_w 0 32 (in_c 0 rfl) rfl) rfl)))

/-- GraphHouse.flood -/
theorem k_266_11 {Z : AmZ} {A : Nat → Nat} {s : GS} {ex : va_W} {d : Nat} {X : AmX} {x1 : Int32} {x2 : Int32} (hd : 4 ≤ d) (hI : Inv s) (h2 : In x2 (-1) (-1)) : GC Z d 266 [.ref (A 11), .int x1, .int x2] (WW Z A s ++ ex) 0 0 (fun v u => ∃ z : Int32, v = some (.int z) ∧ u = WW Z A s ++ ex ∧ In z (-2147483648) 2147483647 ∧ (∀ k, bt x1 k = true → bt z k = true)) X := by
  intro post xp hP hX
  have ct8 : ∀ (k8 : Nat) (y8_3 : Int32) (y8_4 : Int32) (y8_5 : Int32), (In y8_5 0 32) → (∀ k, bt x1 k = true → bt y8_3 k = true) → 32 - (y8_5).toInt < (k8 : Int) → GG Z (d - 1) 266 post (gx xp) (1 + k8 * 900) 8 (fun j => xlook j [(0, .ref (A 11)), (1, .int x1), (2, .int x2), (3, .int y8_3), (4, .int y8_4), (5, .int y8_5)]) [] (WW Z A s ++ ex) 0 0 := by
    intro k8
    induction k8 with
    | zero => intro y8_3 y8_4 y8_5 j8_5 g8_0 mm8; exact m_no mm8 j8_5 rfl
    | succ k8 ih8 =>
      intro y8_3 y8_4 y8_5 j8_5 g8_0 mm8
      refine gg_w (M := 1 + k8 * 900 + 900) gws ?_
      refine g_iload 10 (gd rfl) rfl rfl ?_
      refine g_bipush 32 12 (gd rfl) rfl rfl ?_
      refine g_cmp_ge 15 62 (gd rfl) rfl rfl (fun c12 => ?_) (fun c12 => ?_)
      · skip
        have i12 := r_le2 32 32 c12 (in_c 32 rfl) j8_5 rfl
        refine g_iload_n 63 (gd rfl) rfl rfl ?_
        have n63 : ∀ k, bt x1 k = true → bt y8_3 k = true := by exact g8_0
        exact g_ireturn (gd rfl) rfl rfl (hP _ _ ⟨y8_3, rfl, rfl, in_w (-2147483648) 2147483647 (i_rng y8_3) rfl, n63⟩)
      · skip
        have i12 := r_lt1 0 31 c12 j8_5 (in_c 32 rfl) rfl
        refine g_iload 17 (gd rfl) rfl rfl ?_
        refine g_if_eq 20 62 (gd rfl) rfl rfl (fun c17 => ?_) (fun c17 => ?_)
        · skip
          have i17 := z_eq 0 0 c17 (i_rng y8_4) rfl
          refine g_iload_n 63 (gd rfl) rfl rfl ?_
          have n63 : ∀ k, bt x1 k = true → bt y8_3 k = true := by exact g8_0
          exact g_ireturn (gd rfl) rfl rfl (hP _ _ ⟨y8_3, rfl, rfl, in_w (-2147483648) 2147483647 (i_rng y8_3) rfl, n63⟩)
        · skip
          refine g_aload_n 21 (gd rfl) rfl rfl ?_
          refine g_iload 23 (gd rfl) rfl rfl ?_
          refine g_calls (As := [.int y8_4]) (r := [.ref (A 11)]) 26 (gd rfl) rfl rfl rfl rfl rfl (Nat.le_of_ble_eq_true rfl) (Nat.zero_le _) (Nat.zero_le _) (k_264n (by first | exact dq1 hd rfl | exact dq0 hd rfl | exact dq2 hd rfl | exact dq3 hd rfl | omega) c17) (fun v u h => ?_)
          obtain ⟨z23, rfl, rfl, i23, hb23, hl23⟩ := h
          show GG _ _ _ _ _ _ _ _ [.int z23, .ref (A 11)] _ _ _
          refine g_iaload 27 (gd rfl) rfl (n := 32) rfl (in_ix i23 rfl) (fun z26 e26 => ?_)
          refine g_iload_n 28 (gd rfl) rfl rfl ?_
          refine g_iand 29 (gd rfl) rfl (fun z28 e28 => ?_)
          refine g_iload_n 30 (gd rfl) rfl rfl ?_
          refine g_iconst (-1) 31 (gd rfl) rfl rfl ?_
          refine g_ixor 32 (gd rfl) rfl (fun z31 e31 => ?_)
          refine g_iand 33 (gd rfl) rfl (fun z32 e32 => ?_)
          refine g_istore 35 (gd rfl) rfl (Nat.le_of_ble_eq_true rfl) ?_
          refine g_iload 37 (gd rfl) rfl rfl ?_
          refine g_iload 39 (gd rfl) rfl rfl ?_
          refine g_iconst 1 40 (gd rfl) rfl rfl ?_
          refine g_isub 41 (gd rfl) rfl (fun z40 e40 => ?_)
          refine g_iand 42 (gd rfl) rfl (fun z41 e41 => ?_)
          refine g_istore 44 (gd rfl) rfl (Nat.le_of_ble_eq_true rfl) ?_
          refine g_iload 46 (gd rfl) rfl rfl ?_
          refine g_iload 48 (gd rfl) rfl rfl ?_
          refine g_ior 49 (gd rfl) rfl (fun z48 e48 => ?_)
          refine g_istore 51 (gd rfl) rfl (Nat.le_of_ble_eq_true rfl) ?_
          refine g_iload_n 52 (gd rfl) rfl rfl ?_
          refine g_iload 54 (gd rfl) rfl rfl ?_
          refine g_ior 55 (gd rfl) rfl (fun z54 e54 => ?_)
          refine g_istore_n 56 (gd rfl) rfl (Nat.le_of_ble_eq_true rfl) ?_
          refine g_iinc 59 (gd rfl) rfl rfl (Nat.le_of_ble_eq_true rfl) (fun z56 e56 => ?_)
          have i56 := in_add 1 32 e56 i12 (in_c 1 rfl) rfl rfl
          refine g_goto 8 (gd rfl) rfl ?_
          have n8 : ∀ k, bt x1 k = true → bt z54 k = true := by first | exact fun k h => h | exact fun k h => bt_orl e54 (g8_0 k h)
          exact gg_w (by first | exact Nat.le_add_right _ _ | exact gw2 | exact gw3 | exact gwe rfl | exact gwf rfl | exact gwg rfl | exact gwh rfl | omega) (gg_f (gf_cons rfl (gf_cons rfl (gf_cons rfl (gf_cons rfl (gf_cons rfl (gf_cons rfl gf_nil)))))) (ih8  z54 z48 z56  (in_w 0 32 i56 rfl) n8 (m_up mm8 (t_add e56 i12 (in_c 1 rfl) rfl) (in_w 1 1 (in_c 1 rfl) rfl))))
  refine g_enter2 (k := 266) (N := 30601) (by first | exact dq1 hd rfl | exact dq0 hd rfl | exact dq2 hd rfl | exact dq3 hd rfl | omega) rfl (Nat.le_of_ble_eq_true rfl) ?_
  refine g_iload_n 1 (gd rfl) rfl rfl ?_
  refine g_istore_n 2 (gd rfl) rfl (Nat.le_of_ble_eq_true rfl) ?_
  refine g_iload_n 3 (gd rfl) rfl rfl ?_
  refine g_istore 5 (gd rfl) rfl (Nat.le_of_ble_eq_true rfl) ?_
  refine g_iconst 0 6 (gd rfl) rfl rfl ?_
  refine g_istore 8 (gd rfl) rfl (Nat.le_of_ble_eq_true rfl) ?_
  have n8 : ∀ k, bt x1 k = true → bt x1 k = true := by first | exact fun k h => h | exact fun k h => bt_orl e54 (g8_0 k h)
  exact gg_w (by first | exact Nat.le_of_ble_eq_true rfl | omega) (gg_f (gf_cons rfl (gf_cons rfl (gf_cons rfl (gf_cons rfl (gf_cons rfl (gf_cons rfl gf_nil)))))) (ct8 33  x1 x1 (Int32.ofInt 0)  (in_w 0 32 (in_c 0 rfl) rfl) n8 (m_in 33 (in_w 0 32 (in_c 0 rfl) rfl) rfl)))

/-- GraphHouse.flood -/
theorem k_266_39 {Z : AmZ} {A : Nat → Nat} {s : GS} {ex : va_W} {d : Nat} {X : AmX} {x1 : Int32} {x2 : Int32} (hd : 4 ≤ d) (hI : Inv s)  : GC Z d 266 [.ref (A 39), .int x1, .int x2] (WW Z A s ++ ex) 0 0 (fun v u => ∃ z : Int32, v = some (.int z) ∧ u = WW Z A s ++ ex ∧ In z (-2147483648) 2147483647 ∧ (∀ k, bt x1 k = true → bt z k = true)) X := by
  intro post xp hP hX
  have ct8 : ∀ (k8 : Nat) (y8_3 : Int32) (y8_4 : Int32) (y8_5 : Int32), (In y8_5 0 32) → (∀ k, bt x1 k = true → bt y8_3 k = true) → 32 - (y8_5).toInt < (k8 : Int) → GG Z (d - 1) 266 post (gx xp) (1 + k8 * 900) 8 (fun j => xlook j [(0, .ref (A 39)), (1, .int x1), (2, .int x2), (3, .int y8_3), (4, .int y8_4), (5, .int y8_5)]) [] (WW Z A s ++ ex) 0 0 := by
    intro k8
    induction k8 with
    | zero => intro y8_3 y8_4 y8_5 j8_5 g8_0 mm8; exact m_no mm8 j8_5 rfl
    | succ k8 ih8 =>
      intro y8_3 y8_4 y8_5 j8_5 g8_0 mm8
      refine gg_w (M := 1 + k8 * 900 + 900) gws ?_
      refine g_iload 10 (gd rfl) rfl rfl ?_
      refine g_bipush 32 12 (gd rfl) rfl rfl ?_
      refine g_cmp_ge 15 62 (gd rfl) rfl rfl (fun c12 => ?_) (fun c12 => ?_)
      · skip
        have i12 := r_le2 32 32 c12 (in_c 32 rfl) j8_5 rfl
        refine g_iload_n 63 (gd rfl) rfl rfl ?_
        have n63 : ∀ k, bt x1 k = true → bt y8_3 k = true := by exact g8_0
        exact g_ireturn (gd rfl) rfl rfl (hP _ _ ⟨y8_3, rfl, rfl, in_w (-2147483648) 2147483647 (i_rng y8_3) rfl, n63⟩)
      · skip
        have i12 := r_lt1 0 31 c12 j8_5 (in_c 32 rfl) rfl
        refine g_iload 17 (gd rfl) rfl rfl ?_
        refine g_if_eq 20 62 (gd rfl) rfl rfl (fun c17 => ?_) (fun c17 => ?_)
        · skip
          have i17 := z_eq 0 0 c17 (i_rng y8_4) rfl
          refine g_iload_n 63 (gd rfl) rfl rfl ?_
          have n63 : ∀ k, bt x1 k = true → bt y8_3 k = true := by exact g8_0
          exact g_ireturn (gd rfl) rfl rfl (hP _ _ ⟨y8_3, rfl, rfl, in_w (-2147483648) 2147483647 (i_rng y8_3) rfl, n63⟩)
        · skip
          refine g_aload_n 21 (gd rfl) rfl rfl ?_
          refine g_iload 23 (gd rfl) rfl rfl ?_
          refine g_calls (As := [.int y8_4]) (r := [.ref (A 39)]) 26 (gd rfl) rfl rfl rfl rfl rfl (Nat.le_of_ble_eq_true rfl) (Nat.zero_le _) (Nat.zero_le _) (k_264n (by first | exact dq1 hd rfl | exact dq0 hd rfl | exact dq2 hd rfl | exact dq3 hd rfl | omega) c17) (fun v u h => ?_)
          obtain ⟨z23, rfl, rfl, i23, hb23, hl23⟩ := h
          show GG _ _ _ _ _ _ _ _ [.int z23, .ref (A 39)] _ _ _
          refine g_iaload 27 (gd rfl) rfl (n := 32) rfl (in_ix i23 rfl) (fun z26 e26 => ?_)
          refine g_iload_n 28 (gd rfl) rfl rfl ?_
          refine g_iand 29 (gd rfl) rfl (fun z28 e28 => ?_)
          refine g_iload_n 30 (gd rfl) rfl rfl ?_
          refine g_iconst (-1) 31 (gd rfl) rfl rfl ?_
          refine g_ixor 32 (gd rfl) rfl (fun z31 e31 => ?_)
          refine g_iand 33 (gd rfl) rfl (fun z32 e32 => ?_)
          refine g_istore 35 (gd rfl) rfl (Nat.le_of_ble_eq_true rfl) ?_
          refine g_iload 37 (gd rfl) rfl rfl ?_
          refine g_iload 39 (gd rfl) rfl rfl ?_
          refine g_iconst 1 40 (gd rfl) rfl rfl ?_
          refine g_isub 41 (gd rfl) rfl (fun z40 e40 => ?_)
          refine g_iand 42 (gd rfl) rfl (fun z41 e41 => ?_)
          refine g_istore 44 (gd rfl) rfl (Nat.le_of_ble_eq_true rfl) ?_
          refine g_iload 46 (gd rfl) rfl rfl ?_
          refine g_iload 48 (gd rfl) rfl rfl ?_
          refine g_ior 49 (gd rfl) rfl (fun z48 e48 => ?_)
          refine g_istore 51 (gd rfl) rfl (Nat.le_of_ble_eq_true rfl) ?_
          refine g_iload_n 52 (gd rfl) rfl rfl ?_
          refine g_iload 54 (gd rfl) rfl rfl ?_
          refine g_ior 55 (gd rfl) rfl (fun z54 e54 => ?_)
          refine g_istore_n 56 (gd rfl) rfl (Nat.le_of_ble_eq_true rfl) ?_
          refine g_iinc 59 (gd rfl) rfl rfl (Nat.le_of_ble_eq_true rfl) (fun z56 e56 => ?_)
          have i56 := in_add 1 32 e56 i12 (in_c 1 rfl) rfl rfl
          refine g_goto 8 (gd rfl) rfl ?_
          have n8 : ∀ k, bt x1 k = true → bt z54 k = true := by first | exact fun k h => h | exact fun k h => bt_orl e54 (g8_0 k h)
          exact gg_w (by first | exact Nat.le_add_right _ _ | exact gw2 | exact gw3 | exact gwe rfl | exact gwf rfl | exact gwg rfl | exact gwh rfl | omega) (gg_f (gf_cons rfl (gf_cons rfl (gf_cons rfl (gf_cons rfl (gf_cons rfl (gf_cons rfl gf_nil)))))) (ih8  z54 z48 z56  (in_w 0 32 i56 rfl) n8 (m_up mm8 (t_add e56 i12 (in_c 1 rfl) rfl) (in_w 1 1 (in_c 1 rfl) rfl))))
  refine g_enter2 (k := 266) (N := 30601) (by first | exact dq1 hd rfl | exact dq0 hd rfl | exact dq2 hd rfl | exact dq3 hd rfl | omega) rfl (Nat.le_of_ble_eq_true rfl) ?_
  refine g_iload_n 1 (gd rfl) rfl rfl ?_
  refine g_istore_n 2 (gd rfl) rfl (Nat.le_of_ble_eq_true rfl) ?_
  refine g_iload_n 3 (gd rfl) rfl rfl ?_
  refine g_istore 5 (gd rfl) rfl (Nat.le_of_ble_eq_true rfl) ?_
  refine g_iconst 0 6 (gd rfl) rfl rfl ?_
  refine g_istore 8 (gd rfl) rfl (Nat.le_of_ble_eq_true rfl) ?_
  have n8 : ∀ k, bt x1 k = true → bt x1 k = true := by first | exact fun k h => h | exact fun k h => bt_orl e54 (g8_0 k h)
  exact gg_w (by first | exact Nat.le_of_ble_eq_true rfl | omega) (gg_f (gf_cons rfl (gf_cons rfl (gf_cons rfl (gf_cons rfl (gf_cons rfl (gf_cons rfl gf_nil)))))) (ct8 33  x1 x1 (Int32.ofInt 0)  (in_w 0 32 (in_c 0 rfl) rfl) n8 (m_in 33 (in_w 0 32 (in_c 0 rfl) rfl) rfl)))

/-- GraphHouse.flood -/
theorem k_266_40 {Z : AmZ} {A : Nat → Nat} {s : GS} {ex : va_W} {d : Nat} {X : AmX} {x1 : Int32} {x2 : Int32} (hd : 4 ≤ d) (hI : Inv s) (h2 : In x2 (-1) (-1)) : GC Z d 266 [.ref (A 40), .int x1, .int x2] (WW Z A s ++ ex) 0 0 (fun v u => ∃ z : Int32, v = some (.int z) ∧ u = WW Z A s ++ ex ∧ In z (-2147483648) 2147483647 ∧ (∀ k, bt x1 k = true → bt z k = true)) X := by
  intro post xp hP hX
  have ct8 : ∀ (k8 : Nat) (y8_3 : Int32) (y8_4 : Int32) (y8_5 : Int32), (In y8_5 0 32) → (∀ k, bt x1 k = true → bt y8_3 k = true) → 32 - (y8_5).toInt < (k8 : Int) → GG Z (d - 1) 266 post (gx xp) (1 + k8 * 900) 8 (fun j => xlook j [(0, .ref (A 40)), (1, .int x1), (2, .int x2), (3, .int y8_3), (4, .int y8_4), (5, .int y8_5)]) [] (WW Z A s ++ ex) 0 0 := by
    intro k8
    induction k8 with
    | zero => intro y8_3 y8_4 y8_5 j8_5 g8_0 mm8; exact m_no mm8 j8_5 rfl
    | succ k8 ih8 =>
      intro y8_3 y8_4 y8_5 j8_5 g8_0 mm8
      refine gg_w (M := 1 + k8 * 900 + 900) gws ?_
      refine g_iload 10 (gd rfl) rfl rfl ?_
      refine g_bipush 32 12 (gd rfl) rfl rfl ?_
      refine g_cmp_ge 15 62 (gd rfl) rfl rfl (fun c12 => ?_) (fun c12 => ?_)
      · skip
        have i12 := r_le2 32 32 c12 (in_c 32 rfl) j8_5 rfl
        refine g_iload_n 63 (gd rfl) rfl rfl ?_
        have n63 : ∀ k, bt x1 k = true → bt y8_3 k = true := by exact g8_0
        exact g_ireturn (gd rfl) rfl rfl (hP _ _ ⟨y8_3, rfl, rfl, in_w (-2147483648) 2147483647 (i_rng y8_3) rfl, n63⟩)
      · skip
        have i12 := r_lt1 0 31 c12 j8_5 (in_c 32 rfl) rfl
        refine g_iload 17 (gd rfl) rfl rfl ?_
        refine g_if_eq 20 62 (gd rfl) rfl rfl (fun c17 => ?_) (fun c17 => ?_)
        · skip
          have i17 := z_eq 0 0 c17 (i_rng y8_4) rfl
          refine g_iload_n 63 (gd rfl) rfl rfl ?_
          have n63 : ∀ k, bt x1 k = true → bt y8_3 k = true := by exact g8_0
          exact g_ireturn (gd rfl) rfl rfl (hP _ _ ⟨y8_3, rfl, rfl, in_w (-2147483648) 2147483647 (i_rng y8_3) rfl, n63⟩)
        · skip
          refine g_aload_n 21 (gd rfl) rfl rfl ?_
          refine g_iload 23 (gd rfl) rfl rfl ?_
          refine g_calls (As := [.int y8_4]) (r := [.ref (A 40)]) 26 (gd rfl) rfl rfl rfl rfl rfl (Nat.le_of_ble_eq_true rfl) (Nat.zero_le _) (Nat.zero_le _) (k_264n (by first | exact dq1 hd rfl | exact dq0 hd rfl | exact dq2 hd rfl | exact dq3 hd rfl | omega) c17) (fun v u h => ?_)
          obtain ⟨z23, rfl, rfl, i23, hb23, hl23⟩ := h
          show GG _ _ _ _ _ _ _ _ [.int z23, .ref (A 40)] _ _ _
          refine g_iaload 27 (gd rfl) rfl (n := 32) rfl (in_ix i23 rfl) (fun z26 e26 => ?_)
          refine g_iload_n 28 (gd rfl) rfl rfl ?_
          refine g_iand 29 (gd rfl) rfl (fun z28 e28 => ?_)
          refine g_iload_n 30 (gd rfl) rfl rfl ?_
          refine g_iconst (-1) 31 (gd rfl) rfl rfl ?_
          refine g_ixor 32 (gd rfl) rfl (fun z31 e31 => ?_)
          refine g_iand 33 (gd rfl) rfl (fun z32 e32 => ?_)
          refine g_istore 35 (gd rfl) rfl (Nat.le_of_ble_eq_true rfl) ?_
          refine g_iload 37 (gd rfl) rfl rfl ?_
          refine g_iload 39 (gd rfl) rfl rfl ?_
          refine g_iconst 1 40 (gd rfl) rfl rfl ?_
          refine g_isub 41 (gd rfl) rfl (fun z40 e40 => ?_)
          refine g_iand 42 (gd rfl) rfl (fun z41 e41 => ?_)
          refine g_istore 44 (gd rfl) rfl (Nat.le_of_ble_eq_true rfl) ?_
          refine g_iload 46 (gd rfl) rfl rfl ?_
          refine g_iload 48 (gd rfl) rfl rfl ?_
          refine g_ior 49 (gd rfl) rfl (fun z48 e48 => ?_)
          refine g_istore 51 (gd rfl) rfl (Nat.le_of_ble_eq_true rfl) ?_
          refine g_iload_n 52 (gd rfl) rfl rfl ?_
          refine g_iload 54 (gd rfl) rfl rfl ?_
          refine g_ior 55 (gd rfl) rfl (fun z54 e54 => ?_)
          refine g_istore_n 56 (gd rfl) rfl (Nat.le_of_ble_eq_true rfl) ?_
          refine g_iinc 59 (gd rfl) rfl rfl (Nat.le_of_ble_eq_true rfl) (fun z56 e56 => ?_)
          have i56 := in_add 1 32 e56 i12 (in_c 1 rfl) rfl rfl
          refine g_goto 8 (gd rfl) rfl ?_
          have n8 : ∀ k, bt x1 k = true → bt z54 k = true := by first | exact fun k h => h | exact fun k h => bt_orl e54 (g8_0 k h)
          exact gg_w (by first | exact Nat.le_add_right _ _ | exact gw2 | exact gw3 | exact gwe rfl | exact gwf rfl | exact gwg rfl | exact gwh rfl | omega) (gg_f (gf_cons rfl (gf_cons rfl (gf_cons rfl (gf_cons rfl (gf_cons rfl (gf_cons rfl gf_nil)))))) (ih8  z54 z48 z56  (in_w 0 32 i56 rfl) n8 (m_up mm8 (t_add e56 i12 (in_c 1 rfl) rfl) (in_w 1 1 (in_c 1 rfl) rfl))))
  refine g_enter2 (k := 266) (N := 30601) (by first | exact dq1 hd rfl | exact dq0 hd rfl | exact dq2 hd rfl | exact dq3 hd rfl | omega) rfl (Nat.le_of_ble_eq_true rfl) ?_
  refine g_iload_n 1 (gd rfl) rfl rfl ?_
  refine g_istore_n 2 (gd rfl) rfl (Nat.le_of_ble_eq_true rfl) ?_
  refine g_iload_n 3 (gd rfl) rfl rfl ?_
  refine g_istore 5 (gd rfl) rfl (Nat.le_of_ble_eq_true rfl) ?_
  refine g_iconst 0 6 (gd rfl) rfl rfl ?_
  refine g_istore 8 (gd rfl) rfl (Nat.le_of_ble_eq_true rfl) ?_
  have n8 : ∀ k, bt x1 k = true → bt x1 k = true := by first | exact fun k h => h | exact fun k h => bt_orl e54 (g8_0 k h)
  exact gg_w (by first | exact Nat.le_of_ble_eq_true rfl | omega) (gg_f (gf_cons rfl (gf_cons rfl (gf_cons rfl (gf_cons rfl (gf_cons rfl (gf_cons rfl gf_nil)))))) (ct8 33  x1 x1 (Int32.ofInt 0)  (in_w 0 32 (in_c 0 rfl) rfl) n8 (m_in 33 (in_w 0 32 (in_c 0 rfl) rfl) rfl)))

/-- GraphHouse.flood -/
theorem k_266_41 {Z : AmZ} {A : Nat → Nat} {s : GS} {ex : va_W} {d : Nat} {X : AmX} {x1 : Int32} {x2 : Int32} (hd : 4 ≤ d) (hI : Inv s) (h2 : In x2 (-1) (-1)) : GC Z d 266 [.ref (A 41), .int x1, .int x2] (WW Z A s ++ ex) 0 0 (fun v u => ∃ z : Int32, v = some (.int z) ∧ u = WW Z A s ++ ex ∧ In z (-2147483648) 2147483647 ∧ (∀ k, bt x1 k = true → bt z k = true)) X := by
  intro post xp hP hX
  have ct8 : ∀ (k8 : Nat) (y8_3 : Int32) (y8_4 : Int32) (y8_5 : Int32), (In y8_5 0 32) → (∀ k, bt x1 k = true → bt y8_3 k = true) → 32 - (y8_5).toInt < (k8 : Int) → GG Z (d - 1) 266 post (gx xp) (1 + k8 * 900) 8 (fun j => xlook j [(0, .ref (A 41)), (1, .int x1), (2, .int x2), (3, .int y8_3), (4, .int y8_4), (5, .int y8_5)]) [] (WW Z A s ++ ex) 0 0 := by
    intro k8
    induction k8 with
    | zero => intro y8_3 y8_4 y8_5 j8_5 g8_0 mm8; exact m_no mm8 j8_5 rfl
    | succ k8 ih8 =>
      intro y8_3 y8_4 y8_5 j8_5 g8_0 mm8
      refine gg_w (M := 1 + k8 * 900 + 900) gws ?_
      refine g_iload 10 (gd rfl) rfl rfl ?_
      refine g_bipush 32 12 (gd rfl) rfl rfl ?_
      refine g_cmp_ge 15 62 (gd rfl) rfl rfl (fun c12 => ?_) (fun c12 => ?_)
      · skip
        have i12 := r_le2 32 32 c12 (in_c 32 rfl) j8_5 rfl
        refine g_iload_n 63 (gd rfl) rfl rfl ?_
        have n63 : ∀ k, bt x1 k = true → bt y8_3 k = true := by exact g8_0
        exact g_ireturn (gd rfl) rfl rfl (hP _ _ ⟨y8_3, rfl, rfl, in_w (-2147483648) 2147483647 (i_rng y8_3) rfl, n63⟩)
      · skip
        have i12 := r_lt1 0 31 c12 j8_5 (in_c 32 rfl) rfl
        refine g_iload 17 (gd rfl) rfl rfl ?_
        refine g_if_eq 20 62 (gd rfl) rfl rfl (fun c17 => ?_) (fun c17 => ?_)
        · skip
          have i17 := z_eq 0 0 c17 (i_rng y8_4) rfl
          refine g_iload_n 63 (gd rfl) rfl rfl ?_
          have n63 : ∀ k, bt x1 k = true → bt y8_3 k = true := by exact g8_0
          exact g_ireturn (gd rfl) rfl rfl (hP _ _ ⟨y8_3, rfl, rfl, in_w (-2147483648) 2147483647 (i_rng y8_3) rfl, n63⟩)
        · skip
          refine g_aload_n 21 (gd rfl) rfl rfl ?_
          refine g_iload 23 (gd rfl) rfl rfl ?_
          refine g_calls (As := [.int y8_4]) (r := [.ref (A 41)]) 26 (gd rfl) rfl rfl rfl rfl rfl (Nat.le_of_ble_eq_true rfl) (Nat.zero_le _) (Nat.zero_le _) (k_264n (by first | exact dq1 hd rfl | exact dq0 hd rfl | exact dq2 hd rfl | exact dq3 hd rfl | omega) c17) (fun v u h => ?_)
          obtain ⟨z23, rfl, rfl, i23, hb23, hl23⟩ := h
          show GG _ _ _ _ _ _ _ _ [.int z23, .ref (A 41)] _ _ _
          refine g_iaload 27 (gd rfl) rfl (n := 32) rfl (in_ix i23 rfl) (fun z26 e26 => ?_)
          refine g_iload_n 28 (gd rfl) rfl rfl ?_
          refine g_iand 29 (gd rfl) rfl (fun z28 e28 => ?_)
          refine g_iload_n 30 (gd rfl) rfl rfl ?_
          refine g_iconst (-1) 31 (gd rfl) rfl rfl ?_
          refine g_ixor 32 (gd rfl) rfl (fun z31 e31 => ?_)
          refine g_iand 33 (gd rfl) rfl (fun z32 e32 => ?_)
          refine g_istore 35 (gd rfl) rfl (Nat.le_of_ble_eq_true rfl) ?_
          refine g_iload 37 (gd rfl) rfl rfl ?_
          refine g_iload 39 (gd rfl) rfl rfl ?_
          refine g_iconst 1 40 (gd rfl) rfl rfl ?_
          refine g_isub 41 (gd rfl) rfl (fun z40 e40 => ?_)
          refine g_iand 42 (gd rfl) rfl (fun z41 e41 => ?_)
          refine g_istore 44 (gd rfl) rfl (Nat.le_of_ble_eq_true rfl) ?_
          refine g_iload 46 (gd rfl) rfl rfl ?_
          refine g_iload 48 (gd rfl) rfl rfl ?_
          refine g_ior 49 (gd rfl) rfl (fun z48 e48 => ?_)
          refine g_istore 51 (gd rfl) rfl (Nat.le_of_ble_eq_true rfl) ?_
          refine g_iload_n 52 (gd rfl) rfl rfl ?_
          refine g_iload 54 (gd rfl) rfl rfl ?_
          refine g_ior 55 (gd rfl) rfl (fun z54 e54 => ?_)
          refine g_istore_n 56 (gd rfl) rfl (Nat.le_of_ble_eq_true rfl) ?_
          refine g_iinc 59 (gd rfl) rfl rfl (Nat.le_of_ble_eq_true rfl) (fun z56 e56 => ?_)
          have i56 := in_add 1 32 e56 i12 (in_c 1 rfl) rfl rfl
          refine g_goto 8 (gd rfl) rfl ?_
          have n8 : ∀ k, bt x1 k = true → bt z54 k = true := by first | exact fun k h => h | exact fun k h => bt_orl e54 (g8_0 k h)
          exact gg_w (by first | exact Nat.le_add_right _ _ | exact gw2 | exact gw3 | exact gwe rfl | exact gwf rfl | exact gwg rfl | exact gwh rfl | omega) (gg_f (gf_cons rfl (gf_cons rfl (gf_cons rfl (gf_cons rfl (gf_cons rfl (gf_cons rfl gf_nil)))))) (ih8  z54 z48 z56  (in_w 0 32 i56 rfl) n8 (m_up mm8 (t_add e56 i12 (in_c 1 rfl) rfl) (in_w 1 1 (in_c 1 rfl) rfl))))
  refine g_enter2 (k := 266) (N := 30601) (by first | exact dq1 hd rfl | exact dq0 hd rfl | exact dq2 hd rfl | exact dq3 hd rfl | omega) rfl (Nat.le_of_ble_eq_true rfl) ?_
  refine g_iload_n 1 (gd rfl) rfl rfl ?_
  refine g_istore_n 2 (gd rfl) rfl (Nat.le_of_ble_eq_true rfl) ?_
  refine g_iload_n 3 (gd rfl) rfl rfl ?_
  refine g_istore 5 (gd rfl) rfl (Nat.le_of_ble_eq_true rfl) ?_
  refine g_iconst 0 6 (gd rfl) rfl rfl ?_
  refine g_istore 8 (gd rfl) rfl (Nat.le_of_ble_eq_true rfl) ?_
  have n8 : ∀ k, bt x1 k = true → bt x1 k = true := by first | exact fun k h => h | exact fun k h => bt_orl e54 (g8_0 k h)
  exact gg_w (by first | exact Nat.le_of_ble_eq_true rfl | omega) (gg_f (gf_cons rfl (gf_cons rfl (gf_cons rfl (gf_cons rfl (gf_cons rfl (gf_cons rfl gf_nil)))))) (ct8 33  x1 x1 (Int32.ofInt 0)  (in_w 0 32 (in_c 0 rfl) rfl) n8 (m_in 33 (in_w 0 32 (in_c 0 rfl) rfl) rfl)))

/-- GraphHouse.flood -/
theorem k_266_84 {Z : AmZ} {A : Nat → Nat} {s : GS} {ex : va_W} {d : Nat} {X : AmX} {x1 : Int32} {x2 : Int32} (hd : 4 ≤ d) (hI : Inv s) (h2 : In x2 (-1) (-1)) : GC Z d 266 [.ref (A 84), .int x1, .int x2] (WW Z A s ++ ex) 0 0 (fun v u => ∃ z : Int32, v = some (.int z) ∧ u = WW Z A s ++ ex ∧ In z (-2147483648) 2147483647 ∧ (∀ k, bt x1 k = true → bt z k = true)) X := by
  intro post xp hP hX
  have ct8 : ∀ (k8 : Nat) (y8_3 : Int32) (y8_4 : Int32) (y8_5 : Int32), (In y8_5 0 32) → (∀ k, bt x1 k = true → bt y8_3 k = true) → 32 - (y8_5).toInt < (k8 : Int) → GG Z (d - 1) 266 post (gx xp) (1 + k8 * 900) 8 (fun j => xlook j [(0, .ref (A 84)), (1, .int x1), (2, .int x2), (3, .int y8_3), (4, .int y8_4), (5, .int y8_5)]) [] (WW Z A s ++ ex) 0 0 := by
    intro k8
    induction k8 with
    | zero => intro y8_3 y8_4 y8_5 j8_5 g8_0 mm8; exact m_no mm8 j8_5 rfl
    | succ k8 ih8 =>
      intro y8_3 y8_4 y8_5 j8_5 g8_0 mm8
      refine gg_w (M := 1 + k8 * 900 + 900) gws ?_
      refine g_iload 10 (gd rfl) rfl rfl ?_
      refine g_bipush 32 12 (gd rfl) rfl rfl ?_
      refine g_cmp_ge 15 62 (gd rfl) rfl rfl (fun c12 => ?_) (fun c12 => ?_)
      · skip
        have i12 := r_le2 32 32 c12 (in_c 32 rfl) j8_5 rfl
        refine g_iload_n 63 (gd rfl) rfl rfl ?_
        have n63 : ∀ k, bt x1 k = true → bt y8_3 k = true := by exact g8_0
        exact g_ireturn (gd rfl) rfl rfl (hP _ _ ⟨y8_3, rfl, rfl, in_w (-2147483648) 2147483647 (i_rng y8_3) rfl, n63⟩)
      · skip
        have i12 := r_lt1 0 31 c12 j8_5 (in_c 32 rfl) rfl
        refine g_iload 17 (gd rfl) rfl rfl ?_
        refine g_if_eq 20 62 (gd rfl) rfl rfl (fun c17 => ?_) (fun c17 => ?_)
        · skip
          have i17 := z_eq 0 0 c17 (i_rng y8_4) rfl
          refine g_iload_n 63 (gd rfl) rfl rfl ?_
          have n63 : ∀ k, bt x1 k = true → bt y8_3 k = true := by exact g8_0
          exact g_ireturn (gd rfl) rfl rfl (hP _ _ ⟨y8_3, rfl, rfl, in_w (-2147483648) 2147483647 (i_rng y8_3) rfl, n63⟩)
        · skip
          refine g_aload_n 21 (gd rfl) rfl rfl ?_
          refine g_iload 23 (gd rfl) rfl rfl ?_
          refine g_calls (As := [.int y8_4]) (r := [.ref (A 84)]) 26 (gd rfl) rfl rfl rfl rfl rfl (Nat.le_of_ble_eq_true rfl) (Nat.zero_le _) (Nat.zero_le _) (k_264n (by first | exact dq1 hd rfl | exact dq0 hd rfl | exact dq2 hd rfl | exact dq3 hd rfl | omega) c17) (fun v u h => ?_)
          obtain ⟨z23, rfl, rfl, i23, hb23, hl23⟩ := h
          show GG _ _ _ _ _ _ _ _ [.int z23, .ref (A 84)] _ _ _
          refine g_iaload 27 (gd rfl) rfl (n := 32) rfl (in_ix i23 rfl) (fun z26 e26 => ?_)
          refine g_iload_n 28 (gd rfl) rfl rfl ?_
          refine g_iand 29 (gd rfl) rfl (fun z28 e28 => ?_)
          refine g_iload_n 30 (gd rfl) rfl rfl ?_
          refine g_iconst (-1) 31 (gd rfl) rfl rfl ?_
          refine g_ixor 32 (gd rfl) rfl (fun z31 e31 => ?_)
          refine g_iand 33 (gd rfl) rfl (fun z32 e32 => ?_)
          refine g_istore 35 (gd rfl) rfl (Nat.le_of_ble_eq_true rfl) ?_
          refine g_iload 37 (gd rfl) rfl rfl ?_
          refine g_iload 39 (gd rfl) rfl rfl ?_
          refine g_iconst 1 40 (gd rfl) rfl rfl ?_
          refine g_isub 41 (gd rfl) rfl (fun z40 e40 => ?_)
          refine g_iand 42 (gd rfl) rfl (fun z41 e41 => ?_)
          refine g_istore 44 (gd rfl) rfl (Nat.le_of_ble_eq_true rfl) ?_
          refine g_iload 46 (gd rfl) rfl rfl ?_
          refine g_iload 48 (gd rfl) rfl rfl ?_
          refine g_ior 49 (gd rfl) rfl (fun z48 e48 => ?_)
          refine g_istore 51 (gd rfl) rfl (Nat.le_of_ble_eq_true rfl) ?_
          refine g_iload_n 52 (gd rfl) rfl rfl ?_
          refine g_iload 54 (gd rfl) rfl rfl ?_
          refine g_ior 55 (gd rfl) rfl (fun z54 e54 => ?_)
          refine g_istore_n 56 (gd rfl) rfl (Nat.le_of_ble_eq_true rfl) ?_
          refine g_iinc 59 (gd rfl) rfl rfl (Nat.le_of_ble_eq_true rfl) (fun z56 e56 => ?_)
          have i56 := in_add 1 32 e56 i12 (in_c 1 rfl) rfl rfl
          refine g_goto 8 (gd rfl) rfl ?_
          have n8 : ∀ k, bt x1 k = true → bt z54 k = true := by first | exact fun k h => h | exact fun k h => bt_orl e54 (g8_0 k h)
          exact gg_w (by first | exact Nat.le_add_right _ _ | exact gw2 | exact gw3 | exact gwe rfl | exact gwf rfl | exact gwg rfl | exact gwh rfl | omega) (gg_f (gf_cons rfl (gf_cons rfl (gf_cons rfl (gf_cons rfl (gf_cons rfl (gf_cons rfl gf_nil)))))) (ih8  z54 z48 z56  (in_w 0 32 i56 rfl) n8 (m_up mm8 (t_add e56 i12 (in_c 1 rfl) rfl) (in_w 1 1 (in_c 1 rfl) rfl))))
  refine g_enter2 (k := 266) (N := 30601) (by first | exact dq1 hd rfl | exact dq0 hd rfl | exact dq2 hd rfl | exact dq3 hd rfl | omega) rfl (Nat.le_of_ble_eq_true rfl) ?_
  refine g_iload_n 1 (gd rfl) rfl rfl ?_
  refine g_istore_n 2 (gd rfl) rfl (Nat.le_of_ble_eq_true rfl) ?_
  refine g_iload_n 3 (gd rfl) rfl rfl ?_
  refine g_istore 5 (gd rfl) rfl (Nat.le_of_ble_eq_true rfl) ?_
  refine g_iconst 0 6 (gd rfl) rfl rfl ?_
  refine g_istore 8 (gd rfl) rfl (Nat.le_of_ble_eq_true rfl) ?_
  have n8 : ∀ k, bt x1 k = true → bt x1 k = true := by first | exact fun k h => h | exact fun k h => bt_orl e54 (g8_0 k h)
  exact gg_w (by first | exact Nat.le_of_ble_eq_true rfl | omega) (gg_f (gf_cons rfl (gf_cons rfl (gf_cons rfl (gf_cons rfl (gf_cons rfl (gf_cons rfl gf_nil)))))) (ct8 33  x1 x1 (Int32.ofInt 0)  (in_w 0 32 (in_c 0 rfl) rfl) n8 (m_in 33 (in_w 0 32 (in_c 0 rfl) rfl) rfl)))
end
section
/-! methods, by vc.py -/
def fm_275 : FM := ([110, 111, 112, 113, 114, 115, 116, 117], [], [], [])
def fm_276 : FM := ([], [], [(109, 18), (109, 19), (109, 20)], [])
/-- GraphHouseModel.freePlace -/
theorem k_280 {Z : AmZ} {A : Nat → Nat} {s : GS} {ex : va_W} {d : Nat} {X : AmX} {x1 : Int32} (hd : 1 ≤ d) (hI : Inv s) (h1 : In x1 0 2) : GC Z d 280 [.ref (A 109), .int x1] (WW Z A s ++ ex) 0 0 (fun v u => ∃ z : Int32, v = some (.int z) ∧ u = WW Z A s ++ ex ∧ In z 0 160 ∧ ((z).toNatClampNeg = fpl (thg s (160 * (x1).toNatClampNeg)))) X := by
  intro post xp hP hX
  have ct2 : ∀ (k2 : Nat) (y2_2 : Int32), (In y2_2 0 160) → (∀ i : Nat, (i : Int) < (y2_2).toInt → (s.1 112 (160 * (x1).toNatClampNeg + i)).toInt ≠ 0) → 160 - (y2_2).toInt < (k2 : Int) → GG Z (d - 1) 280 post (gx xp) (1 + k2 * 900) 2 (fun j => xlook j [(0, .ref (A 109)), (1, .int x1), (2, .int y2_2)]) [] (WW Z A s ++ ex) 0 0 := by
    intro k2
    induction k2 with
    | zero => intro y2_2 j2_2 g2_0 mm2; exact m_no mm2 j2_2 rfl
    | succ k2 ih2 =>
      intro y2_2 j2_2 g2_0 mm2
      refine gg_w (M := 1 + k2 * 900 + 900) gws ?_
      refine g_iload_n 3 (gd rfl) rfl rfl ?_
      refine g_sipush 160 6 (gd rfl) rfl rfl ?_
      refine g_cmp_ge 9 30 (gd rfl) rfl rfl (fun c6 => ?_) (fun c6 => ?_)
      · skip
        have i6 := r_le2 160 160 c6 (in_c 160 rfl) j2_2 rfl
        refine g_iload_n 31 (gd rfl) rfl rfl ?_
        have n31 : (y2_2).toNatClampNeg = fpl (thg s (160 * (x1).toNatClampNeg)) := by exact (fpl_eq (r := y2_2.toNatClampNeg) (by show y2_2.toInt.toNat ≤ 160; (first | have a0 := oa2 h1 i6 | ((first | have a0 := in_u h1 | (have a0 := h1; unfold In at a0)); (first | have a1 := in_u i6 | (have a1 := i6; unfold In at a1)))); (first | exact zt_u (by omega) | omega)) (fun i hi => decide_eq_true (g2_0 i (by have e2 : y2_2.toNatClampNeg = y2_2.toInt.toNat := rfl; (first | have a0 := oa2 h1 i6 | ((first | have a0 := in_u h1 | (have a0 := h1; unfold In at a0)); (first | have a1 := in_u i6 | (have a1 := i6; unfold In at a1)))); omega))) (fun hlt => by first | (exfalso; have e2 : y2_2.toNatClampNeg = y2_2.toInt.toNat := rfl; (first | have a0 := oa2 h1 i6 | ((first | have a0 := in_u h1 | (have a0 := h1; unfold In at a0)); (first | have a1 := in_u i6 | (have a1 := i6; unfold In at a1)))); omega) | (refine decide_eq_false (fun z => z ?_); rw [show 160 * x1.toNatClampNeg + y2_2.toNatClampNeg = z19.toNatClampNeg from (by show 160 * x1.toInt.toNat + y2_2.toInt.toNat = z19.toInt.toNat; (first | have a0 := oa2 h1 i6 | ((first | have a0 := in_u h1 | (have a0 := h1; unfold In at a0)); (first | have a1 := in_u i6 | (have a1 := i6; unfold In at a1)))); omega), ← e20]; exact c21))).symm
        exact g_ireturn (gd rfl) rfl rfl (hP _ _ ⟨y2_2, rfl, rfl, in_w 0 160 i6 rfl, n31⟩)
      · skip
        have i6 := r_lt1 0 159 c6 j2_2 (in_c 160 rfl) rfl
        refine g_aload_n 10 (gd rfl) rfl rfl ?_
        refine g_getA (q2 := 112) 13 (gd rfl) rfl rfl rfl rfl ?_
        refine g_sipush 160 16 (gd rfl) rfl rfl ?_
        refine g_iload_n 17 (gd rfl) rfl rfl ?_
        refine g_imul 18 (gd rfl) rfl (fun z17 e17 => ?_)
        have i17 := in_mulc 160 0 320 (Or.inl e17) h1 rfl rfl
        refine g_iload_n 19 (gd rfl) rfl rfl ?_
        refine g_iadd 20 (gd rfl) rfl (fun z19 e19 => ?_)
        have i19 := in_add 0 479 e19 i17 i6 rfl rfl
        refine g_baload 21 (gd rfl) rfl (n := 480) rfl (in_ix i19 rfl) (fun z20 e20 => ?_)
        have i20 := inv_I hI (n := 480) (t := 3) 0 1 rfl (in_ix i19 rfl) rfl e20
        refine g_if_eq 24 30 (gd rfl) rfl rfl (fun c21 => ?_) (fun c21 => ?_)
        · skip
          have i21 := z_eq 0 0 c21 i20 rfl
          refine g_iload_n 31 (gd rfl) rfl rfl ?_
          have n31 : (y2_2).toNatClampNeg = fpl (thg s (160 * (x1).toNatClampNeg)) := by exact (fpl_eq (r := y2_2.toNatClampNeg) (by show y2_2.toInt.toNat ≤ 160; (first | have a0 := oa3 h1 i6 i19 | ((first | have a0 := in_u h1 | (have a0 := h1; unfold In at a0)); (first | have a1 := in_u i6 | (have a1 := i6; unfold In at a1)); (first | have a2 := in_u i19 | (have a2 := i19; unfold In at a2)))); have a3 := t_add e19 i17 i6 rfl; (first | have a4 := in_u i17 | (have a4 := i17; unfold In at a4)); have a5 := (t_mulc 160 (Or.inl e17) h1 rfl).1; (first | exact zt_u (by omega) | omega)) (fun i hi => decide_eq_true (g2_0 i (by have e2 : y2_2.toNatClampNeg = y2_2.toInt.toNat := rfl; (first | have a0 := oa3 h1 i6 i19 | ((first | have a0 := in_u h1 | (have a0 := h1; unfold In at a0)); (first | have a1 := in_u i6 | (have a1 := i6; unfold In at a1)); (first | have a2 := in_u i19 | (have a2 := i19; unfold In at a2)))); have a3 := t_add e19 i17 i6 rfl; (first | have a4 := in_u i17 | (have a4 := i17; unfold In at a4)); have a5 := (t_mulc 160 (Or.inl e17) h1 rfl).1; omega))) (fun hlt => by first | (exfalso; have e2 : y2_2.toNatClampNeg = y2_2.toInt.toNat := rfl; (first | have a0 := oa3 h1 i6 i19 | ((first | have a0 := in_u h1 | (have a0 := h1; unfold In at a0)); (first | have a1 := in_u i6 | (have a1 := i6; unfold In at a1)); (first | have a2 := in_u i19 | (have a2 := i19; unfold In at a2)))); have a3 := t_add e19 i17 i6 rfl; (first | have a4 := in_u i17 | (have a4 := i17; unfold In at a4)); have a5 := (t_mulc 160 (Or.inl e17) h1 rfl).1; omega) | (refine decide_eq_false (fun z => z ?_); rw [show 160 * x1.toNatClampNeg + y2_2.toNatClampNeg = z19.toNatClampNeg from (by show 160 * x1.toInt.toNat + y2_2.toInt.toNat = z19.toInt.toNat; (first | have a0 := oa3 h1 i6 i19 | ((first | have a0 := in_u h1 | (have a0 := h1; unfold In at a0)); (first | have a1 := in_u i6 | (have a1 := i6; unfold In at a1)); (first | have a2 := in_u i19 | (have a2 := i19; unfold In at a2)))); have a3 := t_add e19 i17 i6 rfl; (first | have a4 := in_u i17 | (have a4 := i17; unfold In at a4)); have a5 := (t_mulc 160 (Or.inl e17) h1 rfl).1; omega), ← e20]; exact c21))).symm
          exact g_ireturn (gd rfl) rfl rfl (hP _ _ ⟨y2_2, rfl, rfl, in_w 0 160 i6 rfl, n31⟩)
        · skip
          have i21 := z_ne 1 1 c21 i20 rfl
          refine g_iinc 27 (gd rfl) rfl rfl (Nat.le_of_ble_eq_true rfl) (fun z24 e24 => ?_)
          have i24 := in_add 1 160 e24 i6 (in_c 1 rfl) rfl rfl
          refine g_goto 2 (gd rfl) rfl ?_
          have n2 : ∀ i : Nat, (i : Int) < (z24).toInt → (s.1 112 (160 * (x1).toNatClampNeg + i)).toInt ≠ 0 := by (intro i hi; have e2 : y2_2.toNatClampNeg = y2_2.toInt.toNat := rfl; by_cases c : i = y2_2.toNatClampNeg; (rw [c, show 160 * x1.toNatClampNeg + y2_2.toNatClampNeg = z19.toNatClampNeg from (by show 160 * x1.toInt.toNat + y2_2.toInt.toNat = z19.toInt.toNat; (first | have a0 := oa3 h1 i6 i24 | ((first | have a0 := in_u h1 | (have a0 := h1; unfold In at a0)); (first | have a1 := in_u i6 | (have a1 := i6; unfold In at a1)); (first | have a2 := in_u i24 | (have a2 := i24; unfold In at a2)))); have a3 := t_add e24 i6 (in_c 1 rfl) rfl; (first | have a4 := oa2 ((in_c 1 rfl)) i19 | ((first | have a4 := in_u ((in_c 1 rfl)) | (have a4 := (in_c 1 rfl); unfold In at a4)); (first | have a5 := in_u i19 | (have a5 := i19; unfold In at a5)))); have a6 := t_add e19 i17 i6 rfl; (first | have a7 := in_u i17 | (have a7 := i17; unfold In at a7)); have a8 := (t_mulc 160 (Or.inl e17) h1 rfl).1; omega), ← e20]; exact c21); exact g2_0 i (by (first | have a0 := oa3 h1 i6 i24 | ((first | have a0 := in_u h1 | (have a0 := h1; unfold In at a0)); (first | have a1 := in_u i6 | (have a1 := i6; unfold In at a1)); (first | have a2 := in_u i24 | (have a2 := i24; unfold In at a2)))); have a3 := t_add e24 i6 (in_c 1 rfl) rfl; (first | have a4 := oa2 ((in_c 1 rfl)) i19 | ((first | have a4 := in_u ((in_c 1 rfl)) | (have a4 := (in_c 1 rfl); unfold In at a4)); (first | have a5 := in_u i19 | (have a5 := i19; unfold In at a5)))); have a6 := t_add e19 i17 i6 rfl; (first | have a7 := in_u i17 | (have a7 := i17; unfold In at a7)); have a8 := (t_mulc 160 (Or.inl e17) h1 rfl).1; omega))
          exact gg_w (by first | exact Nat.le_add_right _ _ | exact gw2 | exact gw3 | exact gwe rfl | exact gwf rfl | exact gwg rfl | exact gwh rfl | omega) (gg_f (gf_cons rfl (gf_cons rfl (gf_cons rfl gf_nil))) (ih2  z24  (in_w 0 160 i24 rfl) n2 (m_up mm2 (t_add e24 i6 (in_c 1 rfl) rfl) (in_w 1 1 (in_c 1 rfl) rfl))))
  refine g_enter2 (k := 280) (N := 145801) (by first | exact dq1 hd rfl | exact dq0 hd rfl | exact dq2 hd rfl | exact dq3 hd rfl | omega) rfl (Nat.le_of_ble_eq_true rfl) ?_
  refine g_iconst 0 1 (gd rfl) rfl rfl ?_
  refine g_istore_n 2 (gd rfl) rfl (Nat.le_of_ble_eq_true rfl) ?_
  have n2 : ∀ i : Nat, (i : Int) < ((Int32.ofInt 0)).toInt → (s.1 112 (160 * (x1).toNatClampNeg + i)).toInt ≠ 0 := by (intro i hi; exfalso; have h0 : (Int32.ofInt 0).toInt = 0 := rfl; omega)
  exact gg_w (by first | exact Nat.le_of_ble_eq_true rfl | omega) (gg_f (gf_cons rfl (gf_cons rfl (gf_cons rfl gf_nil))) (ct2 161  (Int32.ofInt 0)  (in_w 0 160 (in_c 0 rfl) rfl) n2 (m_in 161 (in_w 0 160 (in_c 0 rfl) rfl) rfl)))

def fm_286 : FM := ([110, 111, 112, 113, 114, 115, 116, 117], [], [(109, 0), (109, 17), (109, 18), (109, 19), (109, 20)], [])
def fm_287 : FM := ([], [], [(109, 0)], [])
def fm_289 : FM := ([], [], [(109, 0)], [])
/-- GraphHouseModel.size -/
theorem k_289 {Z : AmZ} {A : Nat → Nat} {s : GS} {ex : va_W} {d : Nat} {X : AmX} {x1 : Int32} (hd : 4 ≤ d) (hI : Inv s)  : GC Z d 289 [.ref (A 109), .int x1] (WW Z A s ++ ex) 0 0 (fun v u => ∃ t : GS, Inv t ∧ Fr fm_289 s t ∧ ∃ z : Int32, v = some (.int z) ∧ u = WW Z A t ++ ex ∧ In z (-1) 160) X := by
  intro post xp hP hX
  obtain ⟨u_109_19, e_109_19⟩ : ∃ w, w = s.2.2.1 109 19 := ⟨_, rfl⟩
  have ro_109_19 := inv_F hI 0 160 rfl e_109_19
  obtain ⟨u_109_20, e_109_20⟩ : ∃ w, w = s.2.2.1 109 20 := ⟨_, rfl⟩
  have ro_109_20 := inv_F hI 0 32 rfl e_109_20
  have ct28 : ∀ (k28 : Nat) (sc28 : GS) (y28_2 : Int32) (y28_3 : Int32) (y28_4 : Int32) (y28_5 : Int32), Inv sc28 → Fr fm_289 s sc28 → (In x1 0 3) → (In y28_2 0 160) → (In y28_3 0 160) → (In y28_4 (-1) 159) → (In y28_5 0 160) → ((y28_2).toInt ≤ (y28_5).toInt + 0) → ((y28_3).toInt ≤ (y28_5).toInt + 0) → 160 - (y28_5).toInt < (k28 : Int) → GG Z (d - 1) 289 post (gx xp) (1 + k28 * 900) 28 (fun j => xlook j [(0, .ref (A 109)), (1, .int x1), (2, .int y28_2), (3, .int y28_3), (4, .int y28_4), (5, .int y28_5)]) [] (WW Z A sc28 ++ ex) 0 0 := by
    intro k28
    induction k28 with
    | zero => intro sc28 y28_2 y28_3 y28_4 y28_5 hIc28 hFc28 j28_1 j28_2 j28_3 j28_4 j28_5 l28_2 l28_3 mm28; exact m_no mm28 j28_5 rfl
    | succ k28 ih28 =>
      intro sc28 y28_2 y28_3 y28_4 y28_5 hIc28 hFc28 j28_1 j28_2 j28_3 j28_4 j28_5 l28_2 l28_3 mm28
      refine gg_w (M := 1 + k28 * 900 + 900) gws ?_
      refine g_iload 30 (gd rfl) rfl rfl ?_
      refine g_sipush 160 33 (gd rfl) rfl rfl ?_
      refine g_cmp_ge 36 106 (gd rfl) rfl rfl (fun c33 => ?_) (fun c33 => ?_)
      · skip
        have i33 := r_le2 160 160 c33 (in_c 160 rfl) j28_5 rfl
        refine g_iload_n 107 (gd rfl) rfl rfl ?_
        refine g_if_ne 110 117 (gd rfl) rfl rfl (fun c107 => ?_) (fun c107 => ?_)
        · skip
          have i107 := z_ne 1 3 c107 j28_1 rfl
          refine g_iload_n 118 (gd rfl) rfl rfl ?_
          refine g_iconst 1 119 (gd rfl) rfl rfl ?_
          refine g_cmp_ne 122 126 (gd rfl) rfl rfl (fun c119 => ?_) (fun c119 => ?_)
          · skip
            have i119 := r_ne1 2 3 c119 i107 (in_c 1 rfl) rfl
            refine g_iload_n 127 (gd rfl) rfl rfl ?_
            refine g_iconst 2 128 (gd rfl) rfl rfl ?_
            refine g_cmp_ne 131 135 (gd rfl) rfl rfl (fun c128 => ?_) (fun c128 => ?_)
            · skip
              have i128 := r_ne1 3 3 c128 i119 (in_c 2 rfl) rfl
              refine g_iload 137 (gd rfl) rfl rfl ?_
              exact g_ireturn (gd rfl) rfl rfl (hP _ _ ⟨sc28, hIc28, hFc28, y28_4, rfl, rfl, in_w (-1) 160 j28_4 rfl⟩)
            · skip
              have i128 := r_eq1 2 2 c128 i119 (in_c 2 rfl) rfl
              refine g_iload_n 132 (gd rfl) rfl rfl ?_
              refine g_goto 137 (gd rfl) rfl ?_
              exact g_ireturn (gd rfl) rfl rfl (hP _ _ ⟨sc28, hIc28, hFc28, y28_3, rfl, rfl, in_w (-1) 160 j28_3 rfl⟩)
          · skip
            have i119 := r_eq1 1 1 c119 i107 (in_c 1 rfl) rfl
            refine g_iload_n 123 (gd rfl) rfl rfl ?_
            refine g_goto 137 (gd rfl) rfl ?_
            exact g_ireturn (gd rfl) rfl rfl (hP _ _ ⟨sc28, hIc28, hFc28, y28_2, rfl, rfl, in_w (-1) 160 j28_2 rfl⟩)
        · skip
          have i107 := z_eq 0 0 c107 j28_1 rfl
          refine g_aload_n 111 (gd rfl) rfl rfl ?_
          refine g_getI 114 (gd rfl) rfl rfl rfl (fun z111 e111 => ?_)
          have q111 : u_109_20 = z111 := (fr_F e_109_20 hFc28 rfl).trans e111.symm
          subst q111
          refine g_goto 137 (gd rfl) rfl ?_
          exact g_ireturn (gd rfl) rfl rfl (hP _ _ ⟨sc28, hIc28, hFc28, u_109_20, rfl, rfl, in_w (-1) 160 ro_109_20 rfl⟩)
      · skip
        have i33 := r_lt1 0 159 c33 j28_5 (in_c 160 rfl) rfl
        refine g_iload_n 37 (gd rfl) rfl rfl ?_
        refine g_aload_n 38 (gd rfl) rfl rfl ?_
        refine g_getA (q2 := 112) 41 (gd rfl) rfl rfl rfl rfl ?_
        refine g_aload_n 42 (gd rfl) rfl rfl ?_
        refine g_getI 45 (gd rfl) rfl rfl rfl (fun z42 e42 => ?_)
        have q42 : u_109_19 = z42 := (fr_F e_109_19 hFc28 rfl).trans e42.symm
        subst q42
        refine g_iload 47 (gd rfl) rfl rfl ?_
        refine g_iadd 48 (gd rfl) rfl (fun z47 e47 => ?_)
        have i47 := in_add 0 319 e47 ro_109_19 i33 rfl rfl
        refine g_baload 49 (gd rfl) rfl (n := 480) rfl (in_ix i47 rfl) (fun z48 e48 => ?_)
        have i48 := inv_I hIc28 (n := 480) (t := 3) 0 1 rfl (in_ix i47 rfl) rfl e48
        refine g_if_eq 52 56 (gd rfl) rfl rfl (fun c49 => ?_) (fun c49 => ?_)
        · skip
          have i49 := z_eq 0 0 c49 i48 rfl
          refine g_iconst 0 57 (gd rfl) rfl rfl ?_
          refine g_iadd 58 (gd rfl) rfl (fun z57 e57 => ?_)
          have i57 := in_add 0 160 e57 j28_2 (in_c 0 rfl) rfl rfl
          refine g_istore_n 59 (gd rfl) rfl (Nat.le_of_ble_eq_true rfl) ?_
          refine g_iload_n 60 (gd rfl) rfl rfl ?_
          refine g_aload_n 61 (gd rfl) rfl rfl ?_
          refine g_iload 63 (gd rfl) rfl rfl ?_
          refine g_callv (X := _) (As := [.int y28_5]) (r := [.int y28_3]) (b := A 109) (q := 109) 66 (gd rfl) rfl rfl rfl rfl rfl (ww_o rfl) (Nat.le_of_ble_eq_true rfl) (mc := 0) (ms := 0) (Nat.zero_le _) (Nat.zero_le _) (P := fun v u => _) ?_ (fun e u h => h) (fun v u h => h)
          intro po63 xx63 hp63 hx63
          refine g_enter2 (k := 288) (N := 300) (by first | exact dq1 hd rfl | exact dq0 hd rfl | exact dq2 hd rfl | exact dq3 hd rfl | omega) rfl (Nat.le_of_ble_eq_true rfl) ?_
          refine g_aload_n 1 (gd rfl) rfl rfl ?_
          refine g_getA (q2 := 112) 4 (gd rfl) rfl rfl rfl rfl ?_
          refine g_aload_n 5 (gd rfl) rfl rfl ?_
          refine g_getI 8 (gd rfl) rfl rfl rfl (fun z63x5 e63x5 => ?_)
          have q63x5 : u_109_19 = z63x5 := (fr_F e_109_19 hFc28 rfl).trans e63x5.symm
          subst q63x5
          refine g_iload_n 9 (gd rfl) rfl rfl ?_
          refine g_iadd 10 (gd rfl) rfl (fun z63x9 e63x9 => ?_)
          have i63x9 := in_add 0 319 e63x9 ro_109_19 i33 rfl rfl
          refine g_baload 11 (gd rfl) rfl (n := 480) rfl (in_ix i63x9 rfl) (fun z63x10 e63x10 => ?_)
          have i63x10 := inv_I hIc28 (n := 480) (t := 3) 0 1 rfl (in_ix i63x9 rfl) rfl e63x10
          refine g_if_eq 14 43 (gd rfl) rfl rfl (fun c63x11 => ?_) (fun c63x11 => ?_)
          · skip
            have i63x11 := z_eq 0 0 c63x11 i63x10 rfl
            refine g_iconst 0 44 (gd rfl) rfl rfl ?_
            refine g_ireturn (gd rfl) rfl (nb01 (in_w 0 1 (in_c 0 rfl) rfl)) (hp63 _ _ ?_)
            show GG _ _ _ _ _ _ _ _ [.int (Int32.ofInt 0), .int y28_3] _ _ _
            refine g_if_eq 69 73 (gd rfl) rfl rfl (fun c66 => ?_) (fun c66 => ?_)
            · skip
              refine g_iconst 0 74 (gd rfl) rfl rfl ?_
              refine g_iadd 75 (gd rfl) rfl (fun z74 e74 => ?_)
              have i74 := in_add 0 160 e74 j28_3 (in_c 0 rfl) rfl rfl
              refine g_istore_n 76 (gd rfl) rfl (Nat.le_of_ble_eq_true rfl) ?_
              refine g_aload_n 77 (gd rfl) rfl rfl ?_
              refine g_getA (q2 := 112) 80 (gd rfl) rfl rfl rfl rfl ?_
              refine g_aload_n 81 (gd rfl) rfl rfl ?_
              refine g_getI 84 (gd rfl) rfl rfl rfl (fun z81 e81 => ?_)
              have q81 : u_109_19 = z81 := (fr_F e_109_19 hFc28 rfl).trans e81.symm
              subst q81
              refine g_iload 86 (gd rfl) rfl rfl ?_
              refine g_iadd 87 (gd rfl) rfl (fun z86 e86 => ?_)
              have i86 := in_add 0 319 e86 ro_109_19 i33 rfl rfl
              refine g_baload 88 (gd rfl) rfl (n := 480) rfl (in_ix i86 rfl) (fun z87 e87 => ?_)
              have i87 := inv_I hIc28 (n := 480) (t := 3) 0 1 rfl (in_ix i86 rfl) rfl e87
              refine g_if_eq 91 96 (gd rfl) rfl rfl (fun c88 => ?_) (fun c88 => ?_)
              · skip
                have i88 := z_eq 0 0 c88 i87 rfl
                refine g_iload 98 (gd rfl) rfl rfl ?_
                refine g_istore 100 (gd rfl) rfl (Nat.le_of_ble_eq_true rfl) ?_
                refine g_iinc 103 (gd rfl) rfl rfl (Nat.le_of_ble_eq_true rfl) (fun z100 e100 => ?_)
                have i100 := in_add 1 160 e100 i33 (in_c 1 rfl) rfl rfl
                refine g_goto 28 (gd rfl) rfl ?_
                have l28 := rl_1 l28_2 (t_add e57 j28_2 (in_c 0 rfl) rfl) (in_c 0 rfl) (t_add e100 i33 (in_c 1 rfl) rfl) (in_c 1 rfl) rfl
                have l28a := rl_1 l28_3 (t_add e74 j28_3 (in_c 0 rfl) rfl) (in_c 0 rfl) (t_add e100 i33 (in_c 1 rfl) rfl) (in_c 1 rfl) rfl
                exact gg_w (by first | exact Nat.le_add_right _ _ | exact gw2 | exact gw3 | exact gwe rfl | exact gwf rfl | exact gwg rfl | exact gwh rfl | omega) (gg_f (gf_cons rfl (gf_cons rfl (gf_cons rfl (gf_cons rfl (gf_cons rfl (gf_cons rfl gf_nil)))))) (ih28 sc28 z57 z74 y28_4 z100 hIc28 hFc28 (in_w 0 3 j28_1 rfl) (rl_w 0 160 l28 i57 (in_w 0 160 i100 rfl) rfl) (rl_w 0 160 l28a i74 (in_w 0 160 i100 rfl) rfl) (in_w (-1) 159 j28_4 rfl) (in_w 0 160 i100 rfl) l28 l28a (m_up mm28 (t_add e100 i33 (in_c 1 rfl) rfl) (in_w 1 1 (in_c 1 rfl) rfl))))
              · skip
                have i88 := z_ne 1 1 c88 i87 rfl
                refine g_iload 93 (gd rfl) rfl rfl ?_
                refine g_goto 98 (gd rfl) rfl ?_
                refine g_istore 100 (gd rfl) rfl (Nat.le_of_ble_eq_true rfl) ?_
                refine g_iinc 103 (gd rfl) rfl rfl (Nat.le_of_ble_eq_true rfl) (fun z100 e100 => ?_)
                have i100 := in_add 1 160 e100 i33 (in_c 1 rfl) rfl rfl
                refine g_goto 28 (gd rfl) rfl ?_
                have l28 := rl_1 l28_2 (t_add e57 j28_2 (in_c 0 rfl) rfl) (in_c 0 rfl) (t_add e100 i33 (in_c 1 rfl) rfl) (in_c 1 rfl) rfl
                have l28a := rl_1 l28_3 (t_add e74 j28_3 (in_c 0 rfl) rfl) (in_c 0 rfl) (t_add e100 i33 (in_c 1 rfl) rfl) (in_c 1 rfl) rfl
                exact gg_w (by first | exact Nat.le_add_right _ _ | exact gw2 | exact gw3 | exact gwe rfl | exact gwf rfl | exact gwg rfl | exact gwh rfl | omega) (gg_f (gf_cons rfl (gf_cons rfl (gf_cons rfl (gf_cons rfl (gf_cons rfl (gf_cons rfl gf_nil)))))) (ih28 sc28 z57 z74 y28_5 z100 hIc28 hFc28 (in_w 0 3 j28_1 rfl) (rl_w 0 160 l28 i57 (in_w 0 160 i100 rfl) rfl) (rl_w 0 160 l28a i74 (in_w 0 160 i100 rfl) rfl) (in_w (-1) 159 i33 rfl) (in_w 0 160 i100 rfl) l28 l28a (m_up mm28 (t_add e100 i33 (in_c 1 rfl) rfl) (in_w 1 1 (in_c 1 rfl) rfl))))
            · skip
              exact zn_ne c66 (in_c 0 rfl) rfl
          · skip
            have i63x11 := z_ne 1 1 c63x11 i63x10 rfl
            refine g_aload_n 15 (gd rfl) rfl rfl ?_
            refine g_getA (q2 := 113) 18 (gd rfl) rfl rfl rfl rfl ?_
            refine g_aload_n 19 (gd rfl) rfl rfl ?_
            refine g_getI 22 (gd rfl) rfl rfl rfl (fun z63x19 e63x19 => ?_)
            have q63x19 : u_109_19 = z63x19 := (fr_F e_109_19 hFc28 rfl).trans e63x19.symm
            subst q63x19
            refine g_iload_n 23 (gd rfl) rfl rfl ?_
            refine g_iadd 24 (gd rfl) rfl (fun z63x23 e63x23 => ?_)
            have i63x23 := in_add 0 319 e63x23 ro_109_19 i33 rfl rfl
            refine g_iaload 25 (gd rfl) rfl (n := 480) rfl (in_ix i63x23 rfl) (fun z63x24 e63x24 => ?_)
            have i63x24 := inv_I hIc28 (n := 480) (t := 0) 0 31 rfl (in_ix i63x23 rfl) rfl e63x24
            refine g_aload_n 26 (gd rfl) rfl rfl ?_
            refine g_getA (q2 := 114) 29 (gd rfl) rfl rfl rfl rfl ?_
            refine g_aload_n 30 (gd rfl) rfl rfl ?_
            refine g_getI 33 (gd rfl) rfl rfl rfl (fun z63x30 e63x30 => ?_)
            have q63x30 : u_109_19 = z63x30 := (fr_F e_109_19 hFc28 rfl).trans e63x30.symm
            subst q63x30
            refine g_iload_n 34 (gd rfl) rfl rfl ?_
            refine g_iadd 35 (gd rfl) rfl (fun z63x34 e63x34 => ?_)
            have i63x34 := in_add 0 319 e63x34 ro_109_19 i33 rfl rfl
            refine g_iaload 36 (gd rfl) rfl (n := 480) rfl (in_ix i63x34 rfl) (fun z63x35 e63x35 => ?_)
            have i63x35 := inv_I hIc28 (n := 480) (t := 0) 0 31 rfl (in_ix i63x34 rfl) rfl e63x35
            refine g_cmp_eq 39 43 (gd rfl) rfl rfl (fun c63x36 => ?_) (fun c63x36 => ?_)
            · skip
              refine g_iconst 0 44 (gd rfl) rfl rfl ?_
              refine g_ireturn (gd rfl) rfl (nb01 (in_w 0 1 (in_c 0 rfl) rfl)) (hp63 _ _ ?_)
              show GG _ _ _ _ _ _ _ _ [.int (Int32.ofInt 0), .int y28_3] _ _ _
              refine g_if_eq 69 73 (gd rfl) rfl rfl (fun c66 => ?_) (fun c66 => ?_)
              · skip
                refine g_iconst 0 74 (gd rfl) rfl rfl ?_
                refine g_iadd 75 (gd rfl) rfl (fun z74 e74 => ?_)
                have i74 := in_add 0 160 e74 j28_3 (in_c 0 rfl) rfl rfl
                refine g_istore_n 76 (gd rfl) rfl (Nat.le_of_ble_eq_true rfl) ?_
                refine g_aload_n 77 (gd rfl) rfl rfl ?_
                refine g_getA (q2 := 112) 80 (gd rfl) rfl rfl rfl rfl ?_
                refine g_aload_n 81 (gd rfl) rfl rfl ?_
                refine g_getI 84 (gd rfl) rfl rfl rfl (fun z81 e81 => ?_)
                have q81 : u_109_19 = z81 := (fr_F e_109_19 hFc28 rfl).trans e81.symm
                subst q81
                refine g_iload 86 (gd rfl) rfl rfl ?_
                refine g_iadd 87 (gd rfl) rfl (fun z86 e86 => ?_)
                have i86 := in_add 0 319 e86 ro_109_19 i33 rfl rfl
                refine g_baload 88 (gd rfl) rfl (n := 480) rfl (in_ix i86 rfl) (fun z87 e87 => ?_)
                have i87 := inv_I hIc28 (n := 480) (t := 3) 0 1 rfl (in_ix i86 rfl) rfl e87
                refine g_if_eq 91 96 (gd rfl) rfl rfl (fun c88 => ?_) (fun c88 => ?_)
                · skip
                  have i88 := z_eq 0 0 c88 i87 rfl
                  refine g_iload 98 (gd rfl) rfl rfl ?_
                  refine g_istore 100 (gd rfl) rfl (Nat.le_of_ble_eq_true rfl) ?_
                  refine g_iinc 103 (gd rfl) rfl rfl (Nat.le_of_ble_eq_true rfl) (fun z100 e100 => ?_)
                  have i100 := in_add 1 160 e100 i33 (in_c 1 rfl) rfl rfl
                  refine g_goto 28 (gd rfl) rfl ?_
                  have l28 := rl_1 l28_2 (t_add e57 j28_2 (in_c 0 rfl) rfl) (in_c 0 rfl) (t_add e100 i33 (in_c 1 rfl) rfl) (in_c 1 rfl) rfl
                  have l28a := rl_1 l28_3 (t_add e74 j28_3 (in_c 0 rfl) rfl) (in_c 0 rfl) (t_add e100 i33 (in_c 1 rfl) rfl) (in_c 1 rfl) rfl
                  exact gg_w (by first | exact Nat.le_add_right _ _ | exact gw2 | exact gw3 | exact gwe rfl | exact gwf rfl | exact gwg rfl | exact gwh rfl | omega) (gg_f (gf_cons rfl (gf_cons rfl (gf_cons rfl (gf_cons rfl (gf_cons rfl (gf_cons rfl gf_nil)))))) (ih28 sc28 z57 z74 y28_4 z100 hIc28 hFc28 (in_w 0 3 j28_1 rfl) (rl_w 0 160 l28 i57 (in_w 0 160 i100 rfl) rfl) (rl_w 0 160 l28a i74 (in_w 0 160 i100 rfl) rfl) (in_w (-1) 159 j28_4 rfl) (in_w 0 160 i100 rfl) l28 l28a (m_up mm28 (t_add e100 i33 (in_c 1 rfl) rfl) (in_w 1 1 (in_c 1 rfl) rfl))))
                · skip
                  have i88 := z_ne 1 1 c88 i87 rfl
                  refine g_iload 93 (gd rfl) rfl rfl ?_
                  refine g_goto 98 (gd rfl) rfl ?_
                  refine g_istore 100 (gd rfl) rfl (Nat.le_of_ble_eq_true rfl) ?_
                  refine g_iinc 103 (gd rfl) rfl rfl (Nat.le_of_ble_eq_true rfl) (fun z100 e100 => ?_)
                  have i100 := in_add 1 160 e100 i33 (in_c 1 rfl) rfl rfl
                  refine g_goto 28 (gd rfl) rfl ?_
                  have l28 := rl_1 l28_2 (t_add e57 j28_2 (in_c 0 rfl) rfl) (in_c 0 rfl) (t_add e100 i33 (in_c 1 rfl) rfl) (in_c 1 rfl) rfl
                  have l28a := rl_1 l28_3 (t_add e74 j28_3 (in_c 0 rfl) rfl) (in_c 0 rfl) (t_add e100 i33 (in_c 1 rfl) rfl) (in_c 1 rfl) rfl
                  exact gg_w (by first | exact Nat.le_add_right _ _ | exact gw2 | exact gw3 | exact gwe rfl | exact gwf rfl | exact gwg rfl | exact gwh rfl | omega) (gg_f (gf_cons rfl (gf_cons rfl (gf_cons rfl (gf_cons rfl (gf_cons rfl (gf_cons rfl gf_nil)))))) (ih28 sc28 z57 z74 y28_5 z100 hIc28 hFc28 (in_w 0 3 j28_1 rfl) (rl_w 0 160 l28 i57 (in_w 0 160 i100 rfl) rfl) (rl_w 0 160 l28a i74 (in_w 0 160 i100 rfl) rfl) (in_w (-1) 159 i33 rfl) (in_w 0 160 i100 rfl) l28 l28a (m_up mm28 (t_add e100 i33 (in_c 1 rfl) rfl) (in_w 1 1 (in_c 1 rfl) rfl))))
              · skip
                exact zn_ne c66 (in_c 0 rfl) rfl
            · skip
              refine g_iconst 1 40 (gd rfl) rfl rfl ?_
              refine g_goto 44 (gd rfl) rfl ?_
              refine g_ireturn (gd rfl) rfl (nb01 (in_w 0 1 (in_c 1 rfl) rfl)) (hp63 _ _ ?_)
              show GG _ _ _ _ _ _ _ _ [.int (Int32.ofInt 1), .int y28_3] _ _ _
              refine g_if_eq 69 73 (gd rfl) rfl rfl (fun c66 => ?_) (fun c66 => ?_)
              · skip
                exact zn_eq c66 (in_c 1 rfl) rfl
              · skip
                refine g_iconst 1 70 (gd rfl) rfl rfl ?_
                refine g_goto 74 (gd rfl) rfl ?_
                refine g_iadd 75 (gd rfl) rfl (fun z74 e74 => ?_)
                have i74 := in_add 1 161 e74 j28_3 (in_c 1 rfl) rfl rfl
                refine g_istore_n 76 (gd rfl) rfl (Nat.le_of_ble_eq_true rfl) ?_
                refine g_aload_n 77 (gd rfl) rfl rfl ?_
                refine g_getA (q2 := 112) 80 (gd rfl) rfl rfl rfl rfl ?_
                refine g_aload_n 81 (gd rfl) rfl rfl ?_
                refine g_getI 84 (gd rfl) rfl rfl rfl (fun z81 e81 => ?_)
                have q81 : u_109_19 = z81 := (fr_F e_109_19 hFc28 rfl).trans e81.symm
                subst q81
                refine g_iload 86 (gd rfl) rfl rfl ?_
                refine g_iadd 87 (gd rfl) rfl (fun z86 e86 => ?_)
                have i86 := in_add 0 319 e86 ro_109_19 i33 rfl rfl
                refine g_baload 88 (gd rfl) rfl (n := 480) rfl (in_ix i86 rfl) (fun z87 e87 => ?_)
                have i87 := inv_I hIc28 (n := 480) (t := 3) 0 1 rfl (in_ix i86 rfl) rfl e87
                refine g_if_eq 91 96 (gd rfl) rfl rfl (fun c88 => ?_) (fun c88 => ?_)
                · skip
                  have i88 := z_eq 0 0 c88 i87 rfl
                  refine g_iload 98 (gd rfl) rfl rfl ?_
                  refine g_istore 100 (gd rfl) rfl (Nat.le_of_ble_eq_true rfl) ?_
                  refine g_iinc 103 (gd rfl) rfl rfl (Nat.le_of_ble_eq_true rfl) (fun z100 e100 => ?_)
                  have i100 := in_add 1 160 e100 i33 (in_c 1 rfl) rfl rfl
                  refine g_goto 28 (gd rfl) rfl ?_
                  have l28 := rl_1 l28_2 (t_add e57 j28_2 (in_c 0 rfl) rfl) (in_c 0 rfl) (t_add e100 i33 (in_c 1 rfl) rfl) (in_c 1 rfl) rfl
                  have l28a := rl_1 l28_3 (t_add e74 j28_3 (in_c 1 rfl) rfl) (in_c 1 rfl) (t_add e100 i33 (in_c 1 rfl) rfl) (in_c 1 rfl) rfl
                  exact gg_w (by first | exact Nat.le_add_right _ _ | exact gw2 | exact gw3 | exact gwe rfl | exact gwf rfl | exact gwg rfl | exact gwh rfl | omega) (gg_f (gf_cons rfl (gf_cons rfl (gf_cons rfl (gf_cons rfl (gf_cons rfl (gf_cons rfl gf_nil)))))) (ih28 sc28 z57 z74 y28_4 z100 hIc28 hFc28 (in_w 0 3 j28_1 rfl) (rl_w 0 160 l28 i57 (in_w 0 160 i100 rfl) rfl) (rl_w 0 160 l28a i74 (in_w 0 160 i100 rfl) rfl) (in_w (-1) 159 j28_4 rfl) (in_w 0 160 i100 rfl) l28 l28a (m_up mm28 (t_add e100 i33 (in_c 1 rfl) rfl) (in_w 1 1 (in_c 1 rfl) rfl))))
                · skip
                  have i88 := z_ne 1 1 c88 i87 rfl
                  refine g_iload 93 (gd rfl) rfl rfl ?_
                  refine g_goto 98 (gd rfl) rfl ?_
                  refine g_istore 100 (gd rfl) rfl (Nat.le_of_ble_eq_true rfl) ?_
                  refine g_iinc 103 (gd rfl) rfl rfl (Nat.le_of_ble_eq_true rfl) (fun z100 e100 => ?_)
                  have i100 := in_add 1 160 e100 i33 (in_c 1 rfl) rfl rfl
                  refine g_goto 28 (gd rfl) rfl ?_
                  have l28 := rl_1 l28_2 (t_add e57 j28_2 (in_c 0 rfl) rfl) (in_c 0 rfl) (t_add e100 i33 (in_c 1 rfl) rfl) (in_c 1 rfl) rfl
                  have l28a := rl_1 l28_3 (t_add e74 j28_3 (in_c 1 rfl) rfl) (in_c 1 rfl) (t_add e100 i33 (in_c 1 rfl) rfl) (in_c 1 rfl) rfl
                  exact gg_w (by first | exact Nat.le_add_right _ _ | exact gw2 | exact gw3 | exact gwe rfl | exact gwf rfl | exact gwg rfl | exact gwh rfl | omega) (gg_f (gf_cons rfl (gf_cons rfl (gf_cons rfl (gf_cons rfl (gf_cons rfl (gf_cons rfl gf_nil)))))) (ih28 sc28 z57 z74 y28_5 z100 hIc28 hFc28 (in_w 0 3 j28_1 rfl) (rl_w 0 160 l28 i57 (in_w 0 160 i100 rfl) rfl) (rl_w 0 160 l28a i74 (in_w 0 160 i100 rfl) rfl) (in_w (-1) 159 i33 rfl) (in_w 0 160 i100 rfl) l28 l28a (m_up mm28 (t_add e100 i33 (in_c 1 rfl) rfl) (in_w 1 1 (in_c 1 rfl) rfl))))
        · skip
          have i49 := z_ne 1 1 c49 i48 rfl
          refine g_iconst 1 53 (gd rfl) rfl rfl ?_
          refine g_goto 57 (gd rfl) rfl ?_
          refine g_iadd 58 (gd rfl) rfl (fun z57 e57 => ?_)
          have i57 := in_add 1 161 e57 j28_2 (in_c 1 rfl) rfl rfl
          refine g_istore_n 59 (gd rfl) rfl (Nat.le_of_ble_eq_true rfl) ?_
          refine g_iload_n 60 (gd rfl) rfl rfl ?_
          refine g_aload_n 61 (gd rfl) rfl rfl ?_
          refine g_iload 63 (gd rfl) rfl rfl ?_
          refine g_callv (X := _) (As := [.int y28_5]) (r := [.int y28_3]) (b := A 109) (q := 109) 66 (gd rfl) rfl rfl rfl rfl rfl (ww_o rfl) (Nat.le_of_ble_eq_true rfl) (mc := 0) (ms := 0) (Nat.zero_le _) (Nat.zero_le _) (P := fun v u => _) ?_ (fun e u h => h) (fun v u h => h)
          intro po63 xx63 hp63 hx63
          refine g_enter2 (k := 288) (N := 300) (by first | exact dq1 hd rfl | exact dq0 hd rfl | exact dq2 hd rfl | exact dq3 hd rfl | omega) rfl (Nat.le_of_ble_eq_true rfl) ?_
          refine g_aload_n 1 (gd rfl) rfl rfl ?_
          refine g_getA (q2 := 112) 4 (gd rfl) rfl rfl rfl rfl ?_
          refine g_aload_n 5 (gd rfl) rfl rfl ?_
          refine g_getI 8 (gd rfl) rfl rfl rfl (fun z63x5 e63x5 => ?_)
          have q63x5 : u_109_19 = z63x5 := (fr_F e_109_19 hFc28 rfl).trans e63x5.symm
          subst q63x5
          refine g_iload_n 9 (gd rfl) rfl rfl ?_
          refine g_iadd 10 (gd rfl) rfl (fun z63x9 e63x9 => ?_)
          have i63x9 := in_add 0 319 e63x9 ro_109_19 i33 rfl rfl
          refine g_baload 11 (gd rfl) rfl (n := 480) rfl (in_ix i63x9 rfl) (fun z63x10 e63x10 => ?_)
          have i63x10 := inv_I hIc28 (n := 480) (t := 3) 0 1 rfl (in_ix i63x9 rfl) rfl e63x10
          refine g_if_eq 14 43 (gd rfl) rfl rfl (fun c63x11 => ?_) (fun c63x11 => ?_)
          · skip
            have i63x11 := z_eq 0 0 c63x11 i63x10 rfl
            refine g_iconst 0 44 (gd rfl) rfl rfl ?_
            refine g_ireturn (gd rfl) rfl (nb01 (in_w 0 1 (in_c 0 rfl) rfl)) (hp63 _ _ ?_)
            show GG _ _ _ _ _ _ _ _ [.int (Int32.ofInt 0), .int y28_3] _ _ _
            refine g_if_eq 69 73 (gd rfl) rfl rfl (fun c66 => ?_) (fun c66 => ?_)
            · skip
              refine g_iconst 0 74 (gd rfl) rfl rfl ?_
              refine g_iadd 75 (gd rfl) rfl (fun z74 e74 => ?_)
              have i74 := in_add 0 160 e74 j28_3 (in_c 0 rfl) rfl rfl
              refine g_istore_n 76 (gd rfl) rfl (Nat.le_of_ble_eq_true rfl) ?_
              refine g_aload_n 77 (gd rfl) rfl rfl ?_
              refine g_getA (q2 := 112) 80 (gd rfl) rfl rfl rfl rfl ?_
              refine g_aload_n 81 (gd rfl) rfl rfl ?_
              refine g_getI 84 (gd rfl) rfl rfl rfl (fun z81 e81 => ?_)
              have q81 : u_109_19 = z81 := (fr_F e_109_19 hFc28 rfl).trans e81.symm
              subst q81
              refine g_iload 86 (gd rfl) rfl rfl ?_
              refine g_iadd 87 (gd rfl) rfl (fun z86 e86 => ?_)
              have i86 := in_add 0 319 e86 ro_109_19 i33 rfl rfl
              refine g_baload 88 (gd rfl) rfl (n := 480) rfl (in_ix i86 rfl) (fun z87 e87 => ?_)
              have i87 := inv_I hIc28 (n := 480) (t := 3) 0 1 rfl (in_ix i86 rfl) rfl e87
              refine g_if_eq 91 96 (gd rfl) rfl rfl (fun c88 => ?_) (fun c88 => ?_)
              · skip
                have i88 := z_eq 0 0 c88 i87 rfl
                refine g_iload 98 (gd rfl) rfl rfl ?_
                refine g_istore 100 (gd rfl) rfl (Nat.le_of_ble_eq_true rfl) ?_
                refine g_iinc 103 (gd rfl) rfl rfl (Nat.le_of_ble_eq_true rfl) (fun z100 e100 => ?_)
                have i100 := in_add 1 160 e100 i33 (in_c 1 rfl) rfl rfl
                refine g_goto 28 (gd rfl) rfl ?_
                have l28 := rl_1 l28_2 (t_add e57 j28_2 (in_c 1 rfl) rfl) (in_c 1 rfl) (t_add e100 i33 (in_c 1 rfl) rfl) (in_c 1 rfl) rfl
                have l28a := rl_1 l28_3 (t_add e74 j28_3 (in_c 0 rfl) rfl) (in_c 0 rfl) (t_add e100 i33 (in_c 1 rfl) rfl) (in_c 1 rfl) rfl
                exact gg_w (by first | exact Nat.le_add_right _ _ | exact gw2 | exact gw3 | exact gwe rfl | exact gwf rfl | exact gwg rfl | exact gwh rfl | omega) (gg_f (gf_cons rfl (gf_cons rfl (gf_cons rfl (gf_cons rfl (gf_cons rfl (gf_cons rfl gf_nil)))))) (ih28 sc28 z57 z74 y28_4 z100 hIc28 hFc28 (in_w 0 3 j28_1 rfl) (rl_w 0 160 l28 i57 (in_w 0 160 i100 rfl) rfl) (rl_w 0 160 l28a i74 (in_w 0 160 i100 rfl) rfl) (in_w (-1) 159 j28_4 rfl) (in_w 0 160 i100 rfl) l28 l28a (m_up mm28 (t_add e100 i33 (in_c 1 rfl) rfl) (in_w 1 1 (in_c 1 rfl) rfl))))
              · skip
                have i88 := z_ne 1 1 c88 i87 rfl
                refine g_iload 93 (gd rfl) rfl rfl ?_
                refine g_goto 98 (gd rfl) rfl ?_
                refine g_istore 100 (gd rfl) rfl (Nat.le_of_ble_eq_true rfl) ?_
                refine g_iinc 103 (gd rfl) rfl rfl (Nat.le_of_ble_eq_true rfl) (fun z100 e100 => ?_)
                have i100 := in_add 1 160 e100 i33 (in_c 1 rfl) rfl rfl
                refine g_goto 28 (gd rfl) rfl ?_
                have l28 := rl_1 l28_2 (t_add e57 j28_2 (in_c 1 rfl) rfl) (in_c 1 rfl) (t_add e100 i33 (in_c 1 rfl) rfl) (in_c 1 rfl) rfl
                have l28a := rl_1 l28_3 (t_add e74 j28_3 (in_c 0 rfl) rfl) (in_c 0 rfl) (t_add e100 i33 (in_c 1 rfl) rfl) (in_c 1 rfl) rfl
                exact gg_w (by first | exact Nat.le_add_right _ _ | exact gw2 | exact gw3 | exact gwe rfl | exact gwf rfl | exact gwg rfl | exact gwh rfl | omega) (gg_f (gf_cons rfl (gf_cons rfl (gf_cons rfl (gf_cons rfl (gf_cons rfl (gf_cons rfl gf_nil)))))) (ih28 sc28 z57 z74 y28_5 z100 hIc28 hFc28 (in_w 0 3 j28_1 rfl) (rl_w 0 160 l28 i57 (in_w 0 160 i100 rfl) rfl) (rl_w 0 160 l28a i74 (in_w 0 160 i100 rfl) rfl) (in_w (-1) 159 i33 rfl) (in_w 0 160 i100 rfl) l28 l28a (m_up mm28 (t_add e100 i33 (in_c 1 rfl) rfl) (in_w 1 1 (in_c 1 rfl) rfl))))
            · skip
              exact zn_ne c66 (in_c 0 rfl) rfl
          · skip
            have i63x11 := z_ne 1 1 c63x11 i63x10 rfl
            refine g_aload_n 15 (gd rfl) rfl rfl ?_
            refine g_getA (q2 := 113) 18 (gd rfl) rfl rfl rfl rfl ?_
            refine g_aload_n 19 (gd rfl) rfl rfl ?_
            refine g_getI 22 (gd rfl) rfl rfl rfl (fun z63x19 e63x19 => ?_)
            have q63x19 : u_109_19 = z63x19 := (fr_F e_109_19 hFc28 rfl).trans e63x19.symm
            subst q63x19
            refine g_iload_n 23 (gd rfl) rfl rfl ?_
            refine g_iadd 24 (gd rfl) rfl (fun z63x23 e63x23 => ?_)
            have i63x23 := in_add 0 319 e63x23 ro_109_19 i33 rfl rfl
            refine g_iaload 25 (gd rfl) rfl (n := 480) rfl (in_ix i63x23 rfl) (fun z63x24 e63x24 => ?_)
            have i63x24 := inv_I hIc28 (n := 480) (t := 0) 0 31 rfl (in_ix i63x23 rfl) rfl e63x24
            refine g_aload_n 26 (gd rfl) rfl rfl ?_
            refine g_getA (q2 := 114) 29 (gd rfl) rfl rfl rfl rfl ?_
            refine g_aload_n 30 (gd rfl) rfl rfl ?_
            refine g_getI 33 (gd rfl) rfl rfl rfl (fun z63x30 e63x30 => ?_)
            have q63x30 : u_109_19 = z63x30 := (fr_F e_109_19 hFc28 rfl).trans e63x30.symm
            subst q63x30
            refine g_iload_n 34 (gd rfl) rfl rfl ?_
            refine g_iadd 35 (gd rfl) rfl (fun z63x34 e63x34 => ?_)
            have i63x34 := in_add 0 319 e63x34 ro_109_19 i33 rfl rfl
            refine g_iaload 36 (gd rfl) rfl (n := 480) rfl (in_ix i63x34 rfl) (fun z63x35 e63x35 => ?_)
            have i63x35 := inv_I hIc28 (n := 480) (t := 0) 0 31 rfl (in_ix i63x34 rfl) rfl e63x35
            refine g_cmp_eq 39 43 (gd rfl) rfl rfl (fun c63x36 => ?_) (fun c63x36 => ?_)
            · skip
              refine g_iconst 0 44 (gd rfl) rfl rfl ?_
              refine g_ireturn (gd rfl) rfl (nb01 (in_w 0 1 (in_c 0 rfl) rfl)) (hp63 _ _ ?_)
              show GG _ _ _ _ _ _ _ _ [.int (Int32.ofInt 0), .int y28_3] _ _ _
              refine g_if_eq 69 73 (gd rfl) rfl rfl (fun c66 => ?_) (fun c66 => ?_)
              · skip
                refine g_iconst 0 74 (gd rfl) rfl rfl ?_
                refine g_iadd 75 (gd rfl) rfl (fun z74 e74 => ?_)
                have i74 := in_add 0 160 e74 j28_3 (in_c 0 rfl) rfl rfl
                refine g_istore_n 76 (gd rfl) rfl (Nat.le_of_ble_eq_true rfl) ?_
                refine g_aload_n 77 (gd rfl) rfl rfl ?_
                refine g_getA (q2 := 112) 80 (gd rfl) rfl rfl rfl rfl ?_
                refine g_aload_n 81 (gd rfl) rfl rfl ?_
                refine g_getI 84 (gd rfl) rfl rfl rfl (fun z81 e81 => ?_)
                have q81 : u_109_19 = z81 := (fr_F e_109_19 hFc28 rfl).trans e81.symm
                subst q81
                refine g_iload 86 (gd rfl) rfl rfl ?_
                refine g_iadd 87 (gd rfl) rfl (fun z86 e86 => ?_)
                have i86 := in_add 0 319 e86 ro_109_19 i33 rfl rfl
                refine g_baload 88 (gd rfl) rfl (n := 480) rfl (in_ix i86 rfl) (fun z87 e87 => ?_)
                have i87 := inv_I hIc28 (n := 480) (t := 3) 0 1 rfl (in_ix i86 rfl) rfl e87
                refine g_if_eq 91 96 (gd rfl) rfl rfl (fun c88 => ?_) (fun c88 => ?_)
                · skip
                  have i88 := z_eq 0 0 c88 i87 rfl
                  refine g_iload 98 (gd rfl) rfl rfl ?_
                  refine g_istore 100 (gd rfl) rfl (Nat.le_of_ble_eq_true rfl) ?_
                  refine g_iinc 103 (gd rfl) rfl rfl (Nat.le_of_ble_eq_true rfl) (fun z100 e100 => ?_)
                  have i100 := in_add 1 160 e100 i33 (in_c 1 rfl) rfl rfl
                  refine g_goto 28 (gd rfl) rfl ?_
                  have l28 := rl_1 l28_2 (t_add e57 j28_2 (in_c 1 rfl) rfl) (in_c 1 rfl) (t_add e100 i33 (in_c 1 rfl) rfl) (in_c 1 rfl) rfl
                  have l28a := rl_1 l28_3 (t_add e74 j28_3 (in_c 0 rfl) rfl) (in_c 0 rfl) (t_add e100 i33 (in_c 1 rfl) rfl) (in_c 1 rfl) rfl
                  exact gg_w (by first | exact Nat.le_add_right _ _ | exact gw2 | exact gw3 | exact gwe rfl | exact gwf rfl | exact gwg rfl | exact gwh rfl | omega) (gg_f (gf_cons rfl (gf_cons rfl (gf_cons rfl (gf_cons rfl (gf_cons rfl (gf_cons rfl gf_nil)))))) (ih28 sc28 z57 z74 y28_4 z100 hIc28 hFc28 (in_w 0 3 j28_1 rfl) (rl_w 0 160 l28 i57 (in_w 0 160 i100 rfl) rfl) (rl_w 0 160 l28a i74 (in_w 0 160 i100 rfl) rfl) (in_w (-1) 159 j28_4 rfl) (in_w 0 160 i100 rfl) l28 l28a (m_up mm28 (t_add e100 i33 (in_c 1 rfl) rfl) (in_w 1 1 (in_c 1 rfl) rfl))))
                · skip
                  have i88 := z_ne 1 1 c88 i87 rfl
                  refine g_iload 93 (gd rfl) rfl rfl ?_
                  refine g_goto 98 (gd rfl) rfl ?_
                  refine g_istore 100 (gd rfl) rfl (Nat.le_of_ble_eq_true rfl) ?_
                  refine g_iinc 103 (gd rfl) rfl rfl (Nat.le_of_ble_eq_true rfl) (fun z100 e100 => ?_)
                  have i100 := in_add 1 160 e100 i33 (in_c 1 rfl) rfl rfl
                  refine g_goto 28 (gd rfl) rfl ?_
                  have l28 := rl_1 l28_2 (t_add e57 j28_2 (in_c 1 rfl) rfl) (in_c 1 rfl) (t_add e100 i33 (in_c 1 rfl) rfl) (in_c 1 rfl) rfl
                  have l28a := rl_1 l28_3 (t_add e74 j28_3 (in_c 0 rfl) rfl) (in_c 0 rfl) (t_add e100 i33 (in_c 1 rfl) rfl) (in_c 1 rfl) rfl
                  exact gg_w (by first | exact Nat.le_add_right _ _ | exact gw2 | exact gw3 | exact gwe rfl | exact gwf rfl | exact gwg rfl | exact gwh rfl | omega) (gg_f (gf_cons rfl (gf_cons rfl (gf_cons rfl (gf_cons rfl (gf_cons rfl (gf_cons rfl gf_nil)))))) (ih28 sc28 z57 z74 y28_5 z100 hIc28 hFc28 (in_w 0 3 j28_1 rfl) (rl_w 0 160 l28 i57 (in_w 0 160 i100 rfl) rfl) (rl_w 0 160 l28a i74 (in_w 0 160 i100 rfl) rfl) (in_w (-1) 159 i33 rfl) (in_w 0 160 i100 rfl) l28 l28a (m_up mm28 (t_add e100 i33 (in_c 1 rfl) rfl) (in_w 1 1 (in_c 1 rfl) rfl))))
              · skip
                exact zn_ne c66 (in_c 0 rfl) rfl
            · skip
              refine g_iconst 1 40 (gd rfl) rfl rfl ?_
              refine g_goto 44 (gd rfl) rfl ?_
              refine g_ireturn (gd rfl) rfl (nb01 (in_w 0 1 (in_c 1 rfl) rfl)) (hp63 _ _ ?_)
              show GG _ _ _ _ _ _ _ _ [.int (Int32.ofInt 1), .int y28_3] _ _ _
              refine g_if_eq 69 73 (gd rfl) rfl rfl (fun c66 => ?_) (fun c66 => ?_)
              · skip
                exact zn_eq c66 (in_c 1 rfl) rfl
              · skip
                refine g_iconst 1 70 (gd rfl) rfl rfl ?_
                refine g_goto 74 (gd rfl) rfl ?_
                refine g_iadd 75 (gd rfl) rfl (fun z74 e74 => ?_)
                have i74 := in_add 1 161 e74 j28_3 (in_c 1 rfl) rfl rfl
                refine g_istore_n 76 (gd rfl) rfl (Nat.le_of_ble_eq_true rfl) ?_
                refine g_aload_n 77 (gd rfl) rfl rfl ?_
                refine g_getA (q2 := 112) 80 (gd rfl) rfl rfl rfl rfl ?_
                refine g_aload_n 81 (gd rfl) rfl rfl ?_
                refine g_getI 84 (gd rfl) rfl rfl rfl (fun z81 e81 => ?_)
                have q81 : u_109_19 = z81 := (fr_F e_109_19 hFc28 rfl).trans e81.symm
                subst q81
                refine g_iload 86 (gd rfl) rfl rfl ?_
                refine g_iadd 87 (gd rfl) rfl (fun z86 e86 => ?_)
                have i86 := in_add 0 319 e86 ro_109_19 i33 rfl rfl
                refine g_baload 88 (gd rfl) rfl (n := 480) rfl (in_ix i86 rfl) (fun z87 e87 => ?_)
                have i87 := inv_I hIc28 (n := 480) (t := 3) 0 1 rfl (in_ix i86 rfl) rfl e87
                refine g_if_eq 91 96 (gd rfl) rfl rfl (fun c88 => ?_) (fun c88 => ?_)
                · skip
                  have i88 := z_eq 0 0 c88 i87 rfl
                  refine g_iload 98 (gd rfl) rfl rfl ?_
                  refine g_istore 100 (gd rfl) rfl (Nat.le_of_ble_eq_true rfl) ?_
                  refine g_iinc 103 (gd rfl) rfl rfl (Nat.le_of_ble_eq_true rfl) (fun z100 e100 => ?_)
                  have i100 := in_add 1 160 e100 i33 (in_c 1 rfl) rfl rfl
                  refine g_goto 28 (gd rfl) rfl ?_
                  have l28 := rl_1 l28_2 (t_add e57 j28_2 (in_c 1 rfl) rfl) (in_c 1 rfl) (t_add e100 i33 (in_c 1 rfl) rfl) (in_c 1 rfl) rfl
                  have l28a := rl_1 l28_3 (t_add e74 j28_3 (in_c 1 rfl) rfl) (in_c 1 rfl) (t_add e100 i33 (in_c 1 rfl) rfl) (in_c 1 rfl) rfl
                  exact gg_w (by first | exact Nat.le_add_right _ _ | exact gw2 | exact gw3 | exact gwe rfl | exact gwf rfl | exact gwg rfl | exact gwh rfl | omega) (gg_f (gf_cons rfl (gf_cons rfl (gf_cons rfl (gf_cons rfl (gf_cons rfl (gf_cons rfl gf_nil)))))) (ih28 sc28 z57 z74 y28_4 z100 hIc28 hFc28 (in_w 0 3 j28_1 rfl) (rl_w 0 160 l28 i57 (in_w 0 160 i100 rfl) rfl) (rl_w 0 160 l28a i74 (in_w 0 160 i100 rfl) rfl) (in_w (-1) 159 j28_4 rfl) (in_w 0 160 i100 rfl) l28 l28a (m_up mm28 (t_add e100 i33 (in_c 1 rfl) rfl) (in_w 1 1 (in_c 1 rfl) rfl))))
                · skip
                  have i88 := z_ne 1 1 c88 i87 rfl
                  refine g_iload 93 (gd rfl) rfl rfl ?_
                  refine g_goto 98 (gd rfl) rfl ?_
                  refine g_istore 100 (gd rfl) rfl (Nat.le_of_ble_eq_true rfl) ?_
                  refine g_iinc 103 (gd rfl) rfl rfl (Nat.le_of_ble_eq_true rfl) (fun z100 e100 => ?_)
                  have i100 := in_add 1 160 e100 i33 (in_c 1 rfl) rfl rfl
                  refine g_goto 28 (gd rfl) rfl ?_
                  have l28 := rl_1 l28_2 (t_add e57 j28_2 (in_c 1 rfl) rfl) (in_c 1 rfl) (t_add e100 i33 (in_c 1 rfl) rfl) (in_c 1 rfl) rfl
                  have l28a := rl_1 l28_3 (t_add e74 j28_3 (in_c 1 rfl) rfl) (in_c 1 rfl) (t_add e100 i33 (in_c 1 rfl) rfl) (in_c 1 rfl) rfl
                  exact gg_w (by first | exact Nat.le_add_right _ _ | exact gw2 | exact gw3 | exact gwe rfl | exact gwf rfl | exact gwg rfl | exact gwh rfl | omega) (gg_f (gf_cons rfl (gf_cons rfl (gf_cons rfl (gf_cons rfl (gf_cons rfl (gf_cons rfl gf_nil)))))) (ih28 sc28 z57 z74 y28_5 z100 hIc28 hFc28 (in_w 0 3 j28_1 rfl) (rl_w 0 160 l28 i57 (in_w 0 160 i100 rfl) rfl) (rl_w 0 160 l28a i74 (in_w 0 160 i100 rfl) rfl) (in_w (-1) 159 i33 rfl) (in_w 0 160 i100 rfl) l28 l28a (m_up mm28 (t_add e100 i33 (in_c 1 rfl) rfl) (in_w 1 1 (in_c 1 rfl) rfl))))
  refine g_enter2 (k := 289) (N := 145801) (by first | exact dq1 hd rfl | exact dq0 hd rfl | exact dq2 hd rfl | exact dq3 hd rfl | omega) rfl (Nat.le_of_ble_eq_true rfl) ?_
  refine g_aload_n 1 (gd rfl) rfl rfl ?_
  refine g_iload_n 2 (gd rfl) rfl rfl ?_
  refine g_i2l 3 (gd rfl) rfl (fun z2 e2 => ?_)
  have i2 := l_i e2 (i_rng x1)
  refine g_lconst 0 4 (gd rfl) rfl rfl ?_
  refine g_ldc2_w 3 7 (gd rfl) rfl rfl ?_
  refine g_calls (As := [.long z2, .long (Int64.ofInt 0), .long (Int64.ofInt 3)]) (r := [.ref (A 109)]) 10 (gd rfl) rfl rfl rfl rfl rfl (Nat.le_of_ble_eq_true rfl) (mc := 0) (ms := 0) (Nat.zero_le _) (Nat.zero_le _) (P := fun v u => _) ?_ (fun v u h => h)
  intro po7 xx7 hp7 hx7
  refine g_enter2 (k := 269) (N := 300) (by first | exact dq1 hd rfl | exact dq0 hd rfl | exact dq2 hd rfl | exact dq3 hd rfl | omega) rfl (Nat.le_of_ble_eq_true rfl) ?_
  refine g_lload_n 1 (gd rfl) rfl rfl ?_
  refine g_lload_n 2 (gd rfl) rfl rfl ?_
  refine g_lcmp 3 (gd rfl) rfl (fun z7x2 e7x2 => ?_)
  have i7x2 := lc_in e7x2
  refine g_if_lt 6 17 (gd rfl) rfl rfl (fun c7x3 => ?_) (fun c7x3 => ?_)
  · skip
    have i7x3 := z_lt (-1) (-1) c7x3 i7x2 rfl
    have c7x3a := lc_lt e7x2 c7x3
    have i7x3a := lr_lt1 (-2147483648) (-1) c7x3a i2 (l_c 0 rfl) rfl
    have i7x3b := l_b e2 i7x3a
    refine g_iconst 0 18 (gd rfl) rfl rfl ?_
    refine g_ireturn (gd rfl) rfl (nb01 (in_w 0 1 (in_c 0 rfl) rfl)) (hp7 _ _ ?_)
    show GG _ _ _ _ _ _ _ _ [.int (Int32.ofInt 0), .ref (A 109)] _ _ _
    refine g_callv (X := _) (As := [.int (Int32.ofInt 0)]) (r := []) (b := A 109) (q := 109) 13 (gd rfl) rfl rfl rfl rfl rfl (ww_o rfl) (Nat.le_of_ble_eq_true rfl) (mc := 0) (ms := 0) (Nat.zero_le _) (Nat.zero_le _) (P := fun v u => _) ?_ (fun e u h => h) (fun v u h => h)
    intro po10 xx10 hp10 hx10
    refine g_enter2 (k := 271) (N := 300) (by first | exact dq1 hd rfl | exact dq0 hd rfl | exact dq2 hd rfl | exact dq3 hd rfl | omega) rfl (Nat.le_of_ble_eq_true rfl) ?_
    refine g_aload_n 1 (gd rfl) rfl rfl ?_
    refine g_iload_n 2 (gd rfl) rfl rfl ?_
    refine g_iconst 1 3 (gd rfl) rfl rfl ?_
    refine g_callv (X := _) (As := [.int (Int32.ofInt 0), .int (Int32.ofInt 1)]) (r := []) (b := A 109) (q := 109) 6 (gd rfl) rfl rfl rfl rfl rfl (ww_o rfl) (Nat.le_of_ble_eq_true rfl) (mc := 0) (ms := 0) (Nat.zero_le _) (Nat.zero_le _) (P := fun v u => _) ?_ (fun e u h => h) (fun v u h => h)
    intro po10x3 xx10x3 hp10x3 hx10x3
    refine g_enter2 (k := 270) (N := 300) (by first | exact dq1 hd rfl | exact dq0 hd rfl | exact dq2 hd rfl | exact dq3 hd rfl | omega) rfl (Nat.le_of_ble_eq_true rfl) ?_
    refine g_aload_n 1 (gd rfl) rfl rfl ?_
    refine g_iload_n 2 (gd rfl) rfl rfl ?_
    refine g_if_ne 5 9 (gd rfl) rfl rfl (fun c10x3x2 => ?_) (fun c10x3x2 => ?_)
    · skip
      exact zn_ne c10x3x2 (in_c 0 rfl) rfl
    · skip
      refine g_iconst 1 6 (gd rfl) rfl rfl ?_
      refine g_goto 18 (gd rfl) rfl ?_
      refine g_putI 21 (gd rfl) rfl rfl rfl rfl ?_
      have hI10x3x18 := inv_sF (q := 109) (j := 0) hI rfl (in_w 0 2 (in_c 1 rfl) rfl)
      refine g_aload_n 22 (gd rfl) rfl rfl ?_
      refine g_getI 25 (gd rfl) rfl rfl rfl (fun z10x3x22 e10x3x22 => ?_)
      have q10x3x22 : (Int32.ofInt 1) = z10x3x22 := (sF_get).trans e10x3x22.symm
      subst q10x3x22
      refine g_if_le 28 32 (gd rfl) rfl rfl (fun c10x3x25 => ?_) (fun c10x3x25 => ?_)
      · skip
        exact zn_le c10x3x25 (in_c 1 rfl) rfl
      · skip
        refine g_iconst 1 29 (gd rfl) rfl rfl ?_
        refine g_goto 33 (gd rfl) rfl ?_
        refine g_ireturn (gd rfl) rfl (nb01 (in_w 0 1 (in_c 1 rfl) rfl)) (hp10x3 _ _ ?_)
        show GG _ _ _ _ _ _ _ _ [.int (Int32.ofInt 1)] _ _ _
        refine g_ireturn (gd rfl) rfl (nb01 (in_w 0 1 (in_c 1 rfl) rfl)) (hp10 _ _ ?_)
        show GG _ _ _ _ _ _ _ _ [.int (Int32.ofInt 1)] _ _ _
        refine g_if_eq 16 18 (gd rfl) rfl rfl (fun c13 => ?_) (fun c13 => ?_)
        · skip
          exact zn_eq c13 (in_c 1 rfl) rfl
        · skip
          refine g_iconst 0 17 (gd rfl) rfl rfl ?_
          exact g_ireturn (gd rfl) rfl rfl (hP _ _ ⟨(sF s 109 0 (Int32.ofInt 1)), hI10x3x18, (fr_sF rfl fr_rf), (Int32.ofInt 0), rfl, rfl, in_w (-1) 160 (in_c 0 rfl) rfl⟩)
  · skip
    have i7x3 := z_ge 0 1 c7x3 i7x2 rfl
    have c7x3a := lc_ge e7x2 c7x3
    have i7x3a := lr_le2 0 2147483647 c7x3a (l_c 0 rfl) i2 rfl
    have i7x3b := l_b e2 i7x3a
    refine g_lload_n 7 (gd rfl) rfl rfl ?_
    refine g_lload 9 (gd rfl) rfl rfl ?_
    refine g_lcmp 10 (gd rfl) rfl (fun z7x9 e7x9 => ?_)
    have i7x9 := lc_in e7x9
    refine g_if_gt 13 17 (gd rfl) rfl rfl (fun c7x10 => ?_) (fun c7x10 => ?_)
    · skip
      have i7x10 := z_gt 1 1 c7x10 i7x9 rfl
      have c7x10a := lc_gt e7x9 c7x10
      have i7x10a := lr_lt2 4 2147483647 c7x10a (l_c 3 rfl) i7x3a rfl
      have i7x10b := l_b e2 i7x10a
      refine g_iconst 0 18 (gd rfl) rfl rfl ?_
      refine g_ireturn (gd rfl) rfl (nb01 (in_w 0 1 (in_c 0 rfl) rfl)) (hp7 _ _ ?_)
      show GG _ _ _ _ _ _ _ _ [.int (Int32.ofInt 0), .ref (A 109)] _ _ _
      refine g_callv (X := _) (As := [.int (Int32.ofInt 0)]) (r := []) (b := A 109) (q := 109) 13 (gd rfl) rfl rfl rfl rfl rfl (ww_o rfl) (Nat.le_of_ble_eq_true rfl) (mc := 0) (ms := 0) (Nat.zero_le _) (Nat.zero_le _) (P := fun v u => _) ?_ (fun e u h => h) (fun v u h => h)
      intro po10 xx10 hp10 hx10
      refine g_enter2 (k := 271) (N := 300) (by first | exact dq1 hd rfl | exact dq0 hd rfl | exact dq2 hd rfl | exact dq3 hd rfl | omega) rfl (Nat.le_of_ble_eq_true rfl) ?_
      refine g_aload_n 1 (gd rfl) rfl rfl ?_
      refine g_iload_n 2 (gd rfl) rfl rfl ?_
      refine g_iconst 1 3 (gd rfl) rfl rfl ?_
      refine g_callv (X := _) (As := [.int (Int32.ofInt 0), .int (Int32.ofInt 1)]) (r := []) (b := A 109) (q := 109) 6 (gd rfl) rfl rfl rfl rfl rfl (ww_o rfl) (Nat.le_of_ble_eq_true rfl) (mc := 0) (ms := 0) (Nat.zero_le _) (Nat.zero_le _) (P := fun v u => _) ?_ (fun e u h => h) (fun v u h => h)
      intro po10x3 xx10x3 hp10x3 hx10x3
      refine g_enter2 (k := 270) (N := 300) (by first | exact dq1 hd rfl | exact dq0 hd rfl | exact dq2 hd rfl | exact dq3 hd rfl | omega) rfl (Nat.le_of_ble_eq_true rfl) ?_
      refine g_aload_n 1 (gd rfl) rfl rfl ?_
      refine g_iload_n 2 (gd rfl) rfl rfl ?_
      refine g_if_ne 5 9 (gd rfl) rfl rfl (fun c10x3x2 => ?_) (fun c10x3x2 => ?_)
      · skip
        exact zn_ne c10x3x2 (in_c 0 rfl) rfl
      · skip
        refine g_iconst 1 6 (gd rfl) rfl rfl ?_
        refine g_goto 18 (gd rfl) rfl ?_
        refine g_putI 21 (gd rfl) rfl rfl rfl rfl ?_
        have hI10x3x18 := inv_sF (q := 109) (j := 0) hI rfl (in_w 0 2 (in_c 1 rfl) rfl)
        refine g_aload_n 22 (gd rfl) rfl rfl ?_
        refine g_getI 25 (gd rfl) rfl rfl rfl (fun z10x3x22 e10x3x22 => ?_)
        have q10x3x22 : (Int32.ofInt 1) = z10x3x22 := (sF_get).trans e10x3x22.symm
        subst q10x3x22
        refine g_if_le 28 32 (gd rfl) rfl rfl (fun c10x3x25 => ?_) (fun c10x3x25 => ?_)
        · skip
          exact zn_le c10x3x25 (in_c 1 rfl) rfl
        · skip
          refine g_iconst 1 29 (gd rfl) rfl rfl ?_
          refine g_goto 33 (gd rfl) rfl ?_
          refine g_ireturn (gd rfl) rfl (nb01 (in_w 0 1 (in_c 1 rfl) rfl)) (hp10x3 _ _ ?_)
          show GG _ _ _ _ _ _ _ _ [.int (Int32.ofInt 1)] _ _ _
          refine g_ireturn (gd rfl) rfl (nb01 (in_w 0 1 (in_c 1 rfl) rfl)) (hp10 _ _ ?_)
          show GG _ _ _ _ _ _ _ _ [.int (Int32.ofInt 1)] _ _ _
          refine g_if_eq 16 18 (gd rfl) rfl rfl (fun c13 => ?_) (fun c13 => ?_)
          · skip
            exact zn_eq c13 (in_c 1 rfl) rfl
          · skip
            refine g_iconst 0 17 (gd rfl) rfl rfl ?_
            exact g_ireturn (gd rfl) rfl rfl (hP _ _ ⟨(sF s 109 0 (Int32.ofInt 1)), hI10x3x18, (fr_sF rfl fr_rf), (Int32.ofInt 0), rfl, rfl, in_w (-1) 160 (in_c 0 rfl) rfl⟩)
    · skip
      have i7x10 := z_le (-1) 0 c7x10 i7x9 rfl
      have c7x10a := lc_le e7x9 c7x10
      have i7x10a := lr_le1 0 3 c7x10a i7x3a (l_c 3 rfl) rfl
      have i7x10b := l_b e2 i7x10a
      refine g_iconst 1 14 (gd rfl) rfl rfl ?_
      refine g_goto 18 (gd rfl) rfl ?_
      refine g_ireturn (gd rfl) rfl (nb01 (in_w 0 1 (in_c 1 rfl) rfl)) (hp7 _ _ ?_)
      show GG _ _ _ _ _ _ _ _ [.int (Int32.ofInt 1), .ref (A 109)] _ _ _
      refine g_callv (X := _) (As := [.int (Int32.ofInt 1)]) (r := []) (b := A 109) (q := 109) 13 (gd rfl) rfl rfl rfl rfl rfl (ww_o rfl) (Nat.le_of_ble_eq_true rfl) (mc := 0) (ms := 0) (Nat.zero_le _) (Nat.zero_le _) (P := fun v u => _) ?_ (fun e u h => h) (fun v u h => h)
      intro po10 xx10 hp10 hx10
      refine g_enter2 (k := 271) (N := 300) (by first | exact dq1 hd rfl | exact dq0 hd rfl | exact dq2 hd rfl | exact dq3 hd rfl | omega) rfl (Nat.le_of_ble_eq_true rfl) ?_
      refine g_aload_n 1 (gd rfl) rfl rfl ?_
      refine g_iload_n 2 (gd rfl) rfl rfl ?_
      refine g_iconst 1 3 (gd rfl) rfl rfl ?_
      refine g_callv (X := _) (As := [.int (Int32.ofInt 1), .int (Int32.ofInt 1)]) (r := []) (b := A 109) (q := 109) 6 (gd rfl) rfl rfl rfl rfl rfl (ww_o rfl) (Nat.le_of_ble_eq_true rfl) (mc := 0) (ms := 0) (Nat.zero_le _) (Nat.zero_le _) (P := fun v u => _) ?_ (fun e u h => h) (fun v u h => h)
      intro po10x3 xx10x3 hp10x3 hx10x3
      refine g_enter2 (k := 270) (N := 300) (by first | exact dq1 hd rfl | exact dq0 hd rfl | exact dq2 hd rfl | exact dq3 hd rfl | omega) rfl (Nat.le_of_ble_eq_true rfl) ?_
      refine g_aload_n 1 (gd rfl) rfl rfl ?_
      refine g_iload_n 2 (gd rfl) rfl rfl ?_
      refine g_if_ne 5 9 (gd rfl) rfl rfl (fun c10x3x2 => ?_) (fun c10x3x2 => ?_)
      · skip
        refine g_iload_n 10 (gd rfl) rfl rfl ?_
        refine g_if_ne 13 17 (gd rfl) rfl rfl (fun c10x3x10 => ?_) (fun c10x3x10 => ?_)
        · skip
          refine g_iconst 0 18 (gd rfl) rfl rfl ?_
          refine g_putI 21 (gd rfl) rfl rfl rfl rfl ?_
          have hI10x3x18 := inv_sF (q := 109) (j := 0) hI rfl (in_w 0 2 (in_c 0 rfl) rfl)
          refine g_aload_n 22 (gd rfl) rfl rfl ?_
          refine g_getI 25 (gd rfl) rfl rfl rfl (fun z10x3x22 e10x3x22 => ?_)
          have q10x3x22 : (Int32.ofInt 0) = z10x3x22 := (sF_get).trans e10x3x22.symm
          subst q10x3x22
          refine g_if_le 28 32 (gd rfl) rfl rfl (fun c10x3x25 => ?_) (fun c10x3x25 => ?_)
          · skip
            refine g_iconst 0 33 (gd rfl) rfl rfl ?_
            refine g_ireturn (gd rfl) rfl (nb01 (in_w 0 1 (in_c 0 rfl) rfl)) (hp10x3 _ _ ?_)
            show GG _ _ _ _ _ _ _ _ [.int (Int32.ofInt 0)] _ _ _
            refine g_ireturn (gd rfl) rfl (nb01 (in_w 0 1 (in_c 0 rfl) rfl)) (hp10 _ _ ?_)
            show GG _ _ _ _ _ _ _ _ [.int (Int32.ofInt 0)] _ _ _
            refine g_if_eq 16 18 (gd rfl) rfl rfl (fun c13 => ?_) (fun c13 => ?_)
            · skip
              refine g_iconst 0 19 (gd rfl) rfl rfl ?_
              refine g_istore_n 20 (gd rfl) rfl (Nat.le_of_ble_eq_true rfl) ?_
              refine g_iconst 0 21 (gd rfl) rfl rfl ?_
              refine g_istore_n 22 (gd rfl) rfl (Nat.le_of_ble_eq_true rfl) ?_
              refine g_iconst (-1) 23 (gd rfl) rfl rfl ?_
              refine g_istore 25 (gd rfl) rfl (Nat.le_of_ble_eq_true rfl) ?_
              refine g_iconst 0 26 (gd rfl) rfl rfl ?_
              refine g_istore 28 (gd rfl) rfl (Nat.le_of_ble_eq_true rfl) ?_
              have l28 := rl_in 0 (in_c 0 rfl) (in_c 0 rfl) rfl
              have l28a := rl_in 0 (in_c 0 rfl) (in_c 0 rfl) rfl
              exact gg_w (by first | exact Nat.le_of_ble_eq_true rfl | omega) (gg_f (gf_cons rfl (gf_cons rfl (gf_cons rfl (gf_cons rfl (gf_cons rfl (gf_cons rfl gf_nil)))))) (ct28 161 (sF s 109 0 (Int32.ofInt 0)) (Int32.ofInt 0) (Int32.ofInt 0) (Int32.ofInt (-1)) (Int32.ofInt 0) hI10x3x18 (fr_sF rfl fr_rf) (in_w 0 3 i7x10b rfl) (rl_w 0 160 l28 (in_c 0 rfl) (in_w 0 160 (in_c 0 rfl) rfl) rfl) (rl_w 0 160 l28a (in_c 0 rfl) (in_w 0 160 (in_c 0 rfl) rfl) rfl) (in_w (-1) 159 (in_c (-1) rfl) rfl) (in_w 0 160 (in_c 0 rfl) rfl) l28 l28a (m_in 161 (in_w 0 160 (in_c 0 rfl) rfl) rfl)))
            · skip
              exact zn_ne c13 (in_c 0 rfl) rfl
          · skip
            exact zn_gt c10x3x25 (in_c 0 rfl) rfl
        · skip
          exact zn_eq c10x3x10 (in_c 1 rfl) rfl
      · skip
        exact zn_eq c10x3x2 (in_c 1 rfl) rfl

def fm_290 : FM := ([], [], [(109, 0)], [])
/-- GraphHouseModel.told -/
theorem k_290 {Z : AmZ} {A : Nat → Nat} {s : GS} {ex : va_W} {d : Nat} {X : AmX} {x1 : Int32} {x2 : Int32} (hd : 4 ≤ d) (hI : Inv s)  : GC Z d 290 [.ref (A 109), .int x1, .int x2] (WW Z A s ++ ex) 0 0 (fun v u => ∃ t : GS, Inv t ∧ Fr fm_290 s t ∧ ∃ z : Int64, v = some (.long z) ∧ u = WW Z A t ++ ex) X := by
  intro post xp hP hX
  obtain ⟨u_109_19, e_109_19⟩ : ∃ w, w = s.2.2.1 109 19 := ⟨_, rfl⟩
  have ro_109_19 := inv_F hI 0 160 rfl e_109_19
  refine g_enter2 (k := 290) (N := 900) (by first | exact dq1 hd rfl | exact dq0 hd rfl | exact dq2 hd rfl | exact dq3 hd rfl | omega) rfl (Nat.le_of_ble_eq_true rfl) ?_
  refine g_aload_n 1 (gd rfl) rfl rfl ?_
  refine g_iload_n 2 (gd rfl) rfl rfl ?_
  refine g_i2l 3 (gd rfl) rfl (fun z2 e2 => ?_)
  have i2 := l_i e2 (i_rng x1)
  refine g_lconst 0 4 (gd rfl) rfl rfl ?_
  refine g_ldc2_w 159 7 (gd rfl) rfl rfl ?_
  refine g_calls (As := [.long z2, .long (Int64.ofInt 0), .long (Int64.ofInt 159)]) (r := [.ref (A 109)]) 10 (gd rfl) rfl rfl rfl rfl rfl (Nat.le_of_ble_eq_true rfl) (mc := 0) (ms := 0) (Nat.zero_le _) (Nat.zero_le _) (P := fun v u => _) ?_ (fun v u h => h)
  intro po7 xx7 hp7 hx7
  refine g_enter2 (k := 269) (N := 300) (by first | exact dq1 hd rfl | exact dq0 hd rfl | exact dq2 hd rfl | exact dq3 hd rfl | omega) rfl (Nat.le_of_ble_eq_true rfl) ?_
  refine g_lload_n 1 (gd rfl) rfl rfl ?_
  refine g_lload_n 2 (gd rfl) rfl rfl ?_
  refine g_lcmp 3 (gd rfl) rfl (fun z7x2 e7x2 => ?_)
  have i7x2 := lc_in e7x2
  refine g_if_lt 6 17 (gd rfl) rfl rfl (fun c7x3 => ?_) (fun c7x3 => ?_)
  · skip
    have i7x3 := z_lt (-1) (-1) c7x3 i7x2 rfl
    have c7x3a := lc_lt e7x2 c7x3
    have i7x3a := lr_lt1 (-2147483648) (-1) c7x3a i2 (l_c 0 rfl) rfl
    have i7x3b := l_b e2 i7x3a
    refine g_iconst 0 18 (gd rfl) rfl rfl ?_
    refine g_ireturn (gd rfl) rfl (nb01 (in_w 0 1 (in_c 0 rfl) rfl)) (hp7 _ _ ?_)
    show GG _ _ _ _ _ _ _ _ [.int (Int32.ofInt 0), .ref (A 109)] _ _ _
    refine g_if_eq 13 29 (gd rfl) rfl rfl (fun c10 => ?_) (fun c10 => ?_)
    · skip
      refine g_iconst 0 30 (gd rfl) rfl rfl ?_
      refine g_callv (X := _) (As := [.int (Int32.ofInt 0)]) (r := []) (b := A 109) (q := 109) 33 (gd rfl) rfl rfl rfl rfl rfl (ww_o rfl) (Nat.le_of_ble_eq_true rfl) (mc := 0) (ms := 0) (Nat.zero_le _) (Nat.zero_le _) (P := fun v u => _) ?_ (fun e u h => h) (fun v u h => h)
      intro po30 xx30 hp30 hx30
      refine g_enter2 (k := 271) (N := 300) (by first | exact dq1 hd rfl | exact dq0 hd rfl | exact dq2 hd rfl | exact dq3 hd rfl | omega) rfl (Nat.le_of_ble_eq_true rfl) ?_
      refine g_aload_n 1 (gd rfl) rfl rfl ?_
      refine g_iload_n 2 (gd rfl) rfl rfl ?_
      refine g_iconst 1 3 (gd rfl) rfl rfl ?_
      refine g_callv (X := _) (As := [.int (Int32.ofInt 0), .int (Int32.ofInt 1)]) (r := []) (b := A 109) (q := 109) 6 (gd rfl) rfl rfl rfl rfl rfl (ww_o rfl) (Nat.le_of_ble_eq_true rfl) (mc := 0) (ms := 0) (Nat.zero_le _) (Nat.zero_le _) (P := fun v u => _) ?_ (fun e u h => h) (fun v u h => h)
      intro po30x3 xx30x3 hp30x3 hx30x3
      refine g_enter2 (k := 270) (N := 300) (by first | exact dq1 hd rfl | exact dq0 hd rfl | exact dq2 hd rfl | exact dq3 hd rfl | omega) rfl (Nat.le_of_ble_eq_true rfl) ?_
      refine g_aload_n 1 (gd rfl) rfl rfl ?_
      refine g_iload_n 2 (gd rfl) rfl rfl ?_
      refine g_if_ne 5 9 (gd rfl) rfl rfl (fun c30x3x2 => ?_) (fun c30x3x2 => ?_)
      · skip
        exact zn_ne c30x3x2 (in_c 0 rfl) rfl
      · skip
        refine g_iconst 1 6 (gd rfl) rfl rfl ?_
        refine g_goto 18 (gd rfl) rfl ?_
        refine g_putI 21 (gd rfl) rfl rfl rfl rfl ?_
        have hI30x3x18 := inv_sF (q := 109) (j := 0) hI rfl (in_w 0 2 (in_c 1 rfl) rfl)
        refine g_aload_n 22 (gd rfl) rfl rfl ?_
        refine g_getI 25 (gd rfl) rfl rfl rfl (fun z30x3x22 e30x3x22 => ?_)
        have q30x3x22 : (Int32.ofInt 1) = z30x3x22 := (sF_get).trans e30x3x22.symm
        subst q30x3x22
        refine g_if_le 28 32 (gd rfl) rfl rfl (fun c30x3x25 => ?_) (fun c30x3x25 => ?_)
        · skip
          exact zn_le c30x3x25 (in_c 1 rfl) rfl
        · skip
          refine g_iconst 1 29 (gd rfl) rfl rfl ?_
          refine g_goto 33 (gd rfl) rfl ?_
          refine g_ireturn (gd rfl) rfl (nb01 (in_w 0 1 (in_c 1 rfl) rfl)) (hp30x3 _ _ ?_)
          show GG _ _ _ _ _ _ _ _ [.int (Int32.ofInt 1)] _ _ _
          refine g_ireturn (gd rfl) rfl (nb01 (in_w 0 1 (in_c 1 rfl) rfl)) (hp30 _ _ ?_)
          show GG _ _ _ _ _ _ _ _ [.int (Int32.ofInt 1)] _ _ _
          refine g_if_eq 36 38 (gd rfl) rfl rfl (fun c33 => ?_) (fun c33 => ?_)
          · skip
            exact zn_eq c33 (in_c 1 rfl) rfl
          · skip
            refine g_lconst 0 37 (gd rfl) rfl rfl ?_
            exact g_lreturn (gd rfl) rfl (hP _ _ ⟨(sF s 109 0 (Int32.ofInt 1)), hI30x3x18, (fr_sF rfl fr_rf), (Int64.ofInt 0), rfl, rfl⟩)
    · skip
      exact zn_ne c10 (in_c 0 rfl) rfl
  · skip
    have i7x3 := z_ge 0 1 c7x3 i7x2 rfl
    have c7x3a := lc_ge e7x2 c7x3
    have i7x3a := lr_le2 0 2147483647 c7x3a (l_c 0 rfl) i2 rfl
    have i7x3b := l_b e2 i7x3a
    refine g_lload_n 7 (gd rfl) rfl rfl ?_
    refine g_lload 9 (gd rfl) rfl rfl ?_
    refine g_lcmp 10 (gd rfl) rfl (fun z7x9 e7x9 => ?_)
    have i7x9 := lc_in e7x9
    refine g_if_gt 13 17 (gd rfl) rfl rfl (fun c7x10 => ?_) (fun c7x10 => ?_)
    · skip
      have i7x10 := z_gt 1 1 c7x10 i7x9 rfl
      have c7x10a := lc_gt e7x9 c7x10
      have i7x10a := lr_lt2 160 2147483647 c7x10a (l_c 159 rfl) i7x3a rfl
      have i7x10b := l_b e2 i7x10a
      refine g_iconst 0 18 (gd rfl) rfl rfl ?_
      refine g_ireturn (gd rfl) rfl (nb01 (in_w 0 1 (in_c 0 rfl) rfl)) (hp7 _ _ ?_)
      show GG _ _ _ _ _ _ _ _ [.int (Int32.ofInt 0), .ref (A 109)] _ _ _
      refine g_if_eq 13 29 (gd rfl) rfl rfl (fun c10 => ?_) (fun c10 => ?_)
      · skip
        refine g_iconst 0 30 (gd rfl) rfl rfl ?_
        refine g_callv (X := _) (As := [.int (Int32.ofInt 0)]) (r := []) (b := A 109) (q := 109) 33 (gd rfl) rfl rfl rfl rfl rfl (ww_o rfl) (Nat.le_of_ble_eq_true rfl) (mc := 0) (ms := 0) (Nat.zero_le _) (Nat.zero_le _) (P := fun v u => _) ?_ (fun e u h => h) (fun v u h => h)
        intro po30 xx30 hp30 hx30
        refine g_enter2 (k := 271) (N := 300) (by first | exact dq1 hd rfl | exact dq0 hd rfl | exact dq2 hd rfl | exact dq3 hd rfl | omega) rfl (Nat.le_of_ble_eq_true rfl) ?_
        refine g_aload_n 1 (gd rfl) rfl rfl ?_
        refine g_iload_n 2 (gd rfl) rfl rfl ?_
        refine g_iconst 1 3 (gd rfl) rfl rfl ?_
        refine g_callv (X := _) (As := [.int (Int32.ofInt 0), .int (Int32.ofInt 1)]) (r := []) (b := A 109) (q := 109) 6 (gd rfl) rfl rfl rfl rfl rfl (ww_o rfl) (Nat.le_of_ble_eq_true rfl) (mc := 0) (ms := 0) (Nat.zero_le _) (Nat.zero_le _) (P := fun v u => _) ?_ (fun e u h => h) (fun v u h => h)
        intro po30x3 xx30x3 hp30x3 hx30x3
        refine g_enter2 (k := 270) (N := 300) (by first | exact dq1 hd rfl | exact dq0 hd rfl | exact dq2 hd rfl | exact dq3 hd rfl | omega) rfl (Nat.le_of_ble_eq_true rfl) ?_
        refine g_aload_n 1 (gd rfl) rfl rfl ?_
        refine g_iload_n 2 (gd rfl) rfl rfl ?_
        refine g_if_ne 5 9 (gd rfl) rfl rfl (fun c30x3x2 => ?_) (fun c30x3x2 => ?_)
        · skip
          exact zn_ne c30x3x2 (in_c 0 rfl) rfl
        · skip
          refine g_iconst 1 6 (gd rfl) rfl rfl ?_
          refine g_goto 18 (gd rfl) rfl ?_
          refine g_putI 21 (gd rfl) rfl rfl rfl rfl ?_
          have hI30x3x18 := inv_sF (q := 109) (j := 0) hI rfl (in_w 0 2 (in_c 1 rfl) rfl)
          refine g_aload_n 22 (gd rfl) rfl rfl ?_
          refine g_getI 25 (gd rfl) rfl rfl rfl (fun z30x3x22 e30x3x22 => ?_)
          have q30x3x22 : (Int32.ofInt 1) = z30x3x22 := (sF_get).trans e30x3x22.symm
          subst q30x3x22
          refine g_if_le 28 32 (gd rfl) rfl rfl (fun c30x3x25 => ?_) (fun c30x3x25 => ?_)
          · skip
            exact zn_le c30x3x25 (in_c 1 rfl) rfl
          · skip
            refine g_iconst 1 29 (gd rfl) rfl rfl ?_
            refine g_goto 33 (gd rfl) rfl ?_
            refine g_ireturn (gd rfl) rfl (nb01 (in_w 0 1 (in_c 1 rfl) rfl)) (hp30x3 _ _ ?_)
            show GG _ _ _ _ _ _ _ _ [.int (Int32.ofInt 1)] _ _ _
            refine g_ireturn (gd rfl) rfl (nb01 (in_w 0 1 (in_c 1 rfl) rfl)) (hp30 _ _ ?_)
            show GG _ _ _ _ _ _ _ _ [.int (Int32.ofInt 1)] _ _ _
            refine g_if_eq 36 38 (gd rfl) rfl rfl (fun c33 => ?_) (fun c33 => ?_)
            · skip
              exact zn_eq c33 (in_c 1 rfl) rfl
            · skip
              refine g_lconst 0 37 (gd rfl) rfl rfl ?_
              exact g_lreturn (gd rfl) rfl (hP _ _ ⟨(sF s 109 0 (Int32.ofInt 1)), hI30x3x18, (fr_sF rfl fr_rf), (Int64.ofInt 0), rfl, rfl⟩)
      · skip
        exact zn_ne c10 (in_c 0 rfl) rfl
    · skip
      have i7x10 := z_le (-1) 0 c7x10 i7x9 rfl
      have c7x10a := lc_le e7x9 c7x10
      have i7x10a := lr_le1 0 159 c7x10a i7x3a (l_c 159 rfl) rfl
      have i7x10b := l_b e2 i7x10a
      refine g_iconst 1 14 (gd rfl) rfl rfl ?_
      refine g_goto 18 (gd rfl) rfl ?_
      refine g_ireturn (gd rfl) rfl (nb01 (in_w 0 1 (in_c 1 rfl) rfl)) (hp7 _ _ ?_)
      show GG _ _ _ _ _ _ _ _ [.int (Int32.ofInt 1), .ref (A 109)] _ _ _
      refine g_if_eq 13 29 (gd rfl) rfl rfl (fun c10 => ?_) (fun c10 => ?_)
      · skip
        exact zn_eq c10 (in_c 1 rfl) rfl
      · skip
        refine g_iload_n 14 (gd rfl) rfl rfl ?_
        refine g_i2l 15 (gd rfl) rfl (fun z14 e14 => ?_)
        have i14 := l_i e14 (i_rng x2)
        refine g_lconst 0 16 (gd rfl) rfl rfl ?_
        refine g_ldc2_w 4 19 (gd rfl) rfl rfl ?_
        refine g_calls (As := [.long z14, .long (Int64.ofInt 0), .long (Int64.ofInt 4)]) (r := [.ref (A 109)]) 22 (gd rfl) rfl rfl rfl rfl rfl (Nat.le_of_ble_eq_true rfl) (mc := 0) (ms := 0) (Nat.zero_le _) (Nat.zero_le _) (P := fun v u => _) ?_ (fun v u h => h)
        intro po19 xx19 hp19 hx19
        refine g_enter2 (k := 269) (N := 300) (by first | exact dq1 hd rfl | exact dq0 hd rfl | exact dq2 hd rfl | exact dq3 hd rfl | omega) rfl (Nat.le_of_ble_eq_true rfl) ?_
        refine g_lload_n 1 (gd rfl) rfl rfl ?_
        refine g_lload_n 2 (gd rfl) rfl rfl ?_
        refine g_lcmp 3 (gd rfl) rfl (fun z19x2 e19x2 => ?_)
        have i19x2 := lc_in e19x2
        refine g_if_lt 6 17 (gd rfl) rfl rfl (fun c19x3 => ?_) (fun c19x3 => ?_)
        · skip
          have i19x3 := z_lt (-1) (-1) c19x3 i19x2 rfl
          have c19x3a := lc_lt e19x2 c19x3
          have i19x3a := lr_lt1 (-2147483648) (-1) c19x3a i14 (l_c 0 rfl) rfl
          have i19x3b := l_b e14 i19x3a
          refine g_iconst 0 18 (gd rfl) rfl rfl ?_
          refine g_ireturn (gd rfl) rfl (nb01 (in_w 0 1 (in_c 0 rfl) rfl)) (hp19 _ _ ?_)
          show GG _ _ _ _ _ _ _ _ [.int (Int32.ofInt 0), .ref (A 109)] _ _ _
          refine g_if_eq 25 29 (gd rfl) rfl rfl (fun c22 => ?_) (fun c22 => ?_)
          · skip
            refine g_iconst 0 30 (gd rfl) rfl rfl ?_
            refine g_callv (X := _) (As := [.int (Int32.ofInt 0)]) (r := []) (b := A 109) (q := 109) 33 (gd rfl) rfl rfl rfl rfl rfl (ww_o rfl) (Nat.le_of_ble_eq_true rfl) (mc := 0) (ms := 0) (Nat.zero_le _) (Nat.zero_le _) (P := fun v u => _) ?_ (fun e u h => h) (fun v u h => h)
            intro po30 xx30 hp30 hx30
            refine g_enter2 (k := 271) (N := 300) (by first | exact dq1 hd rfl | exact dq0 hd rfl | exact dq2 hd rfl | exact dq3 hd rfl | omega) rfl (Nat.le_of_ble_eq_true rfl) ?_
            refine g_aload_n 1 (gd rfl) rfl rfl ?_
            refine g_iload_n 2 (gd rfl) rfl rfl ?_
            refine g_iconst 1 3 (gd rfl) rfl rfl ?_
            refine g_callv (X := _) (As := [.int (Int32.ofInt 0), .int (Int32.ofInt 1)]) (r := []) (b := A 109) (q := 109) 6 (gd rfl) rfl rfl rfl rfl rfl (ww_o rfl) (Nat.le_of_ble_eq_true rfl) (mc := 0) (ms := 0) (Nat.zero_le _) (Nat.zero_le _) (P := fun v u => _) ?_ (fun e u h => h) (fun v u h => h)
            intro po30x3 xx30x3 hp30x3 hx30x3
            refine g_enter2 (k := 270) (N := 300) (by first | exact dq1 hd rfl | exact dq0 hd rfl | exact dq2 hd rfl | exact dq3 hd rfl | omega) rfl (Nat.le_of_ble_eq_true rfl) ?_
            refine g_aload_n 1 (gd rfl) rfl rfl ?_
            refine g_iload_n 2 (gd rfl) rfl rfl ?_
            refine g_if_ne 5 9 (gd rfl) rfl rfl (fun c30x3x2 => ?_) (fun c30x3x2 => ?_)
            · skip
              exact zn_ne c30x3x2 (in_c 0 rfl) rfl
            · skip
              refine g_iconst 1 6 (gd rfl) rfl rfl ?_
              refine g_goto 18 (gd rfl) rfl ?_
              refine g_putI 21 (gd rfl) rfl rfl rfl rfl ?_
              have hI30x3x18 := inv_sF (q := 109) (j := 0) hI rfl (in_w 0 2 (in_c 1 rfl) rfl)
              refine g_aload_n 22 (gd rfl) rfl rfl ?_
              refine g_getI 25 (gd rfl) rfl rfl rfl (fun z30x3x22 e30x3x22 => ?_)
              have q30x3x22 : (Int32.ofInt 1) = z30x3x22 := (sF_get).trans e30x3x22.symm
              subst q30x3x22
              refine g_if_le 28 32 (gd rfl) rfl rfl (fun c30x3x25 => ?_) (fun c30x3x25 => ?_)
              · skip
                exact zn_le c30x3x25 (in_c 1 rfl) rfl
              · skip
                refine g_iconst 1 29 (gd rfl) rfl rfl ?_
                refine g_goto 33 (gd rfl) rfl ?_
                refine g_ireturn (gd rfl) rfl (nb01 (in_w 0 1 (in_c 1 rfl) rfl)) (hp30x3 _ _ ?_)
                show GG _ _ _ _ _ _ _ _ [.int (Int32.ofInt 1)] _ _ _
                refine g_ireturn (gd rfl) rfl (nb01 (in_w 0 1 (in_c 1 rfl) rfl)) (hp30 _ _ ?_)
                show GG _ _ _ _ _ _ _ _ [.int (Int32.ofInt 1)] _ _ _
                refine g_if_eq 36 38 (gd rfl) rfl rfl (fun c33 => ?_) (fun c33 => ?_)
                · skip
                  exact zn_eq c33 (in_c 1 rfl) rfl
                · skip
                  refine g_lconst 0 37 (gd rfl) rfl rfl ?_
                  exact g_lreturn (gd rfl) rfl (hP _ _ ⟨(sF s 109 0 (Int32.ofInt 1)), hI30x3x18, (fr_sF rfl fr_rf), (Int64.ofInt 0), rfl, rfl⟩)
          · skip
            exact zn_ne c22 (in_c 0 rfl) rfl
        · skip
          have i19x3 := z_ge 0 1 c19x3 i19x2 rfl
          have c19x3a := lc_ge e19x2 c19x3
          have i19x3a := lr_le2 0 2147483647 c19x3a (l_c 0 rfl) i14 rfl
          have i19x3b := l_b e14 i19x3a
          refine g_lload_n 7 (gd rfl) rfl rfl ?_
          refine g_lload 9 (gd rfl) rfl rfl ?_
          refine g_lcmp 10 (gd rfl) rfl (fun z19x9 e19x9 => ?_)
          have i19x9 := lc_in e19x9
          refine g_if_gt 13 17 (gd rfl) rfl rfl (fun c19x10 => ?_) (fun c19x10 => ?_)
          · skip
            have i19x10 := z_gt 1 1 c19x10 i19x9 rfl
            have c19x10a := lc_gt e19x9 c19x10
            have i19x10a := lr_lt2 5 2147483647 c19x10a (l_c 4 rfl) i19x3a rfl
            have i19x10b := l_b e14 i19x10a
            refine g_iconst 0 18 (gd rfl) rfl rfl ?_
            refine g_ireturn (gd rfl) rfl (nb01 (in_w 0 1 (in_c 0 rfl) rfl)) (hp19 _ _ ?_)
            show GG _ _ _ _ _ _ _ _ [.int (Int32.ofInt 0), .ref (A 109)] _ _ _
            refine g_if_eq 25 29 (gd rfl) rfl rfl (fun c22 => ?_) (fun c22 => ?_)
            · skip
              refine g_iconst 0 30 (gd rfl) rfl rfl ?_
              refine g_callv (X := _) (As := [.int (Int32.ofInt 0)]) (r := []) (b := A 109) (q := 109) 33 (gd rfl) rfl rfl rfl rfl rfl (ww_o rfl) (Nat.le_of_ble_eq_true rfl) (mc := 0) (ms := 0) (Nat.zero_le _) (Nat.zero_le _) (P := fun v u => _) ?_ (fun e u h => h) (fun v u h => h)
              intro po30 xx30 hp30 hx30
              refine g_enter2 (k := 271) (N := 300) (by first | exact dq1 hd rfl | exact dq0 hd rfl | exact dq2 hd rfl | exact dq3 hd rfl | omega) rfl (Nat.le_of_ble_eq_true rfl) ?_
              refine g_aload_n 1 (gd rfl) rfl rfl ?_
              refine g_iload_n 2 (gd rfl) rfl rfl ?_
              refine g_iconst 1 3 (gd rfl) rfl rfl ?_
              refine g_callv (X := _) (As := [.int (Int32.ofInt 0), .int (Int32.ofInt 1)]) (r := []) (b := A 109) (q := 109) 6 (gd rfl) rfl rfl rfl rfl rfl (ww_o rfl) (Nat.le_of_ble_eq_true rfl) (mc := 0) (ms := 0) (Nat.zero_le _) (Nat.zero_le _) (P := fun v u => _) ?_ (fun e u h => h) (fun v u h => h)
              intro po30x3 xx30x3 hp30x3 hx30x3
              refine g_enter2 (k := 270) (N := 300) (by first | exact dq1 hd rfl | exact dq0 hd rfl | exact dq2 hd rfl | exact dq3 hd rfl | omega) rfl (Nat.le_of_ble_eq_true rfl) ?_
              refine g_aload_n 1 (gd rfl) rfl rfl ?_
              refine g_iload_n 2 (gd rfl) rfl rfl ?_
              refine g_if_ne 5 9 (gd rfl) rfl rfl (fun c30x3x2 => ?_) (fun c30x3x2 => ?_)
              · skip
                exact zn_ne c30x3x2 (in_c 0 rfl) rfl
              · skip
                refine g_iconst 1 6 (gd rfl) rfl rfl ?_
                refine g_goto 18 (gd rfl) rfl ?_
                refine g_putI 21 (gd rfl) rfl rfl rfl rfl ?_
                have hI30x3x18 := inv_sF (q := 109) (j := 0) hI rfl (in_w 0 2 (in_c 1 rfl) rfl)
                refine g_aload_n 22 (gd rfl) rfl rfl ?_
                refine g_getI 25 (gd rfl) rfl rfl rfl (fun z30x3x22 e30x3x22 => ?_)
                have q30x3x22 : (Int32.ofInt 1) = z30x3x22 := (sF_get).trans e30x3x22.symm
                subst q30x3x22
                refine g_if_le 28 32 (gd rfl) rfl rfl (fun c30x3x25 => ?_) (fun c30x3x25 => ?_)
                · skip
                  exact zn_le c30x3x25 (in_c 1 rfl) rfl
                · skip
                  refine g_iconst 1 29 (gd rfl) rfl rfl ?_
                  refine g_goto 33 (gd rfl) rfl ?_
                  refine g_ireturn (gd rfl) rfl (nb01 (in_w 0 1 (in_c 1 rfl) rfl)) (hp30x3 _ _ ?_)
                  show GG _ _ _ _ _ _ _ _ [.int (Int32.ofInt 1)] _ _ _
                  refine g_ireturn (gd rfl) rfl (nb01 (in_w 0 1 (in_c 1 rfl) rfl)) (hp30 _ _ ?_)
                  show GG _ _ _ _ _ _ _ _ [.int (Int32.ofInt 1)] _ _ _
                  refine g_if_eq 36 38 (gd rfl) rfl rfl (fun c33 => ?_) (fun c33 => ?_)
                  · skip
                    exact zn_eq c33 (in_c 1 rfl) rfl
                  · skip
                    refine g_lconst 0 37 (gd rfl) rfl rfl ?_
                    exact g_lreturn (gd rfl) rfl (hP _ _ ⟨(sF s 109 0 (Int32.ofInt 1)), hI30x3x18, (fr_sF rfl fr_rf), (Int64.ofInt 0), rfl, rfl⟩)
            · skip
              exact zn_ne c22 (in_c 0 rfl) rfl
          · skip
            have i19x10 := z_le (-1) 0 c19x10 i19x9 rfl
            have c19x10a := lc_le e19x9 c19x10
            have i19x10a := lr_le1 0 4 c19x10a i19x3a (l_c 4 rfl) rfl
            have i19x10b := l_b e14 i19x10a
            refine g_iconst 1 14 (gd rfl) rfl rfl ?_
            refine g_goto 18 (gd rfl) rfl ?_
            refine g_ireturn (gd rfl) rfl (nb01 (in_w 0 1 (in_c 1 rfl) rfl)) (hp19 _ _ ?_)
            show GG _ _ _ _ _ _ _ _ [.int (Int32.ofInt 1), .ref (A 109)] _ _ _
            refine g_if_eq 25 29 (gd rfl) rfl rfl (fun c22 => ?_) (fun c22 => ?_)
            · skip
              exact zn_eq c22 (in_c 1 rfl) rfl
            · skip
              refine g_iconst 1 26 (gd rfl) rfl rfl ?_
              refine g_goto 30 (gd rfl) rfl ?_
              refine g_callv (X := _) (As := [.int (Int32.ofInt 1)]) (r := []) (b := A 109) (q := 109) 33 (gd rfl) rfl rfl rfl rfl rfl (ww_o rfl) (Nat.le_of_ble_eq_true rfl) (mc := 0) (ms := 0) (Nat.zero_le _) (Nat.zero_le _) (P := fun v u => _) ?_ (fun e u h => h) (fun v u h => h)
              intro po30 xx30 hp30 hx30
              refine g_enter2 (k := 271) (N := 300) (by first | exact dq1 hd rfl | exact dq0 hd rfl | exact dq2 hd rfl | exact dq3 hd rfl | omega) rfl (Nat.le_of_ble_eq_true rfl) ?_
              refine g_aload_n 1 (gd rfl) rfl rfl ?_
              refine g_iload_n 2 (gd rfl) rfl rfl ?_
              refine g_iconst 1 3 (gd rfl) rfl rfl ?_
              refine g_callv (X := _) (As := [.int (Int32.ofInt 1), .int (Int32.ofInt 1)]) (r := []) (b := A 109) (q := 109) 6 (gd rfl) rfl rfl rfl rfl rfl (ww_o rfl) (Nat.le_of_ble_eq_true rfl) (mc := 0) (ms := 0) (Nat.zero_le _) (Nat.zero_le _) (P := fun v u => _) ?_ (fun e u h => h) (fun v u h => h)
              intro po30x3 xx30x3 hp30x3 hx30x3
              refine g_enter2 (k := 270) (N := 300) (by first | exact dq1 hd rfl | exact dq0 hd rfl | exact dq2 hd rfl | exact dq3 hd rfl | omega) rfl (Nat.le_of_ble_eq_true rfl) ?_
              refine g_aload_n 1 (gd rfl) rfl rfl ?_
              refine g_iload_n 2 (gd rfl) rfl rfl ?_
              refine g_if_ne 5 9 (gd rfl) rfl rfl (fun c30x3x2 => ?_) (fun c30x3x2 => ?_)
              · skip
                refine g_iload_n 10 (gd rfl) rfl rfl ?_
                refine g_if_ne 13 17 (gd rfl) rfl rfl (fun c30x3x10 => ?_) (fun c30x3x10 => ?_)
                · skip
                  refine g_iconst 0 18 (gd rfl) rfl rfl ?_
                  refine g_putI 21 (gd rfl) rfl rfl rfl rfl ?_
                  have hI30x3x18 := inv_sF (q := 109) (j := 0) hI rfl (in_w 0 2 (in_c 0 rfl) rfl)
                  refine g_aload_n 22 (gd rfl) rfl rfl ?_
                  refine g_getI 25 (gd rfl) rfl rfl rfl (fun z30x3x22 e30x3x22 => ?_)
                  have q30x3x22 : (Int32.ofInt 0) = z30x3x22 := (sF_get).trans e30x3x22.symm
                  subst q30x3x22
                  refine g_if_le 28 32 (gd rfl) rfl rfl (fun c30x3x25 => ?_) (fun c30x3x25 => ?_)
                  · skip
                    refine g_iconst 0 33 (gd rfl) rfl rfl ?_
                    refine g_ireturn (gd rfl) rfl (nb01 (in_w 0 1 (in_c 0 rfl) rfl)) (hp30x3 _ _ ?_)
                    show GG _ _ _ _ _ _ _ _ [.int (Int32.ofInt 0)] _ _ _
                    refine g_ireturn (gd rfl) rfl (nb01 (in_w 0 1 (in_c 0 rfl) rfl)) (hp30 _ _ ?_)
                    show GG _ _ _ _ _ _ _ _ [.int (Int32.ofInt 0)] _ _ _
                    refine g_if_eq 36 38 (gd rfl) rfl rfl (fun c33 => ?_) (fun c33 => ?_)
                    · skip
                      refine g_aload_n 39 (gd rfl) rfl rfl ?_
                      refine g_getI 42 (gd rfl) rfl rfl rfl (fun z39 e39 => ?_)
                      have q39 : u_109_19 = z39 := (sF_ne rfl (e_109_19)).trans e39.symm
                      subst q39
                      refine g_iload_n 43 (gd rfl) rfl rfl ?_
                      refine g_iadd 44 (gd rfl) rfl (fun z43 e43 => ?_)
                      have i43 := in_add 0 319 e43 ro_109_19 i7x10b rfl rfl
                      refine g_istore_n 45 (gd rfl) rfl (Nat.le_of_ble_eq_true rfl) ?_
                      refine g_aload_n 46 (gd rfl) rfl rfl ?_
                      refine g_getA (q2 := 112) 49 (gd rfl) rfl rfl rfl rfl ?_
                      refine g_iload_n 50 (gd rfl) rfl rfl ?_
                      refine g_baload 51 (gd rfl) rfl (n := 480) rfl (in_ix i43 rfl) (fun z50 e50 => ?_)
                      have i50 := inv_I hI30x3x18 (n := 480) (t := 3) 0 1 rfl (in_ix i43 rfl) rfl e50
                      refine g_if_ne 54 58 (gd rfl) rfl rfl (fun c51 => ?_) (fun c51 => ?_)
                      · skip
                        have i51 := z_ne 1 1 c51 i50 rfl
                        refine g_iload_n 59 (gd rfl) rfl rfl ?_
                        refine g_if_ne 62 72 (gd rfl) rfl rfl (fun c59 => ?_) (fun c59 => ?_)
                        · skip
                          have i59 := z_ne 1 4 c59 i19x10b rfl
                          refine g_iload_n 73 (gd rfl) rfl rfl ?_
                          refine g_iconst 1 74 (gd rfl) rfl rfl ?_
                          refine g_cmp_ne 77 87 (gd rfl) rfl rfl (fun c74 => ?_) (fun c74 => ?_)
                          · skip
                            have i74 := r_ne1 2 4 c74 i59 (in_c 1 rfl) rfl
                            refine g_iload_n 88 (gd rfl) rfl rfl ?_
                            refine g_iconst 2 89 (gd rfl) rfl rfl ?_
                            refine g_cmp_ne 92 102 (gd rfl) rfl rfl (fun c89 => ?_) (fun c89 => ?_)
                            · skip
                              have i89 := r_ne1 3 4 c89 i74 (in_c 2 rfl) rfl
                              refine g_iload_n 103 (gd rfl) rfl rfl ?_
                              refine g_iconst 3 104 (gd rfl) rfl rfl ?_
                              refine g_cmp_ne 107 117 (gd rfl) rfl rfl (fun c104 => ?_) (fun c104 => ?_)
                              · skip
                                have i104 := r_ne1 4 4 c104 i89 (in_c 3 rfl) rfl
                                refine g_aload_n 118 (gd rfl) rfl rfl ?_
                                refine g_getA (q2 := 117) 121 (gd rfl) rfl rfl rfl rfl ?_
                                refine g_iload_n 122 (gd rfl) rfl rfl ?_
                                refine g_iaload 123 (gd rfl) rfl (n := 480) rfl (in_ix i43 rfl) (fun z122 e122 => ?_)
                                have i122 := inv_I hI30x3x18 (n := 480) (t := 0) 0 25 rfl (in_ix i43 rfl) rfl e122
                                refine g_i2l 124 (gd rfl) rfl (fun z123 e123 => ?_)
                                have i123 := l_i e123 i122
                                exact g_lreturn (gd rfl) rfl (hP _ _ ⟨(sF s 109 0 (Int32.ofInt 0)), hI30x3x18, (fr_sF rfl fr_rf), z123, rfl, rfl⟩)
                              · skip
                                have i104 := r_eq1 3 3 c104 i89 (in_c 3 rfl) rfl
                                refine g_aload_n 108 (gd rfl) rfl rfl ?_
                                refine g_getA (q2 := 116) 111 (gd rfl) rfl rfl rfl rfl ?_
                                refine g_iload_n 112 (gd rfl) rfl rfl ?_
                                refine g_iaload 113 (gd rfl) rfl (n := 480) rfl (in_ix i43 rfl) (fun z112 e112 => ?_)
                                have i112 := inv_I hI30x3x18 (n := 480) (t := 0) 0 1000000 rfl (in_ix i43 rfl) rfl e112
                                refine g_i2l 114 (gd rfl) rfl (fun z113 e113 => ?_)
                                have i113 := l_i e113 i112
                                refine g_goto 124 (gd rfl) rfl ?_
                                exact g_lreturn (gd rfl) rfl (hP _ _ ⟨(sF s 109 0 (Int32.ofInt 0)), hI30x3x18, (fr_sF rfl fr_rf), z113, rfl, rfl⟩)
                            · skip
                              have i89 := r_eq1 2 2 c89 i74 (in_c 2 rfl) rfl
                              refine g_aload_n 93 (gd rfl) rfl rfl ?_
                              refine g_getA (q2 := 115) 96 (gd rfl) rfl rfl rfl rfl ?_
                              refine g_iload_n 97 (gd rfl) rfl rfl ?_
                              refine g_iaload 98 (gd rfl) rfl (n := 480) rfl (in_ix i43 rfl) (fun z97 e97 => ?_)
                              have i97 := inv_I hI30x3x18 (n := 480) (t := 0) (-1000000) 1000000 rfl (in_ix i43 rfl) rfl e97
                              refine g_i2l 99 (gd rfl) rfl (fun z98 e98 => ?_)
                              have i98 := l_i e98 i97
                              refine g_goto 124 (gd rfl) rfl ?_
                              exact g_lreturn (gd rfl) rfl (hP _ _ ⟨(sF s 109 0 (Int32.ofInt 0)), hI30x3x18, (fr_sF rfl fr_rf), z98, rfl, rfl⟩)
                          · skip
                            have i74 := r_eq1 1 1 c74 i59 (in_c 1 rfl) rfl
                            refine g_aload_n 78 (gd rfl) rfl rfl ?_
                            refine g_getA (q2 := 114) 81 (gd rfl) rfl rfl rfl rfl ?_
                            refine g_iload_n 82 (gd rfl) rfl rfl ?_
                            refine g_iaload 83 (gd rfl) rfl (n := 480) rfl (in_ix i43 rfl) (fun z82 e82 => ?_)
                            have i82 := inv_I hI30x3x18 (n := 480) (t := 0) 0 31 rfl (in_ix i43 rfl) rfl e82
                            refine g_i2l 84 (gd rfl) rfl (fun z83 e83 => ?_)
                            have i83 := l_i e83 i82
                            refine g_goto 124 (gd rfl) rfl ?_
                            exact g_lreturn (gd rfl) rfl (hP _ _ ⟨(sF s 109 0 (Int32.ofInt 0)), hI30x3x18, (fr_sF rfl fr_rf), z83, rfl, rfl⟩)
                        · skip
                          have i59 := z_eq 0 0 c59 i19x10b rfl
                          refine g_aload_n 63 (gd rfl) rfl rfl ?_
                          refine g_getA (q2 := 113) 66 (gd rfl) rfl rfl rfl rfl ?_
                          refine g_iload_n 67 (gd rfl) rfl rfl ?_
                          refine g_iaload 68 (gd rfl) rfl (n := 480) rfl (in_ix i43 rfl) (fun z67 e67 => ?_)
                          have i67 := inv_I hI30x3x18 (n := 480) (t := 0) 0 31 rfl (in_ix i43 rfl) rfl e67
                          refine g_i2l 69 (gd rfl) rfl (fun z68 e68 => ?_)
                          have i68 := l_i e68 i67
                          refine g_goto 124 (gd rfl) rfl ?_
                          exact g_lreturn (gd rfl) rfl (hP _ _ ⟨(sF s 109 0 (Int32.ofInt 0)), hI30x3x18, (fr_sF rfl fr_rf), z68, rfl, rfl⟩)
                      · skip
                        have i51 := z_eq 0 0 c51 i50 rfl
                        refine g_ldc2_w 9000000000000000 57 (gd rfl) rfl rfl ?_
                        exact g_lreturn (gd rfl) rfl (hP _ _ ⟨(sF s 109 0 (Int32.ofInt 0)), hI30x3x18, (fr_sF rfl fr_rf), (Int64.ofInt 9000000000000000), rfl, rfl⟩)
                    · skip
                      exact zn_ne c33 (in_c 0 rfl) rfl
                  · skip
                    exact zn_gt c30x3x25 (in_c 0 rfl) rfl
                · skip
                  exact zn_eq c30x3x10 (in_c 1 rfl) rfl
              · skip
                exact zn_eq c30x3x2 (in_c 1 rfl) rfl

def fm_291 : FM := ([], [], [(109, 0)], [])
/-- GraphHouseModel.labelOf -/
theorem k_291 {Z : AmZ} {A : Nat → Nat} {s : GS} {ex : va_W} {d : Nat} {X : AmX} {x1 : Int32} (hd : 4 ≤ d) (hI : Inv s)  : GC Z d 291 [.ref (A 109), .int x1] (WW Z A s ++ ex) 0 0 (fun v u => ∃ t : GS, Inv t ∧ Fr fm_291 s t ∧ ∃ z : Int32, v = some (.int z) ∧ u = WW Z A t ++ ex ∧ In z 0 25) X := by
  intro post xp hP hX
  obtain ⟨u_109_18, e_109_18⟩ : ∃ w, w = s.2.2.1 109 18 := ⟨_, rfl⟩
  have ro_109_18 := inv_F hI 0 1 rfl e_109_18
  obtain ⟨u_109_20, e_109_20⟩ : ∃ w, w = s.2.2.1 109 20 := ⟨_, rfl⟩
  have ro_109_20 := inv_F hI 0 32 rfl e_109_20
  refine g_enter2 (k := 291) (N := 900) (by first | exact dq1 hd rfl | exact dq0 hd rfl | exact dq2 hd rfl | exact dq3 hd rfl | omega) rfl (Nat.le_of_ble_eq_true rfl) ?_
  refine g_aload_n 1 (gd rfl) rfl rfl ?_
  refine g_aload_n 2 (gd rfl) rfl rfl ?_
  refine g_iload_n 3 (gd rfl) rfl rfl ?_
  refine g_callv (X := _) (As := [.int x1]) (r := [.ref (A 109)]) (b := A 109) (q := 109) 6 (gd rfl) rfl rfl rfl rfl rfl (ww_o rfl) (Nat.le_of_ble_eq_true rfl) (mc := 0) (ms := 0) (Nat.zero_le _) (Nat.zero_le _) (P := fun v u => _) ?_ (fun e u h => h) (fun v u h => h)
  intro po3 xx3 hp3 hx3
  refine g_enter2 (k := 272) (N := 300) (by first | exact dq1 hd rfl | exact dq0 hd rfl | exact dq2 hd rfl | exact dq3 hd rfl | omega) rfl (Nat.le_of_ble_eq_true rfl) ?_
  refine g_iload_n 1 (gd rfl) rfl rfl ?_
  refine g_if_lt 4 16 (gd rfl) rfl rfl (fun c3x1 => ?_) (fun c3x1 => ?_)
  · skip
    have i3x1 := z_lt (-2147483648) (-1) c3x1 (i_rng x1) rfl
    refine g_iconst 0 17 (gd rfl) rfl rfl ?_
    refine g_ireturn (gd rfl) rfl (nb01 (in_w 0 1 (in_c 0 rfl) rfl)) (hp3 _ _ ?_)
    show GG _ _ _ _ _ _ _ _ [.int (Int32.ofInt 0), .ref (A 109)] _ _ _
    refine g_callv (X := _) (As := [.int (Int32.ofInt 0)]) (r := []) (b := A 109) (q := 109) 9 (gd rfl) rfl rfl rfl rfl rfl (ww_o rfl) (Nat.le_of_ble_eq_true rfl) (mc := 0) (ms := 0) (Nat.zero_le _) (Nat.zero_le _) (P := fun v u => _) ?_ (fun e u h => h) (fun v u h => h)
    intro po6 xx6 hp6 hx6
    refine g_enter2 (k := 271) (N := 300) (by first | exact dq1 hd rfl | exact dq0 hd rfl | exact dq2 hd rfl | exact dq3 hd rfl | omega) rfl (Nat.le_of_ble_eq_true rfl) ?_
    refine g_aload_n 1 (gd rfl) rfl rfl ?_
    refine g_iload_n 2 (gd rfl) rfl rfl ?_
    refine g_iconst 1 3 (gd rfl) rfl rfl ?_
    refine g_callv (X := _) (As := [.int (Int32.ofInt 0), .int (Int32.ofInt 1)]) (r := []) (b := A 109) (q := 109) 6 (gd rfl) rfl rfl rfl rfl rfl (ww_o rfl) (Nat.le_of_ble_eq_true rfl) (mc := 0) (ms := 0) (Nat.zero_le _) (Nat.zero_le _) (P := fun v u => _) ?_ (fun e u h => h) (fun v u h => h)
    intro po6x3 xx6x3 hp6x3 hx6x3
    refine g_enter2 (k := 270) (N := 300) (by first | exact dq1 hd rfl | exact dq0 hd rfl | exact dq2 hd rfl | exact dq3 hd rfl | omega) rfl (Nat.le_of_ble_eq_true rfl) ?_
    refine g_aload_n 1 (gd rfl) rfl rfl ?_
    refine g_iload_n 2 (gd rfl) rfl rfl ?_
    refine g_if_ne 5 9 (gd rfl) rfl rfl (fun c6x3x2 => ?_) (fun c6x3x2 => ?_)
    · skip
      exact zn_ne c6x3x2 (in_c 0 rfl) rfl
    · skip
      refine g_iconst 1 6 (gd rfl) rfl rfl ?_
      refine g_goto 18 (gd rfl) rfl ?_
      refine g_putI 21 (gd rfl) rfl rfl rfl rfl ?_
      have hI6x3x18 := inv_sF (q := 109) (j := 0) hI rfl (in_w 0 2 (in_c 1 rfl) rfl)
      refine g_aload_n 22 (gd rfl) rfl rfl ?_
      refine g_getI 25 (gd rfl) rfl rfl rfl (fun z6x3x22 e6x3x22 => ?_)
      have q6x3x22 : (Int32.ofInt 1) = z6x3x22 := (sF_get).trans e6x3x22.symm
      subst q6x3x22
      refine g_if_le 28 32 (gd rfl) rfl rfl (fun c6x3x25 => ?_) (fun c6x3x25 => ?_)
      · skip
        exact zn_le c6x3x25 (in_c 1 rfl) rfl
      · skip
        refine g_iconst 1 29 (gd rfl) rfl rfl ?_
        refine g_goto 33 (gd rfl) rfl ?_
        refine g_ireturn (gd rfl) rfl (nb01 (in_w 0 1 (in_c 1 rfl) rfl)) (hp6x3 _ _ ?_)
        show GG _ _ _ _ _ _ _ _ [.int (Int32.ofInt 1)] _ _ _
        refine g_ireturn (gd rfl) rfl (nb01 (in_w 0 1 (in_c 1 rfl) rfl)) (hp6 _ _ ?_)
        show GG _ _ _ _ _ _ _ _ [.int (Int32.ofInt 1)] _ _ _
        refine g_if_eq 12 16 (gd rfl) rfl rfl (fun c9 => ?_) (fun c9 => ?_)
        · skip
          exact zn_eq c9 (in_c 1 rfl) rfl
        · skip
          refine g_iconst 0 13 (gd rfl) rfl rfl ?_
          refine g_goto 30 (gd rfl) rfl ?_
          exact g_ireturn (gd rfl) rfl rfl (hP _ _ ⟨(sF s 109 0 (Int32.ofInt 1)), hI6x3x18, (fr_sF rfl fr_rf), (Int32.ofInt 0), rfl, rfl, in_w 0 25 (in_c 0 rfl) rfl⟩)
  · skip
    have i3x1 := z_ge 0 2147483647 c3x1 (i_rng x1) rfl
    refine g_iload_n 5 (gd rfl) rfl rfl ?_
    refine g_aload_n 6 (gd rfl) rfl rfl ?_
    refine g_getI 9 (gd rfl) rfl rfl rfl (fun z3x6 e3x6 => ?_)
    have q3x6 : u_109_20 = z3x6 := (e_109_20).trans e3x6.symm
    subst q3x6
    refine g_cmp_ge 12 16 (gd rfl) rfl rfl (fun c3x9 => ?_) (fun c3x9 => ?_)
    · skip
      refine g_iconst 0 17 (gd rfl) rfl rfl ?_
      refine g_ireturn (gd rfl) rfl (nb01 (in_w 0 1 (in_c 0 rfl) rfl)) (hp3 _ _ ?_)
      show GG _ _ _ _ _ _ _ _ [.int (Int32.ofInt 0), .ref (A 109)] _ _ _
      refine g_callv (X := _) (As := [.int (Int32.ofInt 0)]) (r := []) (b := A 109) (q := 109) 9 (gd rfl) rfl rfl rfl rfl rfl (ww_o rfl) (Nat.le_of_ble_eq_true rfl) (mc := 0) (ms := 0) (Nat.zero_le _) (Nat.zero_le _) (P := fun v u => _) ?_ (fun e u h => h) (fun v u h => h)
      intro po6 xx6 hp6 hx6
      refine g_enter2 (k := 271) (N := 300) (by first | exact dq1 hd rfl | exact dq0 hd rfl | exact dq2 hd rfl | exact dq3 hd rfl | omega) rfl (Nat.le_of_ble_eq_true rfl) ?_
      refine g_aload_n 1 (gd rfl) rfl rfl ?_
      refine g_iload_n 2 (gd rfl) rfl rfl ?_
      refine g_iconst 1 3 (gd rfl) rfl rfl ?_
      refine g_callv (X := _) (As := [.int (Int32.ofInt 0), .int (Int32.ofInt 1)]) (r := []) (b := A 109) (q := 109) 6 (gd rfl) rfl rfl rfl rfl rfl (ww_o rfl) (Nat.le_of_ble_eq_true rfl) (mc := 0) (ms := 0) (Nat.zero_le _) (Nat.zero_le _) (P := fun v u => _) ?_ (fun e u h => h) (fun v u h => h)
      intro po6x3 xx6x3 hp6x3 hx6x3
      refine g_enter2 (k := 270) (N := 300) (by first | exact dq1 hd rfl | exact dq0 hd rfl | exact dq2 hd rfl | exact dq3 hd rfl | omega) rfl (Nat.le_of_ble_eq_true rfl) ?_
      refine g_aload_n 1 (gd rfl) rfl rfl ?_
      refine g_iload_n 2 (gd rfl) rfl rfl ?_
      refine g_if_ne 5 9 (gd rfl) rfl rfl (fun c6x3x2 => ?_) (fun c6x3x2 => ?_)
      · skip
        exact zn_ne c6x3x2 (in_c 0 rfl) rfl
      · skip
        refine g_iconst 1 6 (gd rfl) rfl rfl ?_
        refine g_goto 18 (gd rfl) rfl ?_
        refine g_putI 21 (gd rfl) rfl rfl rfl rfl ?_
        have hI6x3x18 := inv_sF (q := 109) (j := 0) hI rfl (in_w 0 2 (in_c 1 rfl) rfl)
        refine g_aload_n 22 (gd rfl) rfl rfl ?_
        refine g_getI 25 (gd rfl) rfl rfl rfl (fun z6x3x22 e6x3x22 => ?_)
        have q6x3x22 : (Int32.ofInt 1) = z6x3x22 := (sF_get).trans e6x3x22.symm
        subst q6x3x22
        refine g_if_le 28 32 (gd rfl) rfl rfl (fun c6x3x25 => ?_) (fun c6x3x25 => ?_)
        · skip
          exact zn_le c6x3x25 (in_c 1 rfl) rfl
        · skip
          refine g_iconst 1 29 (gd rfl) rfl rfl ?_
          refine g_goto 33 (gd rfl) rfl ?_
          refine g_ireturn (gd rfl) rfl (nb01 (in_w 0 1 (in_c 1 rfl) rfl)) (hp6x3 _ _ ?_)
          show GG _ _ _ _ _ _ _ _ [.int (Int32.ofInt 1)] _ _ _
          refine g_ireturn (gd rfl) rfl (nb01 (in_w 0 1 (in_c 1 rfl) rfl)) (hp6 _ _ ?_)
          show GG _ _ _ _ _ _ _ _ [.int (Int32.ofInt 1)] _ _ _
          refine g_if_eq 12 16 (gd rfl) rfl rfl (fun c9 => ?_) (fun c9 => ?_)
          · skip
            exact zn_eq c9 (in_c 1 rfl) rfl
          · skip
            refine g_iconst 0 13 (gd rfl) rfl rfl ?_
            refine g_goto 30 (gd rfl) rfl ?_
            exact g_ireturn (gd rfl) rfl rfl (hP _ _ ⟨(sF s 109 0 (Int32.ofInt 1)), hI6x3x18, (fr_sF rfl fr_rf), (Int32.ofInt 0), rfl, rfl, in_w 0 25 (in_c 0 rfl) rfl⟩)
    · skip
      have i3x9 := r_lt1 0 31 c3x9 i3x1 ro_109_20 rfl
      have i3x9a := r_lt2 1 32 c3x9 i3x1 ro_109_20 rfl
      refine g_iconst 1 13 (gd rfl) rfl rfl ?_
      refine g_goto 17 (gd rfl) rfl ?_
      refine g_ireturn (gd rfl) rfl (nb01 (in_w 0 1 (in_c 1 rfl) rfl)) (hp3 _ _ ?_)
      show GG _ _ _ _ _ _ _ _ [.int (Int32.ofInt 1), .ref (A 109)] _ _ _
      refine g_callv (X := _) (As := [.int (Int32.ofInt 1)]) (r := []) (b := A 109) (q := 109) 9 (gd rfl) rfl rfl rfl rfl rfl (ww_o rfl) (Nat.le_of_ble_eq_true rfl) (mc := 0) (ms := 0) (Nat.zero_le _) (Nat.zero_le _) (P := fun v u => _) ?_ (fun e u h => h) (fun v u h => h)
      intro po6 xx6 hp6 hx6
      refine g_enter2 (k := 271) (N := 300) (by first | exact dq1 hd rfl | exact dq0 hd rfl | exact dq2 hd rfl | exact dq3 hd rfl | omega) rfl (Nat.le_of_ble_eq_true rfl) ?_
      refine g_aload_n 1 (gd rfl) rfl rfl ?_
      refine g_iload_n 2 (gd rfl) rfl rfl ?_
      refine g_iconst 1 3 (gd rfl) rfl rfl ?_
      refine g_callv (X := _) (As := [.int (Int32.ofInt 1), .int (Int32.ofInt 1)]) (r := []) (b := A 109) (q := 109) 6 (gd rfl) rfl rfl rfl rfl rfl (ww_o rfl) (Nat.le_of_ble_eq_true rfl) (mc := 0) (ms := 0) (Nat.zero_le _) (Nat.zero_le _) (P := fun v u => _) ?_ (fun e u h => h) (fun v u h => h)
      intro po6x3 xx6x3 hp6x3 hx6x3
      refine g_enter2 (k := 270) (N := 300) (by first | exact dq1 hd rfl | exact dq0 hd rfl | exact dq2 hd rfl | exact dq3 hd rfl | omega) rfl (Nat.le_of_ble_eq_true rfl) ?_
      refine g_aload_n 1 (gd rfl) rfl rfl ?_
      refine g_iload_n 2 (gd rfl) rfl rfl ?_
      refine g_if_ne 5 9 (gd rfl) rfl rfl (fun c6x3x2 => ?_) (fun c6x3x2 => ?_)
      · skip
        refine g_iload_n 10 (gd rfl) rfl rfl ?_
        refine g_if_ne 13 17 (gd rfl) rfl rfl (fun c6x3x10 => ?_) (fun c6x3x10 => ?_)
        · skip
          refine g_iconst 0 18 (gd rfl) rfl rfl ?_
          refine g_putI 21 (gd rfl) rfl rfl rfl rfl ?_
          have hI6x3x18 := inv_sF (q := 109) (j := 0) hI rfl (in_w 0 2 (in_c 0 rfl) rfl)
          refine g_aload_n 22 (gd rfl) rfl rfl ?_
          refine g_getI 25 (gd rfl) rfl rfl rfl (fun z6x3x22 e6x3x22 => ?_)
          have q6x3x22 : (Int32.ofInt 0) = z6x3x22 := (sF_get).trans e6x3x22.symm
          subst q6x3x22
          refine g_if_le 28 32 (gd rfl) rfl rfl (fun c6x3x25 => ?_) (fun c6x3x25 => ?_)
          · skip
            refine g_iconst 0 33 (gd rfl) rfl rfl ?_
            refine g_ireturn (gd rfl) rfl (nb01 (in_w 0 1 (in_c 0 rfl) rfl)) (hp6x3 _ _ ?_)
            show GG _ _ _ _ _ _ _ _ [.int (Int32.ofInt 0)] _ _ _
            refine g_ireturn (gd rfl) rfl (nb01 (in_w 0 1 (in_c 0 rfl) rfl)) (hp6 _ _ ?_)
            show GG _ _ _ _ _ _ _ _ [.int (Int32.ofInt 0)] _ _ _
            refine g_if_eq 12 16 (gd rfl) rfl rfl (fun c9 => ?_) (fun c9 => ?_)
            · skip
              refine g_aload_n 17 (gd rfl) rfl rfl ?_
              refine g_getA (q2 := 111) 20 (gd rfl) rfl rfl rfl rfl ?_
              refine g_bipush 32 22 (gd rfl) rfl rfl ?_
              refine g_aload_n 23 (gd rfl) rfl rfl ?_
              refine g_getI 26 (gd rfl) rfl rfl rfl (fun z23 e23 => ?_)
              have q23 : u_109_18 = z23 := (sF_ne rfl (e_109_18)).trans e23.symm
              subst q23
              refine g_imul 27 (gd rfl) rfl (fun z26 e26 => ?_)
              have i26 := in_mulc 32 0 32 (Or.inl e26) ro_109_18 rfl rfl
              refine g_iload_n 28 (gd rfl) rfl rfl ?_
              refine g_iadd 29 (gd rfl) rfl (fun z28 e28 => ?_)
              have i28 := in_add 0 63 e28 i26 i3x9 rfl rfl
              refine g_iaload 30 (gd rfl) rfl (n := 96) rfl (in_ix i28 rfl) (fun z29 e29 => ?_)
              have i29 := inv_I hI6x3x18 (n := 96) (t := 0) 0 25 rfl (in_ix i28 rfl) rfl e29
              exact g_ireturn (gd rfl) rfl rfl (hP _ _ ⟨(sF s 109 0 (Int32.ofInt 0)), hI6x3x18, (fr_sF rfl fr_rf), z29, rfl, rfl, in_w 0 25 i29 rfl⟩)
            · skip
              exact zn_ne c9 (in_c 0 rfl) rfl
          · skip
            exact zn_gt c6x3x25 (in_c 0 rfl) rfl
        · skip
          exact zn_eq c6x3x10 (in_c 1 rfl) rfl
      · skip
        exact zn_eq c6x3x2 (in_c 1 rfl) rfl

def fm_292 : FM := ([], [], [(109, 0)], [])
/-- GraphHouseModel.arcAt -/
theorem k_292 {Z : AmZ} {A : Nat → Nat} {s : GS} {ex : va_W} {d : Nat} {X : AmX} {x1 : Int32} {x2 : Int32} {x3 : Int32} (hd : 4 ≤ d) (hI : Inv s)  : GC Z d 292 [.ref (A 109), .int x1, .int x2, .int x3] (WW Z A s ++ ex) 0 0 (fun v u => ∃ t : GS, Inv t ∧ Fr fm_292 s t ∧ ∃ z : Int32, v = some (.int z) ∧ u = WW Z A t ++ ex ∧ In z (-1) 159) X := by
  intro post xp hP hX
  obtain ⟨u_109_19, e_109_19⟩ : ∃ w, w = s.2.2.1 109 19 := ⟨_, rfl⟩
  have ro_109_19 := inv_F hI 0 160 rfl e_109_19
  obtain ⟨u_109_20, e_109_20⟩ : ∃ w, w = s.2.2.1 109 20 := ⟨_, rfl⟩
  have ro_109_20 := inv_F hI 0 32 rfl e_109_20
  have ct42 : ∀ (k42 : Nat) (sc42 : GS) (y42_4 : Int32) (y42_5 : Int32), Inv sc42 → Fr fm_292 s sc42 → (In x1 0 31) → (In x2 0 1) → (In x3 0 2147483647) → (In y42_5 0 160) → 160 - (y42_5).toInt < (k42 : Int) → GG Z (d - 1) 292 post (gx xp) (1 + k42 * 1801) 42 (fun j => xlook j [(0, .ref (A 109)), (1, .int x1), (2, .int x2), (3, .int x3), (4, .int y42_4), (5, .int y42_5)]) [] (WW Z A sc42 ++ ex) 0 0 := by
    intro k42
    induction k42 with
    | zero => intro sc42 y42_4 y42_5 hIc42 hFc42 j42_1 j42_2 j42_3 j42_5 mm42; exact m_no mm42 j42_5 rfl
    | succ k42 ih42 =>
      intro sc42 y42_4 y42_5 hIc42 hFc42 j42_1 j42_2 j42_3 j42_5 mm42
      refine gg_w (M := 1 + k42 * 1801 + 1801) gws ?_
      have ct112 : ∀ (sc112 : GS) (y112_4 : Int32), Inv sc112 → Fr fm_292 s sc112 → (In y42_5 0 159) → GG Z (d - 1) 292 post (gx xp) (1 + k42 * 1801 + 901) 112 (fun j => xlook j [(0, .ref (A 109)), (1, .int x1), (2, .int x2), (3, .int x3), (4, .int y112_4), (5, .int y42_5)]) [] (WW Z A sc112 ++ ex) 0 0 := by
        intro sc112 y112_4 hIc112 hFc112 j112_5
        refine g_iinc 115 (gd rfl) rfl rfl (Nat.le_of_ble_eq_true rfl) (fun z112 e112 => ?_)
        have i112 := in_add 1 160 e112 j112_5 (in_c 1 rfl) rfl rfl
        refine g_goto 42 (gd rfl) rfl ?_
        exact gg_w (by first | exact Nat.le_add_right _ _ | exact gw2 | exact gw3 | exact gwe rfl | exact gwf rfl | exact gwg rfl | exact gwh rfl | omega) (gg_f (gf_cons rfl (gf_cons rfl (gf_cons rfl (gf_cons rfl (gf_cons rfl (gf_cons rfl gf_nil)))))) (ih42 sc112 y112_4 z112 hIc112 hFc112 (in_w 0 31 j42_1 rfl) (in_w 0 1 j42_2 rfl) (in_w 0 2147483647 j42_3 rfl) (in_w 0 160 i112 rfl) (m_up mm42 (t_add e112 j112_5 (in_c 1 rfl) rfl) (in_w 1 1 (in_c 1 rfl) rfl))))
      refine g_iload 44 (gd rfl) rfl rfl ?_
      refine g_sipush 160 47 (gd rfl) rfl rfl ?_
      refine g_cmp_ge 50 118 (gd rfl) rfl rfl (fun c47 => ?_) (fun c47 => ?_)
      · skip
        have i47 := r_le2 160 160 c47 (in_c 160 rfl) j42_5 rfl
        refine g_iconst (-1) 119 (gd rfl) rfl rfl ?_
        exact g_ireturn (gd rfl) rfl rfl (hP _ _ ⟨sc42, hIc42, hFc42, (Int32.ofInt (-1)), rfl, rfl, in_w (-1) 159 (in_c (-1) rfl) rfl⟩)
      · skip
        have i47 := r_lt1 0 159 c47 j42_5 (in_c 160 rfl) rfl
        refine g_aload_n 51 (gd rfl) rfl rfl ?_
        refine g_getA (q2 := 112) 54 (gd rfl) rfl rfl rfl rfl ?_
        refine g_aload_n 55 (gd rfl) rfl rfl ?_
        refine g_getI 58 (gd rfl) rfl rfl rfl (fun z55 e55 => ?_)
        have q55 : u_109_19 = z55 := (fr_F e_109_19 hFc42 rfl).trans e55.symm
        subst q55
        refine g_iload 60 (gd rfl) rfl rfl ?_
        refine g_iadd 61 (gd rfl) rfl (fun z60 e60 => ?_)
        have i60 := in_add 0 319 e60 ro_109_19 i47 rfl rfl
        refine g_baload 62 (gd rfl) rfl (n := 480) rfl (in_ix i60 rfl) (fun z61 e61 => ?_)
        have i61 := inv_I hIc42 (n := 480) (t := 3) 0 1 rfl (in_ix i60 rfl) rfl e61
        refine g_if_eq 65 112 (gd rfl) rfl rfl (fun c62 => ?_) (fun c62 => ?_)
        · skip
          have i62 := z_eq 0 0 c62 i61 rfl
          exact gg_w (by first | exact Nat.le_add_right _ _ | exact gw2 | exact gw3 | exact gwe rfl | exact gwf rfl | exact gwg rfl | exact gwh rfl | omega) (gg_f (gf_cons rfl (gf_cons rfl (gf_cons rfl (gf_cons rfl (gf_cons rfl (gf_cons rfl gf_nil)))))) (ct112 sc42 y42_4 hIc42 hFc42 (in_w 0 159 i47 rfl)))
        · skip
          have i62 := z_ne 1 1 c62 i61 rfl
          refine g_iload_n 66 (gd rfl) rfl rfl ?_
          refine g_if_ne 69 84 (gd rfl) rfl rfl (fun c66 => ?_) (fun c66 => ?_)
          · skip
            have i66 := z_ne 1 1 c66 j42_2 rfl
            refine g_aload_n 85 (gd rfl) rfl rfl ?_
            refine g_getA (q2 := 114) 88 (gd rfl) rfl rfl rfl rfl ?_
            refine g_aload_n 89 (gd rfl) rfl rfl ?_
            refine g_getI 92 (gd rfl) rfl rfl rfl (fun z89 e89 => ?_)
            have q89 : u_109_19 = z89 := (fr_F e_109_19 hFc42 rfl).trans e89.symm
            subst q89
            refine g_iload 94 (gd rfl) rfl rfl ?_
            refine g_iadd 95 (gd rfl) rfl (fun z94 e94 => ?_)
            have i94 := in_add 0 319 e94 ro_109_19 i47 rfl rfl
            refine g_iaload 96 (gd rfl) rfl (n := 480) rfl (in_ix i94 rfl) (fun z95 e95 => ?_)
            have i95 := inv_I hIc42 (n := 480) (t := 0) 0 31 rfl (in_ix i94 rfl) rfl e95
            refine g_iload_n 97 (gd rfl) rfl rfl ?_
            refine g_cmp_ne 100 112 (gd rfl) rfl rfl (fun c97 => ?_) (fun c97 => ?_)
            · skip
              exact gg_w (by first | exact Nat.le_add_right _ _ | exact gw2 | exact gw3 | exact gwe rfl | exact gwf rfl | exact gwg rfl | exact gwh rfl | omega) (gg_f (gf_cons rfl (gf_cons rfl (gf_cons rfl (gf_cons rfl (gf_cons rfl (gf_cons rfl gf_nil)))))) (ct112 sc42 y42_4 hIc42 hFc42 (in_w 0 159 i47 rfl)))
            · skip
              refine g_iload 102 (gd rfl) rfl rfl ?_
              refine g_iload_n 103 (gd rfl) rfl rfl ?_
              refine g_cmp_ne 106 109 (gd rfl) rfl rfl (fun c103 => ?_) (fun c103 => ?_)
              · skip
                refine g_iinc 112 (gd rfl) rfl rfl (Nat.le_of_ble_eq_true rfl) (fun z109 e109 => ?_)
                exact gg_w (by first | exact Nat.le_add_right _ _ | exact gw2 | exact gw3 | exact gwe rfl | exact gwf rfl | exact gwg rfl | exact gwh rfl | omega) (gg_f (gf_cons rfl (gf_cons rfl (gf_cons rfl (gf_cons rfl (gf_cons rfl (gf_cons rfl gf_nil)))))) (ct112 sc42 z109 hIc42 hFc42 (in_w 0 159 i47 rfl)))
              · skip
                have i103 := r_eq1 0 2147483647 c103 (i_rng y42_4) j42_3 rfl
                refine g_iload 108 (gd rfl) rfl rfl ?_
                exact g_ireturn (gd rfl) rfl rfl (hP _ _ ⟨sc42, hIc42, hFc42, y42_5, rfl, rfl, in_w (-1) 159 i47 rfl⟩)
          · skip
            have i66 := z_eq 0 0 c66 j42_2 rfl
            refine g_aload_n 70 (gd rfl) rfl rfl ?_
            refine g_getA (q2 := 113) 73 (gd rfl) rfl rfl rfl rfl ?_
            refine g_aload_n 74 (gd rfl) rfl rfl ?_
            refine g_getI 77 (gd rfl) rfl rfl rfl (fun z74 e74 => ?_)
            have q74 : u_109_19 = z74 := (fr_F e_109_19 hFc42 rfl).trans e74.symm
            subst q74
            refine g_iload 79 (gd rfl) rfl rfl ?_
            refine g_iadd 80 (gd rfl) rfl (fun z79 e79 => ?_)
            have i79 := in_add 0 319 e79 ro_109_19 i47 rfl rfl
            refine g_iaload 81 (gd rfl) rfl (n := 480) rfl (in_ix i79 rfl) (fun z80 e80 => ?_)
            have i80 := inv_I hIc42 (n := 480) (t := 0) 0 31 rfl (in_ix i79 rfl) rfl e80
            refine g_goto 96 (gd rfl) rfl ?_
            refine g_iload_n 97 (gd rfl) rfl rfl ?_
            refine g_cmp_ne 100 112 (gd rfl) rfl rfl (fun c97 => ?_) (fun c97 => ?_)
            · skip
              exact gg_w (by first | exact Nat.le_add_right _ _ | exact gw2 | exact gw3 | exact gwe rfl | exact gwf rfl | exact gwg rfl | exact gwh rfl | omega) (gg_f (gf_cons rfl (gf_cons rfl (gf_cons rfl (gf_cons rfl (gf_cons rfl (gf_cons rfl gf_nil)))))) (ct112 sc42 y42_4 hIc42 hFc42 (in_w 0 159 i47 rfl)))
            · skip
              refine g_iload 102 (gd rfl) rfl rfl ?_
              refine g_iload_n 103 (gd rfl) rfl rfl ?_
              refine g_cmp_ne 106 109 (gd rfl) rfl rfl (fun c103 => ?_) (fun c103 => ?_)
              · skip
                refine g_iinc 112 (gd rfl) rfl rfl (Nat.le_of_ble_eq_true rfl) (fun z109 e109 => ?_)
                exact gg_w (by first | exact Nat.le_add_right _ _ | exact gw2 | exact gw3 | exact gwe rfl | exact gwf rfl | exact gwg rfl | exact gwh rfl | omega) (gg_f (gf_cons rfl (gf_cons rfl (gf_cons rfl (gf_cons rfl (gf_cons rfl (gf_cons rfl gf_nil)))))) (ct112 sc42 z109 hIc42 hFc42 (in_w 0 159 i47 rfl)))
              · skip
                have i103 := r_eq1 0 2147483647 c103 (i_rng y42_4) j42_3 rfl
                refine g_iload 108 (gd rfl) rfl rfl ?_
                exact g_ireturn (gd rfl) rfl rfl (hP _ _ ⟨sc42, hIc42, hFc42, y42_5, rfl, rfl, in_w (-1) 159 i47 rfl⟩)
  refine g_enter2 (k := 292) (N := 290862) (by first | exact dq1 hd rfl | exact dq0 hd rfl | exact dq2 hd rfl | exact dq3 hd rfl | omega) rfl (Nat.le_of_ble_eq_true rfl) ?_
  refine g_aload_n 1 (gd rfl) rfl rfl ?_
  refine g_aload_n 2 (gd rfl) rfl rfl ?_
  refine g_iload_n 3 (gd rfl) rfl rfl ?_
  refine g_callv (X := _) (As := [.int x1]) (r := [.ref (A 109)]) (b := A 109) (q := 109) 6 (gd rfl) rfl rfl rfl rfl rfl (ww_o rfl) (Nat.le_of_ble_eq_true rfl) (mc := 0) (ms := 0) (Nat.zero_le _) (Nat.zero_le _) (P := fun v u => _) ?_ (fun e u h => h) (fun v u h => h)
  intro po3 xx3 hp3 hx3
  refine g_enter2 (k := 272) (N := 300) (by first | exact dq1 hd rfl | exact dq0 hd rfl | exact dq2 hd rfl | exact dq3 hd rfl | omega) rfl (Nat.le_of_ble_eq_true rfl) ?_
  refine g_iload_n 1 (gd rfl) rfl rfl ?_
  refine g_if_lt 4 16 (gd rfl) rfl rfl (fun c3x1 => ?_) (fun c3x1 => ?_)
  · skip
    have i3x1 := z_lt (-2147483648) (-1) c3x1 (i_rng x1) rfl
    refine g_iconst 0 17 (gd rfl) rfl rfl ?_
    refine g_ireturn (gd rfl) rfl (nb01 (in_w 0 1 (in_c 0 rfl) rfl)) (hp3 _ _ ?_)
    show GG _ _ _ _ _ _ _ _ [.int (Int32.ofInt 0), .ref (A 109)] _ _ _
    refine g_if_eq 9 27 (gd rfl) rfl rfl (fun c6 => ?_) (fun c6 => ?_)
    · skip
      refine g_iconst 0 28 (gd rfl) rfl rfl ?_
      refine g_callv (X := _) (As := [.int (Int32.ofInt 0)]) (r := []) (b := A 109) (q := 109) 31 (gd rfl) rfl rfl rfl rfl rfl (ww_o rfl) (Nat.le_of_ble_eq_true rfl) (mc := 0) (ms := 0) (Nat.zero_le _) (Nat.zero_le _) (P := fun v u => _) ?_ (fun e u h => h) (fun v u h => h)
      intro po28 xx28 hp28 hx28
      refine g_enter2 (k := 271) (N := 300) (by first | exact dq1 hd rfl | exact dq0 hd rfl | exact dq2 hd rfl | exact dq3 hd rfl | omega) rfl (Nat.le_of_ble_eq_true rfl) ?_
      refine g_aload_n 1 (gd rfl) rfl rfl ?_
      refine g_iload_n 2 (gd rfl) rfl rfl ?_
      refine g_iconst 1 3 (gd rfl) rfl rfl ?_
      refine g_callv (X := _) (As := [.int (Int32.ofInt 0), .int (Int32.ofInt 1)]) (r := []) (b := A 109) (q := 109) 6 (gd rfl) rfl rfl rfl rfl rfl (ww_o rfl) (Nat.le_of_ble_eq_true rfl) (mc := 0) (ms := 0) (Nat.zero_le _) (Nat.zero_le _) (P := fun v u => _) ?_ (fun e u h => h) (fun v u h => h)
      intro po28x3 xx28x3 hp28x3 hx28x3
      refine g_enter2 (k := 270) (N := 300) (by first | exact dq1 hd rfl | exact dq0 hd rfl | exact dq2 hd rfl | exact dq3 hd rfl | omega) rfl (Nat.le_of_ble_eq_true rfl) ?_
      refine g_aload_n 1 (gd rfl) rfl rfl ?_
      refine g_iload_n 2 (gd rfl) rfl rfl ?_
      refine g_if_ne 5 9 (gd rfl) rfl rfl (fun c28x3x2 => ?_) (fun c28x3x2 => ?_)
      · skip
        exact zn_ne c28x3x2 (in_c 0 rfl) rfl
      · skip
        refine g_iconst 1 6 (gd rfl) rfl rfl ?_
        refine g_goto 18 (gd rfl) rfl ?_
        refine g_putI 21 (gd rfl) rfl rfl rfl rfl ?_
        have hI28x3x18 := inv_sF (q := 109) (j := 0) hI rfl (in_w 0 2 (in_c 1 rfl) rfl)
        refine g_aload_n 22 (gd rfl) rfl rfl ?_
        refine g_getI 25 (gd rfl) rfl rfl rfl (fun z28x3x22 e28x3x22 => ?_)
        have q28x3x22 : (Int32.ofInt 1) = z28x3x22 := (sF_get).trans e28x3x22.symm
        subst q28x3x22
        refine g_if_le 28 32 (gd rfl) rfl rfl (fun c28x3x25 => ?_) (fun c28x3x25 => ?_)
        · skip
          exact zn_le c28x3x25 (in_c 1 rfl) rfl
        · skip
          refine g_iconst 1 29 (gd rfl) rfl rfl ?_
          refine g_goto 33 (gd rfl) rfl ?_
          refine g_ireturn (gd rfl) rfl (nb01 (in_w 0 1 (in_c 1 rfl) rfl)) (hp28x3 _ _ ?_)
          show GG _ _ _ _ _ _ _ _ [.int (Int32.ofInt 1)] _ _ _
          refine g_ireturn (gd rfl) rfl (nb01 (in_w 0 1 (in_c 1 rfl) rfl)) (hp28 _ _ ?_)
          show GG _ _ _ _ _ _ _ _ [.int (Int32.ofInt 1)] _ _ _
          refine g_if_eq 34 36 (gd rfl) rfl rfl (fun c31 => ?_) (fun c31 => ?_)
          · skip
            exact zn_eq c31 (in_c 1 rfl) rfl
          · skip
            refine g_iconst 0 35 (gd rfl) rfl rfl ?_
            exact g_ireturn (gd rfl) rfl rfl (hP _ _ ⟨(sF s 109 0 (Int32.ofInt 1)), hI28x3x18, (fr_sF rfl fr_rf), (Int32.ofInt 0), rfl, rfl, in_w (-1) 159 (in_c 0 rfl) rfl⟩)
    · skip
      exact zn_ne c6 (in_c 0 rfl) rfl
  · skip
    have i3x1 := z_ge 0 2147483647 c3x1 (i_rng x1) rfl
    refine g_iload_n 5 (gd rfl) rfl rfl ?_
    refine g_aload_n 6 (gd rfl) rfl rfl ?_
    refine g_getI 9 (gd rfl) rfl rfl rfl (fun z3x6 e3x6 => ?_)
    have q3x6 : u_109_20 = z3x6 := (e_109_20).trans e3x6.symm
    subst q3x6
    refine g_cmp_ge 12 16 (gd rfl) rfl rfl (fun c3x9 => ?_) (fun c3x9 => ?_)
    · skip
      refine g_iconst 0 17 (gd rfl) rfl rfl ?_
      refine g_ireturn (gd rfl) rfl (nb01 (in_w 0 1 (in_c 0 rfl) rfl)) (hp3 _ _ ?_)
      show GG _ _ _ _ _ _ _ _ [.int (Int32.ofInt 0), .ref (A 109)] _ _ _
      refine g_if_eq 9 27 (gd rfl) rfl rfl (fun c6 => ?_) (fun c6 => ?_)
      · skip
        refine g_iconst 0 28 (gd rfl) rfl rfl ?_
        refine g_callv (X := _) (As := [.int (Int32.ofInt 0)]) (r := []) (b := A 109) (q := 109) 31 (gd rfl) rfl rfl rfl rfl rfl (ww_o rfl) (Nat.le_of_ble_eq_true rfl) (mc := 0) (ms := 0) (Nat.zero_le _) (Nat.zero_le _) (P := fun v u => _) ?_ (fun e u h => h) (fun v u h => h)
        intro po28 xx28 hp28 hx28
        refine g_enter2 (k := 271) (N := 300) (by first | exact dq1 hd rfl | exact dq0 hd rfl | exact dq2 hd rfl | exact dq3 hd rfl | omega) rfl (Nat.le_of_ble_eq_true rfl) ?_
        refine g_aload_n 1 (gd rfl) rfl rfl ?_
        refine g_iload_n 2 (gd rfl) rfl rfl ?_
        refine g_iconst 1 3 (gd rfl) rfl rfl ?_
        refine g_callv (X := _) (As := [.int (Int32.ofInt 0), .int (Int32.ofInt 1)]) (r := []) (b := A 109) (q := 109) 6 (gd rfl) rfl rfl rfl rfl rfl (ww_o rfl) (Nat.le_of_ble_eq_true rfl) (mc := 0) (ms := 0) (Nat.zero_le _) (Nat.zero_le _) (P := fun v u => _) ?_ (fun e u h => h) (fun v u h => h)
        intro po28x3 xx28x3 hp28x3 hx28x3
        refine g_enter2 (k := 270) (N := 300) (by first | exact dq1 hd rfl | exact dq0 hd rfl | exact dq2 hd rfl | exact dq3 hd rfl | omega) rfl (Nat.le_of_ble_eq_true rfl) ?_
        refine g_aload_n 1 (gd rfl) rfl rfl ?_
        refine g_iload_n 2 (gd rfl) rfl rfl ?_
        refine g_if_ne 5 9 (gd rfl) rfl rfl (fun c28x3x2 => ?_) (fun c28x3x2 => ?_)
        · skip
          exact zn_ne c28x3x2 (in_c 0 rfl) rfl
        · skip
          refine g_iconst 1 6 (gd rfl) rfl rfl ?_
          refine g_goto 18 (gd rfl) rfl ?_
          refine g_putI 21 (gd rfl) rfl rfl rfl rfl ?_
          have hI28x3x18 := inv_sF (q := 109) (j := 0) hI rfl (in_w 0 2 (in_c 1 rfl) rfl)
          refine g_aload_n 22 (gd rfl) rfl rfl ?_
          refine g_getI 25 (gd rfl) rfl rfl rfl (fun z28x3x22 e28x3x22 => ?_)
          have q28x3x22 : (Int32.ofInt 1) = z28x3x22 := (sF_get).trans e28x3x22.symm
          subst q28x3x22
          refine g_if_le 28 32 (gd rfl) rfl rfl (fun c28x3x25 => ?_) (fun c28x3x25 => ?_)
          · skip
            exact zn_le c28x3x25 (in_c 1 rfl) rfl
          · skip
            refine g_iconst 1 29 (gd rfl) rfl rfl ?_
            refine g_goto 33 (gd rfl) rfl ?_
            refine g_ireturn (gd rfl) rfl (nb01 (in_w 0 1 (in_c 1 rfl) rfl)) (hp28x3 _ _ ?_)
            show GG _ _ _ _ _ _ _ _ [.int (Int32.ofInt 1)] _ _ _
            refine g_ireturn (gd rfl) rfl (nb01 (in_w 0 1 (in_c 1 rfl) rfl)) (hp28 _ _ ?_)
            show GG _ _ _ _ _ _ _ _ [.int (Int32.ofInt 1)] _ _ _
            refine g_if_eq 34 36 (gd rfl) rfl rfl (fun c31 => ?_) (fun c31 => ?_)
            · skip
              exact zn_eq c31 (in_c 1 rfl) rfl
            · skip
              refine g_iconst 0 35 (gd rfl) rfl rfl ?_
              exact g_ireturn (gd rfl) rfl rfl (hP _ _ ⟨(sF s 109 0 (Int32.ofInt 1)), hI28x3x18, (fr_sF rfl fr_rf), (Int32.ofInt 0), rfl, rfl, in_w (-1) 159 (in_c 0 rfl) rfl⟩)
      · skip
        exact zn_ne c6 (in_c 0 rfl) rfl
    · skip
      have i3x9 := r_lt1 0 31 c3x9 i3x1 ro_109_20 rfl
      have i3x9a := r_lt2 1 32 c3x9 i3x1 ro_109_20 rfl
      refine g_iconst 1 13 (gd rfl) rfl rfl ?_
      refine g_goto 17 (gd rfl) rfl ?_
      refine g_ireturn (gd rfl) rfl (nb01 (in_w 0 1 (in_c 1 rfl) rfl)) (hp3 _ _ ?_)
      show GG _ _ _ _ _ _ _ _ [.int (Int32.ofInt 1), .ref (A 109)] _ _ _
      refine g_if_eq 9 27 (gd rfl) rfl rfl (fun c6 => ?_) (fun c6 => ?_)
      · skip
        exact zn_eq c6 (in_c 1 rfl) rfl
      · skip
        refine g_iload_n 10 (gd rfl) rfl rfl ?_
        refine g_i2l 11 (gd rfl) rfl (fun z10 e10 => ?_)
        have i10 := l_i e10 (i_rng x2)
        refine g_lconst 0 12 (gd rfl) rfl rfl ?_
        refine g_lconst 1 13 (gd rfl) rfl rfl ?_
        refine g_calls (As := [.long z10, .long (Int64.ofInt 0), .long (Int64.ofInt 1)]) (r := [.ref (A 109)]) 16 (gd rfl) rfl rfl rfl rfl rfl (Nat.le_of_ble_eq_true rfl) (mc := 0) (ms := 0) (Nat.zero_le _) (Nat.zero_le _) (P := fun v u => _) ?_ (fun v u h => h)
        intro po13 xx13 hp13 hx13
        refine g_enter2 (k := 269) (N := 300) (by first | exact dq1 hd rfl | exact dq0 hd rfl | exact dq2 hd rfl | exact dq3 hd rfl | omega) rfl (Nat.le_of_ble_eq_true rfl) ?_
        refine g_lload_n 1 (gd rfl) rfl rfl ?_
        refine g_lload_n 2 (gd rfl) rfl rfl ?_
        refine g_lcmp 3 (gd rfl) rfl (fun z13x2 e13x2 => ?_)
        have i13x2 := lc_in e13x2
        refine g_if_lt 6 17 (gd rfl) rfl rfl (fun c13x3 => ?_) (fun c13x3 => ?_)
        · skip
          have i13x3 := z_lt (-1) (-1) c13x3 i13x2 rfl
          have c13x3a := lc_lt e13x2 c13x3
          have i13x3a := lr_lt1 (-2147483648) (-1) c13x3a i10 (l_c 0 rfl) rfl
          have i13x3b := l_b e10 i13x3a
          refine g_iconst 0 18 (gd rfl) rfl rfl ?_
          refine g_ireturn (gd rfl) rfl (nb01 (in_w 0 1 (in_c 0 rfl) rfl)) (hp13 _ _ ?_)
          show GG _ _ _ _ _ _ _ _ [.int (Int32.ofInt 0), .ref (A 109)] _ _ _
          refine g_if_eq 19 27 (gd rfl) rfl rfl (fun c16 => ?_) (fun c16 => ?_)
          · skip
            refine g_iconst 0 28 (gd rfl) rfl rfl ?_
            refine g_callv (X := _) (As := [.int (Int32.ofInt 0)]) (r := []) (b := A 109) (q := 109) 31 (gd rfl) rfl rfl rfl rfl rfl (ww_o rfl) (Nat.le_of_ble_eq_true rfl) (mc := 0) (ms := 0) (Nat.zero_le _) (Nat.zero_le _) (P := fun v u => _) ?_ (fun e u h => h) (fun v u h => h)
            intro po28 xx28 hp28 hx28
            refine g_enter2 (k := 271) (N := 300) (by first | exact dq1 hd rfl | exact dq0 hd rfl | exact dq2 hd rfl | exact dq3 hd rfl | omega) rfl (Nat.le_of_ble_eq_true rfl) ?_
            refine g_aload_n 1 (gd rfl) rfl rfl ?_
            refine g_iload_n 2 (gd rfl) rfl rfl ?_
            refine g_iconst 1 3 (gd rfl) rfl rfl ?_
            refine g_callv (X := _) (As := [.int (Int32.ofInt 0), .int (Int32.ofInt 1)]) (r := []) (b := A 109) (q := 109) 6 (gd rfl) rfl rfl rfl rfl rfl (ww_o rfl) (Nat.le_of_ble_eq_true rfl) (mc := 0) (ms := 0) (Nat.zero_le _) (Nat.zero_le _) (P := fun v u => _) ?_ (fun e u h => h) (fun v u h => h)
            intro po28x3 xx28x3 hp28x3 hx28x3
            refine g_enter2 (k := 270) (N := 300) (by first | exact dq1 hd rfl | exact dq0 hd rfl | exact dq2 hd rfl | exact dq3 hd rfl | omega) rfl (Nat.le_of_ble_eq_true rfl) ?_
            refine g_aload_n 1 (gd rfl) rfl rfl ?_
            refine g_iload_n 2 (gd rfl) rfl rfl ?_
            refine g_if_ne 5 9 (gd rfl) rfl rfl (fun c28x3x2 => ?_) (fun c28x3x2 => ?_)
            · skip
              exact zn_ne c28x3x2 (in_c 0 rfl) rfl
            · skip
              refine g_iconst 1 6 (gd rfl) rfl rfl ?_
              refine g_goto 18 (gd rfl) rfl ?_
              refine g_putI 21 (gd rfl) rfl rfl rfl rfl ?_
              have hI28x3x18 := inv_sF (q := 109) (j := 0) hI rfl (in_w 0 2 (in_c 1 rfl) rfl)
              refine g_aload_n 22 (gd rfl) rfl rfl ?_
              refine g_getI 25 (gd rfl) rfl rfl rfl (fun z28x3x22 e28x3x22 => ?_)
              have q28x3x22 : (Int32.ofInt 1) = z28x3x22 := (sF_get).trans e28x3x22.symm
              subst q28x3x22
              refine g_if_le 28 32 (gd rfl) rfl rfl (fun c28x3x25 => ?_) (fun c28x3x25 => ?_)
              · skip
                exact zn_le c28x3x25 (in_c 1 rfl) rfl
              · skip
                refine g_iconst 1 29 (gd rfl) rfl rfl ?_
                refine g_goto 33 (gd rfl) rfl ?_
                refine g_ireturn (gd rfl) rfl (nb01 (in_w 0 1 (in_c 1 rfl) rfl)) (hp28x3 _ _ ?_)
                show GG _ _ _ _ _ _ _ _ [.int (Int32.ofInt 1)] _ _ _
                refine g_ireturn (gd rfl) rfl (nb01 (in_w 0 1 (in_c 1 rfl) rfl)) (hp28 _ _ ?_)
                show GG _ _ _ _ _ _ _ _ [.int (Int32.ofInt 1)] _ _ _
                refine g_if_eq 34 36 (gd rfl) rfl rfl (fun c31 => ?_) (fun c31 => ?_)
                · skip
                  exact zn_eq c31 (in_c 1 rfl) rfl
                · skip
                  refine g_iconst 0 35 (gd rfl) rfl rfl ?_
                  exact g_ireturn (gd rfl) rfl rfl (hP _ _ ⟨(sF s 109 0 (Int32.ofInt 1)), hI28x3x18, (fr_sF rfl fr_rf), (Int32.ofInt 0), rfl, rfl, in_w (-1) 159 (in_c 0 rfl) rfl⟩)
          · skip
            exact zn_ne c16 (in_c 0 rfl) rfl
        · skip
          have i13x3 := z_ge 0 1 c13x3 i13x2 rfl
          have c13x3a := lc_ge e13x2 c13x3
          have i13x3a := lr_le2 0 2147483647 c13x3a (l_c 0 rfl) i10 rfl
          have i13x3b := l_b e10 i13x3a
          refine g_lload_n 7 (gd rfl) rfl rfl ?_
          refine g_lload 9 (gd rfl) rfl rfl ?_
          refine g_lcmp 10 (gd rfl) rfl (fun z13x9 e13x9 => ?_)
          have i13x9 := lc_in e13x9
          refine g_if_gt 13 17 (gd rfl) rfl rfl (fun c13x10 => ?_) (fun c13x10 => ?_)
          · skip
            have i13x10 := z_gt 1 1 c13x10 i13x9 rfl
            have c13x10a := lc_gt e13x9 c13x10
            have i13x10a := lr_lt2 2 2147483647 c13x10a (l_c 1 rfl) i13x3a rfl
            have i13x10b := l_b e10 i13x10a
            refine g_iconst 0 18 (gd rfl) rfl rfl ?_
            refine g_ireturn (gd rfl) rfl (nb01 (in_w 0 1 (in_c 0 rfl) rfl)) (hp13 _ _ ?_)
            show GG _ _ _ _ _ _ _ _ [.int (Int32.ofInt 0), .ref (A 109)] _ _ _
            refine g_if_eq 19 27 (gd rfl) rfl rfl (fun c16 => ?_) (fun c16 => ?_)
            · skip
              refine g_iconst 0 28 (gd rfl) rfl rfl ?_
              refine g_callv (X := _) (As := [.int (Int32.ofInt 0)]) (r := []) (b := A 109) (q := 109) 31 (gd rfl) rfl rfl rfl rfl rfl (ww_o rfl) (Nat.le_of_ble_eq_true rfl) (mc := 0) (ms := 0) (Nat.zero_le _) (Nat.zero_le _) (P := fun v u => _) ?_ (fun e u h => h) (fun v u h => h)
              intro po28 xx28 hp28 hx28
              refine g_enter2 (k := 271) (N := 300) (by first | exact dq1 hd rfl | exact dq0 hd rfl | exact dq2 hd rfl | exact dq3 hd rfl | omega) rfl (Nat.le_of_ble_eq_true rfl) ?_
              refine g_aload_n 1 (gd rfl) rfl rfl ?_
              refine g_iload_n 2 (gd rfl) rfl rfl ?_
              refine g_iconst 1 3 (gd rfl) rfl rfl ?_
              refine g_callv (X := _) (As := [.int (Int32.ofInt 0), .int (Int32.ofInt 1)]) (r := []) (b := A 109) (q := 109) 6 (gd rfl) rfl rfl rfl rfl rfl (ww_o rfl) (Nat.le_of_ble_eq_true rfl) (mc := 0) (ms := 0) (Nat.zero_le _) (Nat.zero_le _) (P := fun v u => _) ?_ (fun e u h => h) (fun v u h => h)
              intro po28x3 xx28x3 hp28x3 hx28x3
              refine g_enter2 (k := 270) (N := 300) (by first | exact dq1 hd rfl | exact dq0 hd rfl | exact dq2 hd rfl | exact dq3 hd rfl | omega) rfl (Nat.le_of_ble_eq_true rfl) ?_
              refine g_aload_n 1 (gd rfl) rfl rfl ?_
              refine g_iload_n 2 (gd rfl) rfl rfl ?_
              refine g_if_ne 5 9 (gd rfl) rfl rfl (fun c28x3x2 => ?_) (fun c28x3x2 => ?_)
              · skip
                exact zn_ne c28x3x2 (in_c 0 rfl) rfl
              · skip
                refine g_iconst 1 6 (gd rfl) rfl rfl ?_
                refine g_goto 18 (gd rfl) rfl ?_
                refine g_putI 21 (gd rfl) rfl rfl rfl rfl ?_
                have hI28x3x18 := inv_sF (q := 109) (j := 0) hI rfl (in_w 0 2 (in_c 1 rfl) rfl)
                refine g_aload_n 22 (gd rfl) rfl rfl ?_
                refine g_getI 25 (gd rfl) rfl rfl rfl (fun z28x3x22 e28x3x22 => ?_)
                have q28x3x22 : (Int32.ofInt 1) = z28x3x22 := (sF_get).trans e28x3x22.symm
                subst q28x3x22
                refine g_if_le 28 32 (gd rfl) rfl rfl (fun c28x3x25 => ?_) (fun c28x3x25 => ?_)
                · skip
                  exact zn_le c28x3x25 (in_c 1 rfl) rfl
                · skip
                  refine g_iconst 1 29 (gd rfl) rfl rfl ?_
                  refine g_goto 33 (gd rfl) rfl ?_
                  refine g_ireturn (gd rfl) rfl (nb01 (in_w 0 1 (in_c 1 rfl) rfl)) (hp28x3 _ _ ?_)
                  show GG _ _ _ _ _ _ _ _ [.int (Int32.ofInt 1)] _ _ _
                  refine g_ireturn (gd rfl) rfl (nb01 (in_w 0 1 (in_c 1 rfl) rfl)) (hp28 _ _ ?_)
                  show GG _ _ _ _ _ _ _ _ [.int (Int32.ofInt 1)] _ _ _
                  refine g_if_eq 34 36 (gd rfl) rfl rfl (fun c31 => ?_) (fun c31 => ?_)
                  · skip
                    exact zn_eq c31 (in_c 1 rfl) rfl
                  · skip
                    refine g_iconst 0 35 (gd rfl) rfl rfl ?_
                    exact g_ireturn (gd rfl) rfl rfl (hP _ _ ⟨(sF s 109 0 (Int32.ofInt 1)), hI28x3x18, (fr_sF rfl fr_rf), (Int32.ofInt 0), rfl, rfl, in_w (-1) 159 (in_c 0 rfl) rfl⟩)
            · skip
              exact zn_ne c16 (in_c 0 rfl) rfl
          · skip
            have i13x10 := z_le (-1) 0 c13x10 i13x9 rfl
            have c13x10a := lc_le e13x9 c13x10
            have i13x10a := lr_le1 0 1 c13x10a i13x3a (l_c 1 rfl) rfl
            have i13x10b := l_b e10 i13x10a
            refine g_iconst 1 14 (gd rfl) rfl rfl ?_
            refine g_goto 18 (gd rfl) rfl ?_
            refine g_ireturn (gd rfl) rfl (nb01 (in_w 0 1 (in_c 1 rfl) rfl)) (hp13 _ _ ?_)
            show GG _ _ _ _ _ _ _ _ [.int (Int32.ofInt 1), .ref (A 109)] _ _ _
            refine g_if_eq 19 27 (gd rfl) rfl rfl (fun c16 => ?_) (fun c16 => ?_)
            · skip
              exact zn_eq c16 (in_c 1 rfl) rfl
            · skip
              refine g_iload_n 20 (gd rfl) rfl rfl ?_
              refine g_if_lt 23 27 (gd rfl) rfl rfl (fun c20 => ?_) (fun c20 => ?_)
              · skip
                have i20 := z_lt (-2147483648) (-1) c20 (i_rng x3) rfl
                refine g_iconst 0 28 (gd rfl) rfl rfl ?_
                refine g_callv (X := _) (As := [.int (Int32.ofInt 0)]) (r := []) (b := A 109) (q := 109) 31 (gd rfl) rfl rfl rfl rfl rfl (ww_o rfl) (Nat.le_of_ble_eq_true rfl) (mc := 0) (ms := 0) (Nat.zero_le _) (Nat.zero_le _) (P := fun v u => _) ?_ (fun e u h => h) (fun v u h => h)
                intro po28 xx28 hp28 hx28
                refine g_enter2 (k := 271) (N := 300) (by first | exact dq1 hd rfl | exact dq0 hd rfl | exact dq2 hd rfl | exact dq3 hd rfl | omega) rfl (Nat.le_of_ble_eq_true rfl) ?_
                refine g_aload_n 1 (gd rfl) rfl rfl ?_
                refine g_iload_n 2 (gd rfl) rfl rfl ?_
                refine g_iconst 1 3 (gd rfl) rfl rfl ?_
                refine g_callv (X := _) (As := [.int (Int32.ofInt 0), .int (Int32.ofInt 1)]) (r := []) (b := A 109) (q := 109) 6 (gd rfl) rfl rfl rfl rfl rfl (ww_o rfl) (Nat.le_of_ble_eq_true rfl) (mc := 0) (ms := 0) (Nat.zero_le _) (Nat.zero_le _) (P := fun v u => _) ?_ (fun e u h => h) (fun v u h => h)
                intro po28x3 xx28x3 hp28x3 hx28x3
                refine g_enter2 (k := 270) (N := 300) (by first | exact dq1 hd rfl | exact dq0 hd rfl | exact dq2 hd rfl | exact dq3 hd rfl | omega) rfl (Nat.le_of_ble_eq_true rfl) ?_
                refine g_aload_n 1 (gd rfl) rfl rfl ?_
                refine g_iload_n 2 (gd rfl) rfl rfl ?_
                refine g_if_ne 5 9 (gd rfl) rfl rfl (fun c28x3x2 => ?_) (fun c28x3x2 => ?_)
                · skip
                  exact zn_ne c28x3x2 (in_c 0 rfl) rfl
                · skip
                  refine g_iconst 1 6 (gd rfl) rfl rfl ?_
                  refine g_goto 18 (gd rfl) rfl ?_
                  refine g_putI 21 (gd rfl) rfl rfl rfl rfl ?_
                  have hI28x3x18 := inv_sF (q := 109) (j := 0) hI rfl (in_w 0 2 (in_c 1 rfl) rfl)
                  refine g_aload_n 22 (gd rfl) rfl rfl ?_
                  refine g_getI 25 (gd rfl) rfl rfl rfl (fun z28x3x22 e28x3x22 => ?_)
                  have q28x3x22 : (Int32.ofInt 1) = z28x3x22 := (sF_get).trans e28x3x22.symm
                  subst q28x3x22
                  refine g_if_le 28 32 (gd rfl) rfl rfl (fun c28x3x25 => ?_) (fun c28x3x25 => ?_)
                  · skip
                    exact zn_le c28x3x25 (in_c 1 rfl) rfl
                  · skip
                    refine g_iconst 1 29 (gd rfl) rfl rfl ?_
                    refine g_goto 33 (gd rfl) rfl ?_
                    refine g_ireturn (gd rfl) rfl (nb01 (in_w 0 1 (in_c 1 rfl) rfl)) (hp28x3 _ _ ?_)
                    show GG _ _ _ _ _ _ _ _ [.int (Int32.ofInt 1)] _ _ _
                    refine g_ireturn (gd rfl) rfl (nb01 (in_w 0 1 (in_c 1 rfl) rfl)) (hp28 _ _ ?_)
                    show GG _ _ _ _ _ _ _ _ [.int (Int32.ofInt 1)] _ _ _
                    refine g_if_eq 34 36 (gd rfl) rfl rfl (fun c31 => ?_) (fun c31 => ?_)
                    · skip
                      exact zn_eq c31 (in_c 1 rfl) rfl
                    · skip
                      refine g_iconst 0 35 (gd rfl) rfl rfl ?_
                      exact g_ireturn (gd rfl) rfl rfl (hP _ _ ⟨(sF s 109 0 (Int32.ofInt 1)), hI28x3x18, (fr_sF rfl fr_rf), (Int32.ofInt 0), rfl, rfl, in_w (-1) 159 (in_c 0 rfl) rfl⟩)
              · skip
                have i20 := z_ge 0 2147483647 c20 (i_rng x3) rfl
                refine g_iconst 1 24 (gd rfl) rfl rfl ?_
                refine g_goto 28 (gd rfl) rfl ?_
                refine g_callv (X := _) (As := [.int (Int32.ofInt 1)]) (r := []) (b := A 109) (q := 109) 31 (gd rfl) rfl rfl rfl rfl rfl (ww_o rfl) (Nat.le_of_ble_eq_true rfl) (mc := 0) (ms := 0) (Nat.zero_le _) (Nat.zero_le _) (P := fun v u => _) ?_ (fun e u h => h) (fun v u h => h)
                intro po28 xx28 hp28 hx28
                refine g_enter2 (k := 271) (N := 300) (by first | exact dq1 hd rfl | exact dq0 hd rfl | exact dq2 hd rfl | exact dq3 hd rfl | omega) rfl (Nat.le_of_ble_eq_true rfl) ?_
                refine g_aload_n 1 (gd rfl) rfl rfl ?_
                refine g_iload_n 2 (gd rfl) rfl rfl ?_
                refine g_iconst 1 3 (gd rfl) rfl rfl ?_
                refine g_callv (X := _) (As := [.int (Int32.ofInt 1), .int (Int32.ofInt 1)]) (r := []) (b := A 109) (q := 109) 6 (gd rfl) rfl rfl rfl rfl rfl (ww_o rfl) (Nat.le_of_ble_eq_true rfl) (mc := 0) (ms := 0) (Nat.zero_le _) (Nat.zero_le _) (P := fun v u => _) ?_ (fun e u h => h) (fun v u h => h)
                intro po28x3 xx28x3 hp28x3 hx28x3
                refine g_enter2 (k := 270) (N := 300) (by first | exact dq1 hd rfl | exact dq0 hd rfl | exact dq2 hd rfl | exact dq3 hd rfl | omega) rfl (Nat.le_of_ble_eq_true rfl) ?_
                refine g_aload_n 1 (gd rfl) rfl rfl ?_
                refine g_iload_n 2 (gd rfl) rfl rfl ?_
                refine g_if_ne 5 9 (gd rfl) rfl rfl (fun c28x3x2 => ?_) (fun c28x3x2 => ?_)
                · skip
                  refine g_iload_n 10 (gd rfl) rfl rfl ?_
                  refine g_if_ne 13 17 (gd rfl) rfl rfl (fun c28x3x10 => ?_) (fun c28x3x10 => ?_)
                  · skip
                    refine g_iconst 0 18 (gd rfl) rfl rfl ?_
                    refine g_putI 21 (gd rfl) rfl rfl rfl rfl ?_
                    have hI28x3x18 := inv_sF (q := 109) (j := 0) hI rfl (in_w 0 2 (in_c 0 rfl) rfl)
                    refine g_aload_n 22 (gd rfl) rfl rfl ?_
                    refine g_getI 25 (gd rfl) rfl rfl rfl (fun z28x3x22 e28x3x22 => ?_)
                    have q28x3x22 : (Int32.ofInt 0) = z28x3x22 := (sF_get).trans e28x3x22.symm
                    subst q28x3x22
                    refine g_if_le 28 32 (gd rfl) rfl rfl (fun c28x3x25 => ?_) (fun c28x3x25 => ?_)
                    · skip
                      refine g_iconst 0 33 (gd rfl) rfl rfl ?_
                      refine g_ireturn (gd rfl) rfl (nb01 (in_w 0 1 (in_c 0 rfl) rfl)) (hp28x3 _ _ ?_)
                      show GG _ _ _ _ _ _ _ _ [.int (Int32.ofInt 0)] _ _ _
                      refine g_ireturn (gd rfl) rfl (nb01 (in_w 0 1 (in_c 0 rfl) rfl)) (hp28 _ _ ?_)
                      show GG _ _ _ _ _ _ _ _ [.int (Int32.ofInt 0)] _ _ _
                      refine g_if_eq 34 36 (gd rfl) rfl rfl (fun c31 => ?_) (fun c31 => ?_)
                      · skip
                        refine g_iconst 0 37 (gd rfl) rfl rfl ?_
                        refine g_istore 39 (gd rfl) rfl (Nat.le_of_ble_eq_true rfl) ?_
                        refine g_iconst 0 40 (gd rfl) rfl rfl ?_
                        refine g_istore 42 (gd rfl) rfl (Nat.le_of_ble_eq_true rfl) ?_
                        exact gg_w (by first | exact Nat.le_of_ble_eq_true rfl | omega) (gg_f (gf_cons rfl (gf_cons rfl (gf_cons rfl (gf_cons rfl (gf_cons rfl (gf_cons rfl gf_nil)))))) (ct42 161 (sF s 109 0 (Int32.ofInt 0)) (Int32.ofInt 0) (Int32.ofInt 0) hI28x3x18 (fr_sF rfl fr_rf) (in_w 0 31 i3x9 rfl) (in_w 0 1 i13x10b rfl) (in_w 0 2147483647 i20 rfl) (in_w 0 160 (in_c 0 rfl) rfl) (m_in 161 (in_w 0 160 (in_c 0 rfl) rfl) rfl)))
                      · skip
                        exact zn_ne c31 (in_c 0 rfl) rfl
                    · skip
                      exact zn_gt c28x3x25 (in_c 0 rfl) rfl
                  · skip
                    exact zn_eq c28x3x10 (in_c 1 rfl) rfl
                · skip
                  exact zn_eq c28x3x2 (in_c 1 rfl) rfl

def fm_293 : FM := ([125], [], [(109, 0), (109, 22)], [])
def fm_294 : FM := ([], [], [(109, 0), (109, 22)], [])
def fm_295 : FM := ([], [], [(109, 0)], [])
/-- GraphHouseModel.fault -/
theorem k_295 {Z : AmZ} {A : Nat → Nat} {s : GS} {ex : va_W} {d : Nat} {X : AmX} {x1 : Int32} (hd : 4 ≤ d) (hI : Inv s)  : GC Z d 295 [.ref (A 109), .int x1] (WW Z A s ++ ex) 0 0 (fun v u => ∃ t : GS, Inv t ∧ Fr fm_295 s t ∧ ∃ z : Int32, v = some (.int z) ∧ u = WW Z A t ++ ex ∧ In z (-2147483648) 2147483647) X := by
  intro post xp hP hX
  obtain ⟨u_109_23, e_109_23⟩ : ∃ w, w = s.2.2.1 109 23 := ⟨_, rfl⟩
  have ro_109_23 := inv_F hI 0 9 rfl e_109_23
  obtain ⟨u_109_24, e_109_24⟩ : ∃ w, w = s.2.2.1 109 24 := ⟨_, rfl⟩
  refine g_enter2 (k := 295) (N := 900) (by first | exact dq1 hd rfl | exact dq0 hd rfl | exact dq2 hd rfl | exact dq3 hd rfl | omega) rfl (Nat.le_of_ble_eq_true rfl) ?_
  refine g_aload_n 1 (gd rfl) rfl rfl ?_
  refine g_iload_n 2 (gd rfl) rfl rfl ?_
  refine g_i2l 3 (gd rfl) rfl (fun z2 e2 => ?_)
  have i2 := l_i e2 (i_rng x1)
  refine g_lconst 0 4 (gd rfl) rfl rfl ?_
  refine g_lconst 1 5 (gd rfl) rfl rfl ?_
  refine g_calls (As := [.long z2, .long (Int64.ofInt 0), .long (Int64.ofInt 1)]) (r := [.ref (A 109)]) 8 (gd rfl) rfl rfl rfl rfl rfl (Nat.le_of_ble_eq_true rfl) (mc := 0) (ms := 0) (Nat.zero_le _) (Nat.zero_le _) (P := fun v u => _) ?_ (fun v u h => h)
  intro po5 xx5 hp5 hx5
  refine g_enter2 (k := 269) (N := 300) (by first | exact dq1 hd rfl | exact dq0 hd rfl | exact dq2 hd rfl | exact dq3 hd rfl | omega) rfl (Nat.le_of_ble_eq_true rfl) ?_
  refine g_lload_n 1 (gd rfl) rfl rfl ?_
  refine g_lload_n 2 (gd rfl) rfl rfl ?_
  refine g_lcmp 3 (gd rfl) rfl (fun z5x2 e5x2 => ?_)
  have i5x2 := lc_in e5x2
  refine g_if_lt 6 17 (gd rfl) rfl rfl (fun c5x3 => ?_) (fun c5x3 => ?_)
  · skip
    have i5x3 := z_lt (-1) (-1) c5x3 i5x2 rfl
    have c5x3a := lc_lt e5x2 c5x3
    have i5x3a := lr_lt1 (-2147483648) (-1) c5x3a i2 (l_c 0 rfl) rfl
    have i5x3b := l_b e2 i5x3a
    refine g_iconst 0 18 (gd rfl) rfl rfl ?_
    refine g_ireturn (gd rfl) rfl (nb01 (in_w 0 1 (in_c 0 rfl) rfl)) (hp5 _ _ ?_)
    show GG _ _ _ _ _ _ _ _ [.int (Int32.ofInt 0), .ref (A 109)] _ _ _
    refine g_callv (X := _) (As := [.int (Int32.ofInt 0)]) (r := []) (b := A 109) (q := 109) 11 (gd rfl) rfl rfl rfl rfl rfl (ww_o rfl) (Nat.le_of_ble_eq_true rfl) (mc := 0) (ms := 0) (Nat.zero_le _) (Nat.zero_le _) (P := fun v u => _) ?_ (fun e u h => h) (fun v u h => h)
    intro po8 xx8 hp8 hx8
    refine g_enter2 (k := 271) (N := 300) (by first | exact dq1 hd rfl | exact dq0 hd rfl | exact dq2 hd rfl | exact dq3 hd rfl | omega) rfl (Nat.le_of_ble_eq_true rfl) ?_
    refine g_aload_n 1 (gd rfl) rfl rfl ?_
    refine g_iload_n 2 (gd rfl) rfl rfl ?_
    refine g_iconst 1 3 (gd rfl) rfl rfl ?_
    refine g_callv (X := _) (As := [.int (Int32.ofInt 0), .int (Int32.ofInt 1)]) (r := []) (b := A 109) (q := 109) 6 (gd rfl) rfl rfl rfl rfl rfl (ww_o rfl) (Nat.le_of_ble_eq_true rfl) (mc := 0) (ms := 0) (Nat.zero_le _) (Nat.zero_le _) (P := fun v u => _) ?_ (fun e u h => h) (fun v u h => h)
    intro po8x3 xx8x3 hp8x3 hx8x3
    refine g_enter2 (k := 270) (N := 300) (by first | exact dq1 hd rfl | exact dq0 hd rfl | exact dq2 hd rfl | exact dq3 hd rfl | omega) rfl (Nat.le_of_ble_eq_true rfl) ?_
    refine g_aload_n 1 (gd rfl) rfl rfl ?_
    refine g_iload_n 2 (gd rfl) rfl rfl ?_
    refine g_if_ne 5 9 (gd rfl) rfl rfl (fun c8x3x2 => ?_) (fun c8x3x2 => ?_)
    · skip
      exact zn_ne c8x3x2 (in_c 0 rfl) rfl
    · skip
      refine g_iconst 1 6 (gd rfl) rfl rfl ?_
      refine g_goto 18 (gd rfl) rfl ?_
      refine g_putI 21 (gd rfl) rfl rfl rfl rfl ?_
      have hI8x3x18 := inv_sF (q := 109) (j := 0) hI rfl (in_w 0 2 (in_c 1 rfl) rfl)
      refine g_aload_n 22 (gd rfl) rfl rfl ?_
      refine g_getI 25 (gd rfl) rfl rfl rfl (fun z8x3x22 e8x3x22 => ?_)
      have q8x3x22 : (Int32.ofInt 1) = z8x3x22 := (sF_get).trans e8x3x22.symm
      subst q8x3x22
      refine g_if_le 28 32 (gd rfl) rfl rfl (fun c8x3x25 => ?_) (fun c8x3x25 => ?_)
      · skip
        exact zn_le c8x3x25 (in_c 1 rfl) rfl
      · skip
        refine g_iconst 1 29 (gd rfl) rfl rfl ?_
        refine g_goto 33 (gd rfl) rfl ?_
        refine g_ireturn (gd rfl) rfl (nb01 (in_w 0 1 (in_c 1 rfl) rfl)) (hp8x3 _ _ ?_)
        show GG _ _ _ _ _ _ _ _ [.int (Int32.ofInt 1)] _ _ _
        refine g_ireturn (gd rfl) rfl (nb01 (in_w 0 1 (in_c 1 rfl) rfl)) (hp8 _ _ ?_)
        show GG _ _ _ _ _ _ _ _ [.int (Int32.ofInt 1)] _ _ _
        refine g_if_eq 14 16 (gd rfl) rfl rfl (fun c11 => ?_) (fun c11 => ?_)
        · skip
          exact zn_eq c11 (in_c 1 rfl) rfl
        · skip
          refine g_iconst 0 15 (gd rfl) rfl rfl ?_
          exact g_ireturn (gd rfl) rfl rfl (hP _ _ ⟨(sF s 109 0 (Int32.ofInt 1)), hI8x3x18, (fr_sF rfl fr_rf), (Int32.ofInt 0), rfl, rfl, in_w (-2147483648) 2147483647 (in_c 0 rfl) rfl⟩)
  · skip
    have i5x3 := z_ge 0 1 c5x3 i5x2 rfl
    have c5x3a := lc_ge e5x2 c5x3
    have i5x3a := lr_le2 0 2147483647 c5x3a (l_c 0 rfl) i2 rfl
    have i5x3b := l_b e2 i5x3a
    refine g_lload_n 7 (gd rfl) rfl rfl ?_
    refine g_lload 9 (gd rfl) rfl rfl ?_
    refine g_lcmp 10 (gd rfl) rfl (fun z5x9 e5x9 => ?_)
    have i5x9 := lc_in e5x9
    refine g_if_gt 13 17 (gd rfl) rfl rfl (fun c5x10 => ?_) (fun c5x10 => ?_)
    · skip
      have i5x10 := z_gt 1 1 c5x10 i5x9 rfl
      have c5x10a := lc_gt e5x9 c5x10
      have i5x10a := lr_lt2 2 2147483647 c5x10a (l_c 1 rfl) i5x3a rfl
      have i5x10b := l_b e2 i5x10a
      refine g_iconst 0 18 (gd rfl) rfl rfl ?_
      refine g_ireturn (gd rfl) rfl (nb01 (in_w 0 1 (in_c 0 rfl) rfl)) (hp5 _ _ ?_)
      show GG _ _ _ _ _ _ _ _ [.int (Int32.ofInt 0), .ref (A 109)] _ _ _
      refine g_callv (X := _) (As := [.int (Int32.ofInt 0)]) (r := []) (b := A 109) (q := 109) 11 (gd rfl) rfl rfl rfl rfl rfl (ww_o rfl) (Nat.le_of_ble_eq_true rfl) (mc := 0) (ms := 0) (Nat.zero_le _) (Nat.zero_le _) (P := fun v u => _) ?_ (fun e u h => h) (fun v u h => h)
      intro po8 xx8 hp8 hx8
      refine g_enter2 (k := 271) (N := 300) (by first | exact dq1 hd rfl | exact dq0 hd rfl | exact dq2 hd rfl | exact dq3 hd rfl | omega) rfl (Nat.le_of_ble_eq_true rfl) ?_
      refine g_aload_n 1 (gd rfl) rfl rfl ?_
      refine g_iload_n 2 (gd rfl) rfl rfl ?_
      refine g_iconst 1 3 (gd rfl) rfl rfl ?_
      refine g_callv (X := _) (As := [.int (Int32.ofInt 0), .int (Int32.ofInt 1)]) (r := []) (b := A 109) (q := 109) 6 (gd rfl) rfl rfl rfl rfl rfl (ww_o rfl) (Nat.le_of_ble_eq_true rfl) (mc := 0) (ms := 0) (Nat.zero_le _) (Nat.zero_le _) (P := fun v u => _) ?_ (fun e u h => h) (fun v u h => h)
      intro po8x3 xx8x3 hp8x3 hx8x3
      refine g_enter2 (k := 270) (N := 300) (by first | exact dq1 hd rfl | exact dq0 hd rfl | exact dq2 hd rfl | exact dq3 hd rfl | omega) rfl (Nat.le_of_ble_eq_true rfl) ?_
      refine g_aload_n 1 (gd rfl) rfl rfl ?_
      refine g_iload_n 2 (gd rfl) rfl rfl ?_
      refine g_if_ne 5 9 (gd rfl) rfl rfl (fun c8x3x2 => ?_) (fun c8x3x2 => ?_)
      · skip
        exact zn_ne c8x3x2 (in_c 0 rfl) rfl
      · skip
        refine g_iconst 1 6 (gd rfl) rfl rfl ?_
        refine g_goto 18 (gd rfl) rfl ?_
        refine g_putI 21 (gd rfl) rfl rfl rfl rfl ?_
        have hI8x3x18 := inv_sF (q := 109) (j := 0) hI rfl (in_w 0 2 (in_c 1 rfl) rfl)
        refine g_aload_n 22 (gd rfl) rfl rfl ?_
        refine g_getI 25 (gd rfl) rfl rfl rfl (fun z8x3x22 e8x3x22 => ?_)
        have q8x3x22 : (Int32.ofInt 1) = z8x3x22 := (sF_get).trans e8x3x22.symm
        subst q8x3x22
        refine g_if_le 28 32 (gd rfl) rfl rfl (fun c8x3x25 => ?_) (fun c8x3x25 => ?_)
        · skip
          exact zn_le c8x3x25 (in_c 1 rfl) rfl
        · skip
          refine g_iconst 1 29 (gd rfl) rfl rfl ?_
          refine g_goto 33 (gd rfl) rfl ?_
          refine g_ireturn (gd rfl) rfl (nb01 (in_w 0 1 (in_c 1 rfl) rfl)) (hp8x3 _ _ ?_)
          show GG _ _ _ _ _ _ _ _ [.int (Int32.ofInt 1)] _ _ _
          refine g_ireturn (gd rfl) rfl (nb01 (in_w 0 1 (in_c 1 rfl) rfl)) (hp8 _ _ ?_)
          show GG _ _ _ _ _ _ _ _ [.int (Int32.ofInt 1)] _ _ _
          refine g_if_eq 14 16 (gd rfl) rfl rfl (fun c11 => ?_) (fun c11 => ?_)
          · skip
            exact zn_eq c11 (in_c 1 rfl) rfl
          · skip
            refine g_iconst 0 15 (gd rfl) rfl rfl ?_
            exact g_ireturn (gd rfl) rfl rfl (hP _ _ ⟨(sF s 109 0 (Int32.ofInt 1)), hI8x3x18, (fr_sF rfl fr_rf), (Int32.ofInt 0), rfl, rfl, in_w (-2147483648) 2147483647 (in_c 0 rfl) rfl⟩)
    · skip
      have i5x10 := z_le (-1) 0 c5x10 i5x9 rfl
      have c5x10a := lc_le e5x9 c5x10
      have i5x10a := lr_le1 0 1 c5x10a i5x3a (l_c 1 rfl) rfl
      have i5x10b := l_b e2 i5x10a
      refine g_iconst 1 14 (gd rfl) rfl rfl ?_
      refine g_goto 18 (gd rfl) rfl ?_
      refine g_ireturn (gd rfl) rfl (nb01 (in_w 0 1 (in_c 1 rfl) rfl)) (hp5 _ _ ?_)
      show GG _ _ _ _ _ _ _ _ [.int (Int32.ofInt 1), .ref (A 109)] _ _ _
      refine g_callv (X := _) (As := [.int (Int32.ofInt 1)]) (r := []) (b := A 109) (q := 109) 11 (gd rfl) rfl rfl rfl rfl rfl (ww_o rfl) (Nat.le_of_ble_eq_true rfl) (mc := 0) (ms := 0) (Nat.zero_le _) (Nat.zero_le _) (P := fun v u => _) ?_ (fun e u h => h) (fun v u h => h)
      intro po8 xx8 hp8 hx8
      refine g_enter2 (k := 271) (N := 300) (by first | exact dq1 hd rfl | exact dq0 hd rfl | exact dq2 hd rfl | exact dq3 hd rfl | omega) rfl (Nat.le_of_ble_eq_true rfl) ?_
      refine g_aload_n 1 (gd rfl) rfl rfl ?_
      refine g_iload_n 2 (gd rfl) rfl rfl ?_
      refine g_iconst 1 3 (gd rfl) rfl rfl ?_
      refine g_callv (X := _) (As := [.int (Int32.ofInt 1), .int (Int32.ofInt 1)]) (r := []) (b := A 109) (q := 109) 6 (gd rfl) rfl rfl rfl rfl rfl (ww_o rfl) (Nat.le_of_ble_eq_true rfl) (mc := 0) (ms := 0) (Nat.zero_le _) (Nat.zero_le _) (P := fun v u => _) ?_ (fun e u h => h) (fun v u h => h)
      intro po8x3 xx8x3 hp8x3 hx8x3
      refine g_enter2 (k := 270) (N := 300) (by first | exact dq1 hd rfl | exact dq0 hd rfl | exact dq2 hd rfl | exact dq3 hd rfl | omega) rfl (Nat.le_of_ble_eq_true rfl) ?_
      refine g_aload_n 1 (gd rfl) rfl rfl ?_
      refine g_iload_n 2 (gd rfl) rfl rfl ?_
      refine g_if_ne 5 9 (gd rfl) rfl rfl (fun c8x3x2 => ?_) (fun c8x3x2 => ?_)
      · skip
        refine g_iload_n 10 (gd rfl) rfl rfl ?_
        refine g_if_ne 13 17 (gd rfl) rfl rfl (fun c8x3x10 => ?_) (fun c8x3x10 => ?_)
        · skip
          refine g_iconst 0 18 (gd rfl) rfl rfl ?_
          refine g_putI 21 (gd rfl) rfl rfl rfl rfl ?_
          have hI8x3x18 := inv_sF (q := 109) (j := 0) hI rfl (in_w 0 2 (in_c 0 rfl) rfl)
          refine g_aload_n 22 (gd rfl) rfl rfl ?_
          refine g_getI 25 (gd rfl) rfl rfl rfl (fun z8x3x22 e8x3x22 => ?_)
          have q8x3x22 : (Int32.ofInt 0) = z8x3x22 := (sF_get).trans e8x3x22.symm
          subst q8x3x22
          refine g_if_le 28 32 (gd rfl) rfl rfl (fun c8x3x25 => ?_) (fun c8x3x25 => ?_)
          · skip
            refine g_iconst 0 33 (gd rfl) rfl rfl ?_
            refine g_ireturn (gd rfl) rfl (nb01 (in_w 0 1 (in_c 0 rfl) rfl)) (hp8x3 _ _ ?_)
            show GG _ _ _ _ _ _ _ _ [.int (Int32.ofInt 0)] _ _ _
            refine g_ireturn (gd rfl) rfl (nb01 (in_w 0 1 (in_c 0 rfl) rfl)) (hp8 _ _ ?_)
            show GG _ _ _ _ _ _ _ _ [.int (Int32.ofInt 0)] _ _ _
            refine g_if_eq 14 16 (gd rfl) rfl rfl (fun c11 => ?_) (fun c11 => ?_)
            · skip
              refine g_aload_n 17 (gd rfl) rfl rfl ?_
              refine g_getI 20 (gd rfl) rfl rfl rfl (fun z17 e17 => ?_)
              have q17 : u_109_23 = z17 := (sF_ne rfl (e_109_23)).trans e17.symm
              subst q17
              refine g_if_ne 23 27 (gd rfl) rfl rfl (fun c20 => ?_) (fun c20 => ?_)
              · skip
                have i20 := z_ne 1 9 c20 ro_109_23 rfl
                refine g_iload_n 28 (gd rfl) rfl rfl ?_
                refine g_if_ne 31 38 (gd rfl) rfl rfl (fun c28 => ?_) (fun c28 => ?_)
                · skip
                  have i28 := z_ne 1 1 c28 i5x10b rfl
                  refine g_aload_n 39 (gd rfl) rfl rfl ?_
                  refine g_getI 42 (gd rfl) rfl rfl rfl (fun z39 e39 => ?_)
                  have q39 : u_109_24 = z39 := (sF_ne rfl (e_109_24)).trans e39.symm
                  subst q39
                  exact g_ireturn (gd rfl) rfl rfl (hP _ _ ⟨(sF s 109 0 (Int32.ofInt 0)), hI8x3x18, (fr_sF rfl fr_rf), u_109_24, rfl, rfl, in_w (-2147483648) 2147483647 (i_rng u_109_24) rfl⟩)
                · skip
                  have i28 := z_eq 0 0 c28 i5x10b rfl
                  refine g_aload_n 32 (gd rfl) rfl rfl ?_
                  refine g_getI 35 (gd rfl) rfl rfl rfl (fun z32 e32 => ?_)
                  have q32 : u_109_23 = z32 := (sF_ne rfl (e_109_23)).trans e32.symm
                  subst q32
                  refine g_goto 42 (gd rfl) rfl ?_
                  exact g_ireturn (gd rfl) rfl rfl (hP _ _ ⟨(sF s 109 0 (Int32.ofInt 0)), hI8x3x18, (fr_sF rfl fr_rf), u_109_23, rfl, rfl, in_w (-2147483648) 2147483647 i20 rfl⟩)
              · skip
                have i20 := z_eq 0 0 c20 ro_109_23 rfl
                refine g_iconst (-1) 24 (gd rfl) rfl rfl ?_
                refine g_goto 42 (gd rfl) rfl ?_
                exact g_ireturn (gd rfl) rfl rfl (hP _ _ ⟨(sF s 109 0 (Int32.ofInt 0)), hI8x3x18, (fr_sF rfl fr_rf), (Int32.ofInt (-1)), rfl, rfl, in_w (-2147483648) 2147483647 (in_c (-1) rfl) rfl⟩)
            · skip
              exact zn_ne c11 (in_c 0 rfl) rfl
          · skip
            exact zn_gt c8x3x25 (in_c 0 rfl) rfl
        · skip
          exact zn_eq c8x3x10 (in_c 1 rfl) rfl
      · skip
        exact zn_eq c8x3x2 (in_c 1 rfl) rfl

def fm_303 : FM := ([110, 112], [], [], [])
end
section
/-! methods, by vc.py -/
def fm_307 : FM := ([126], [], [(109, 26)], [])
/-- GraphHouseModel.putNumber -/
theorem k_307 {Z : AmZ} {A : Nat → Nat} {s : GS} {ex : va_W} {d : Nat} {X : AmX} {x1 : Int32} {u_109_26 : Int32} (hd : 3 ≤ d) (hI : Inv s) (h1 : In x1 (-1000000) 1000000) (e_109_26 : u_109_26 = s.2.2.1 109 26) (p_0 : (u_109_26).toInt ≤ 7900) : GC Z d 307 [.ref (A 109), .int x1] (WW Z A s ++ ex) 0 0 (fun v u => ∃ t : GS, Inv t ∧ Fr fm_307 s t ∧ ((t.2.2.1 109 26).toInt ≤ (s.2.2.1 109 26).toInt + 9) ∧ v = none ∧ u = WW Z A t ++ ex) X := by
  intro post xp hP hX
  have ct45 : ∀ (k45 : Nat) (sc45 : GS) (y45_2 : Int32) (y45_3 : Int32) (w45_109_26 : Int32), Inv sc45 → Fr fm_307 s sc45 → (In y45_2 0 1000000) → (In y45_3 0 1000000) → (w45_109_26 = sc45.2.2.1 109 26) → ((((y45_3).toInt = 1 ∧ (w45_109_26).toInt ≤ (u_109_26).toInt + 8) ∨ ((y45_3).toInt = 10 ∧ (w45_109_26).toInt ≤ (u_109_26).toInt + 7) ∨ ((y45_3).toInt = 100 ∧ (w45_109_26).toInt ≤ (u_109_26).toInt + 6) ∨ ((y45_3).toInt = 1000 ∧ (w45_109_26).toInt ≤ (u_109_26).toInt + 5) ∨ ((y45_3).toInt = 10000 ∧ (w45_109_26).toInt ≤ (u_109_26).toInt + 4) ∨ ((y45_3).toInt = 100000 ∧ (w45_109_26).toInt ≤ (u_109_26).toInt + 3) ∨ ((y45_3).toInt = 1000000 ∧ (w45_109_26).toInt ≤ (u_109_26).toInt + 2) ∨ ((y45_3).toInt = 0 ∧ (w45_109_26).toInt ≤ (u_109_26).toInt + 9))) → (y45_3).toInt < (k45 : Int) → GG Z (d - 1) 307 post (gx xp) (1 + k45 * 900) 45 (fun j => xlook j [(0, .ref (A 109)), (1, .int x1), (2, .int y45_2), (3, .int y45_3)]) [] (WW Z A sc45 ++ ex) 0 0 := by
    intro k45
    induction k45 with
    | zero => intro sc45 y45_2 y45_3 w45_109_26 hIc45 hFc45 j45_2 j45_3 v45_109_26 n45_0 mm45; exfalso; (first | have a0 := oa2 h1 ((inv_F hIc45 0 8000 rfl v45_109_26)) | ((first | have a0 := in_u h1 | (have a0 := h1; unfold In at a0)); (first | have a1 := in_u ((inv_F hIc45 0 8000 rfl v45_109_26)) | (have a1 := (inv_F hIc45 0 8000 rfl v45_109_26); unfold In at a1)))); have a2 := j45_3; unfold In at a2; have a3 := j45_2; unfold In at a3; omega
    | succ k45 ih45 =>
      intro sc45 y45_2 y45_3 w45_109_26 hIc45 hFc45 j45_2 j45_3 v45_109_26 n45_0 mm45
      refine gg_w (M := 1 + k45 * 900 + 900) gws ?_
      refine g_iload_n 46 (gd rfl) rfl rfl ?_
      refine g_if_le 49 70 (gd rfl) rfl rfl (fun c46 => ?_) (fun c46 => ?_)
      · skip
        have i46 := z_le 0 0 c46 j45_3 rfl
        have n70 : (w45_109_26).toInt ≤ (u_109_26).toInt + 9 := by (first | have a0 := oa4 h1 ((inv_F hIc45 0 8000 rfl v45_109_26)) i46 j45_2 | ((first | have a0 := in_u h1 | (have a0 := h1; unfold In at a0)); (first | have a1 := in_u ((inv_F hIc45 0 8000 rfl v45_109_26)) | (have a1 := (inv_F hIc45 0 8000 rfl v45_109_26); unfold In at a1)); (first | have a2 := in_u i46 | (have a2 := i46; unfold In at a2)); (first | have a3 := in_u j45_2 | (have a3 := j45_2; unfold In at a3)))); omega
        have n70a : (sc45.2.2.1 109 26).toInt ≤ (s.2.2.1 109 26).toInt + 9 := by have b0 : w45_109_26 = sc45.2.2.1 109 26 := v45_109_26; first | (rw [← b0, ← e_109_26]; exact n70) | (rw [← b0]; exact n70)
        exact g_return (gd rfl) rfl (hP _ _ ⟨sc45, hIc45, hFc45, n70a, rfl, rfl⟩)
      · skip
        have i46 := z_gt 1 1000000 c46 j45_3 rfl
        refine g_aload_n 50 (gd rfl) rfl rfl ?_
        refine g_bipush 48 52 (gd rfl) rfl rfl ?_
        refine g_iload_n 53 (gd rfl) rfl rfl ?_
        refine g_iload_n 54 (gd rfl) rfl rfl ?_
        refine g_idiv 55 (gd rfl) rfl (dv_nz i46 rfl) (fun z54 e54 => ?_)
        have i54 := in_divv e54 j45_2 i46 rfl
        refine g_bipush 10 57 (gd rfl) rfl rfl ?_
        refine g_irem 58 (gd rfl) rfl (by decide) (fun z57 e57 => ?_)
        have i57 := in_rem 9 e57 i54 rfl rfl
        refine g_iadd 59 (gd rfl) rfl (fun z58 e58 => ?_)
        have i58 := in_add 48 57 e58 (in_c 48 rfl) i57 rfl rfl
        refine g_callv (X := _) (As := [.int z58]) (r := []) (b := A 109) (q := 109) 62 (gd rfl) rfl rfl rfl rfl rfl (ww_o rfl) (Nat.le_of_ble_eq_true rfl) (mc := 0) (ms := 0) (Nat.zero_le _) (Nat.zero_le _) (P := fun v u => _) ?_ (fun e u h => h) (fun v u h => h)
        intro po59 xx59 hp59 hx59
        refine g_enter2 (k := 306) (N := 300) (by first | exact dq1 hd rfl | exact dq0 hd rfl | exact dq2 hd rfl | exact dq3 hd rfl | omega) rfl (Nat.le_of_ble_eq_true rfl) ?_
        refine g_aload_n 1 (gd rfl) rfl rfl ?_
        refine g_getA (q2 := 126) 4 (gd rfl) rfl rfl rfl rfl ?_
        refine g_aload_n 5 (gd rfl) rfl rfl ?_
        refine g_getI 8 (gd rfl) rfl rfl rfl (fun z59x5 e59x5 => ?_)
        have q59x5 : w45_109_26 = z59x5 := (v45_109_26).trans e59x5.symm
        subst q59x5
        refine g_iload_n 9 (gd rfl) rfl rfl ?_
        have i59x9 : In w45_109_26 0 7999 := by (first | have a0 := oa5 h1 ((inv_F hIc45 0 8000 rfl v45_109_26)) i46 j45_2 i58 | ((first | have a0 := in_u h1 | (have a0 := h1; unfold In at a0)); (first | have a1 := in_u ((inv_F hIc45 0 8000 rfl v45_109_26)) | (have a1 := (inv_F hIc45 0 8000 rfl v45_109_26); unfold In at a1)); (first | have a2 := in_u i46 | (have a2 := i46; unfold In at a2)); (first | have a3 := in_u j45_2 | (have a3 := j45_2; unfold In at a3)); (first | have a4 := in_u i58 | (have a4 := i58; unfold In at a4)))); have a5 := t_add e58 (in_c 48 rfl) i57 rfl; (first | have a6 := oa2 i57 ((in_c 48 rfl)) | ((first | have a6 := in_u i57 | (have a6 := i57; unfold In at a6)); (first | have a7 := in_u ((in_c 48 rfl)) | (have a7 := (in_c 48 rfl); unfold In at a7)))); exact ⟨by omega, by omega⟩
        refine g_iastore 10 (gd rfl) rfl (n := 8000) rfl (in_ix i59x9 rfl) ?_
        have hI59x9 := inv_sI (q := 126) (j := w45_109_26.toNatClampNeg) hIc45 rfl (in_w (-2147483648) 2147483647 i58 rfl)
        refine g_aload_n 11 (gd rfl) rfl rfl ?_
        refine g_dup 12 (gd rfl) rfl rfl ?_
        refine g_getI 15 (gd rfl) rfl rfl rfl (fun z59x12 e59x12 => ?_)
        have q59x12 : w45_109_26 = z59x12 := (sI_F (v45_109_26)).trans e59x12.symm
        subst q59x12
        refine g_iconst 1 16 (gd rfl) rfl rfl ?_
        refine g_iadd 17 (gd rfl) rfl (fun z59x16 e59x16 => ?_)
        have i59x16 := in_add 1 8000 e59x16 i59x9 (in_c 1 rfl) rfl rfl
        refine g_putI 20 (gd rfl) rfl rfl rfl rfl ?_
        have hI59x17 := inv_sF (q := 109) (j := 26) hI59x9 rfl (in_w 0 8000 i59x16 rfl)
        refine g_return (gd rfl) rfl (hp59 _ _ ?_)
        show GG _ _ _ _ _ _ _ _ [] _ _ _
        refine g_iload_n 63 (gd rfl) rfl rfl ?_
        refine g_bipush 10 65 (gd rfl) rfl rfl ?_
        refine g_idiv 66 (gd rfl) rfl (by decide) (fun z65 e65 => ?_)
        have i65 := in_div 0 100000 e65 i46 rfl rfl
        refine g_istore_n 67 (gd rfl) rfl (Nat.le_of_ble_eq_true rfl) ?_
        refine g_goto 45 (gd rfl) rfl ?_
        have v45 : z59x16 = (sF (sI sc45 126 w45_109_26.toNatClampNeg z58) 109 26 z59x16).2.2.1 109 26 := sF_get
        have n45 : (((z65).toInt = 1 ∧ (z59x16).toInt ≤ (u_109_26).toInt + 8) ∨ ((z65).toInt = 10 ∧ (z59x16).toInt ≤ (u_109_26).toInt + 7) ∨ ((z65).toInt = 100 ∧ (z59x16).toInt ≤ (u_109_26).toInt + 6) ∨ ((z65).toInt = 1000 ∧ (z59x16).toInt ≤ (u_109_26).toInt + 5) ∨ ((z65).toInt = 10000 ∧ (z59x16).toInt ≤ (u_109_26).toInt + 4) ∨ ((z65).toInt = 100000 ∧ (z59x16).toInt ≤ (u_109_26).toInt + 3) ∨ ((z65).toInt = 1000000 ∧ (z59x16).toInt ≤ (u_109_26).toInt + 2) ∨ ((z65).toInt = 0 ∧ (z59x16).toInt ≤ (u_109_26).toInt + 9)) := by (first | have a0 := oa5 h1 i59x9 i46 j45_2 i65 | ((first | have a0 := in_u h1 | (have a0 := h1; unfold In at a0)); (first | have a1 := in_u i59x9 | (have a1 := i59x9; unfold In at a1)); (first | have a2 := in_u i46 | (have a2 := i46; unfold In at a2)); (first | have a3 := in_u j45_2 | (have a3 := j45_2; unfold In at a3)); (first | have a4 := in_u i65 | (have a4 := i65; unfold In at a4)))); have a5 := t_div e65 i46 rfl; (first | have a6 := in_u i59x16 | (have a6 := i59x16; unfold In at a6)); have a7 := t_add e59x16 i59x9 (in_c 1 rfl) rfl; (first | have a8 := oa2 ((in_c 1 rfl)) i58 | ((first | have a8 := in_u ((in_c 1 rfl)) | (have a8 := (in_c 1 rfl); unfold In at a8)); (first | have a9 := in_u i58 | (have a9 := i58; unfold In at a9)))); have a10 := t_add e58 (in_c 48 rfl) i57 rfl; (first | have a11 := oa2 i57 ((in_c 48 rfl)) | ((first | have a11 := in_u i57 | (have a11 := i57; unfold In at a11)); (first | have a12 := in_u ((in_c 48 rfl)) | (have a12 := (in_c 48 rfl); unfold In at a12)))); rcases n45_0 with h9 | h9 | h9 | h9 | h9 | h9 | h9 | h9; (exact Or.inr (Or.inr (Or.inr (Or.inr (Or.inr (Or.inr (Or.inr (⟨by omega, by omega⟩)))))))); (exact Or.inl ⟨by omega, by omega⟩); (exact Or.inr (Or.inl ⟨by omega, by omega⟩)); (exact Or.inr (Or.inr (Or.inl ⟨by omega, by omega⟩))); (exact Or.inr (Or.inr (Or.inr (Or.inl ⟨by omega, by omega⟩)))); (exact Or.inr (Or.inr (Or.inr (Or.inr (Or.inl ⟨by omega, by omega⟩))))); (exact Or.inr (Or.inr (Or.inr (Or.inr (Or.inr (Or.inl ⟨by omega, by omega⟩)))))); (exfalso; omega)
        have m45 : (z65).toInt < ((k45 : Nat) : Int) := by (first | have a0 := oa5 h1 i59x9 i46 j45_2 i65 | ((first | have a0 := in_u h1 | (have a0 := h1; unfold In at a0)); (first | have a1 := in_u i59x9 | (have a1 := i59x9; unfold In at a1)); (first | have a2 := in_u i46 | (have a2 := i46; unfold In at a2)); (first | have a3 := in_u j45_2 | (have a3 := j45_2; unfold In at a3)); (first | have a4 := in_u i65 | (have a4 := i65; unfold In at a4)))); have a5 := t_div e65 i46 rfl; (first | have a6 := in_u i59x16 | (have a6 := i59x16; unfold In at a6)); have a7 := t_add e59x16 i59x9 (in_c 1 rfl) rfl; (first | have a8 := oa2 ((in_c 1 rfl)) i58 | ((first | have a8 := in_u ((in_c 1 rfl)) | (have a8 := (in_c 1 rfl); unfold In at a8)); (first | have a9 := in_u i58 | (have a9 := i58; unfold In at a9)))); have a10 := t_add e58 (in_c 48 rfl) i57 rfl; (first | have a11 := oa2 i57 ((in_c 48 rfl)) | ((first | have a11 := in_u i57 | (have a11 := i57; unfold In at a11)); (first | have a12 := in_u ((in_c 48 rfl)) | (have a12 := (in_c 48 rfl); unfold In at a12)))); omega
        exact gg_w (by first | exact Nat.le_add_right _ _ | exact gw2 | exact gw3 | exact gwe rfl | exact gwf rfl | exact gwg rfl | exact gwh rfl | omega) (gg_f (gf_cons rfl (gf_cons rfl (gf_cons rfl (gf_cons rfl gf_nil)))) (ih45  (sF (sI sc45 126 w45_109_26.toNatClampNeg z58) 109 26 z59x16) y45_2 z65 z59x16 hI59x17 (fr_sF rfl (fr_sI rfl hFc45)) (in_w 0 1000000 j45_2 rfl) (in_w 0 1000000 i65 rfl) v45 n45 m45))
  have ct29 : ∀ (k29 : Nat) (sc29 : GS) (y29_2 : Int32) (y29_3 : Int32) (w29_109_26 : Int32), Inv sc29 → Fr fm_307 s sc29 → (In y29_2 0 1000000) → (In y29_3 1 1000000) → (w29_109_26 = sc29.2.2.1 109 26) → ((w29_109_26).toInt ≤ (u_109_26).toInt + 2) → (((y29_3).toInt = 1 ∨ (y29_3).toInt = 10 ∨ (y29_3).toInt = 100 ∨ (y29_3).toInt = 1000 ∨ (y29_3).toInt = 10000 ∨ (y29_3).toInt = 100000 ∨ (y29_3).toInt = 1000000)) → 2000000 - (y29_3).toInt < (k29 : Int) → GG Z (d - 1) 307 post (gx xp) (900001802 + k29 * 900) 29 (fun j => xlook j [(0, .ref (A 109)), (1, .int x1), (2, .int y29_2), (3, .int y29_3)]) [] (WW Z A sc29 ++ ex) 0 0 := by
    intro k29
    induction k29 with
    | zero => intro sc29 y29_2 y29_3 w29_109_26 hIc29 hFc29 j29_2 j29_3 v29_109_26 n29_0 n29_1 mm29; exfalso; (first | have a0 := oa2 h1 ((inv_F hIc29 0 8000 rfl v29_109_26)) | ((first | have a0 := in_u h1 | (have a0 := h1; unfold In at a0)); (first | have a1 := in_u ((inv_F hIc29 0 8000 rfl v29_109_26)) | (have a1 := (inv_F hIc29 0 8000 rfl v29_109_26); unfold In at a1)))); have a2 := j29_3; unfold In at a2; have a3 := j29_2; unfold In at a3; omega
    | succ k29 ih29 =>
      intro sc29 y29_2 y29_3 w29_109_26 hIc29 hFc29 j29_2 j29_3 v29_109_26 n29_0 n29_1 mm29
      refine gg_w (M := 900001802 + k29 * 900 + 900) gws ?_
      refine g_iload_n 30 (gd rfl) rfl rfl ?_
      refine g_iload_n 31 (gd rfl) rfl rfl ?_
      refine g_idiv 32 (gd rfl) rfl (dv_nz j29_3 rfl) (fun z31 e31 => ?_)
      have i31 := in_divv e31 j29_2 j29_3 rfl
      refine g_bipush 10 34 (gd rfl) rfl rfl ?_
      refine g_cmp_lt 37 45 (gd rfl) rfl rfl (fun c34 => ?_) (fun c34 => ?_)
      · skip
        have i34 := r_lt1 0 9 c34 i31 (in_c 10 rfl) rfl
        have n45 : (((y29_3).toInt = 1 ∧ (w29_109_26).toInt ≤ (u_109_26).toInt + 8) ∨ ((y29_3).toInt = 10 ∧ (w29_109_26).toInt ≤ (u_109_26).toInt + 7) ∨ ((y29_3).toInt = 100 ∧ (w29_109_26).toInt ≤ (u_109_26).toInt + 6) ∨ ((y29_3).toInt = 1000 ∧ (w29_109_26).toInt ≤ (u_109_26).toInt + 5) ∨ ((y29_3).toInt = 10000 ∧ (w29_109_26).toInt ≤ (u_109_26).toInt + 4) ∨ ((y29_3).toInt = 100000 ∧ (w29_109_26).toInt ≤ (u_109_26).toInt + 3) ∨ ((y29_3).toInt = 1000000 ∧ (w29_109_26).toInt ≤ (u_109_26).toInt + 2) ∨ ((y29_3).toInt = 0 ∧ (w29_109_26).toInt ≤ (u_109_26).toInt + 9)) := by (first | have a0 := oa4 h1 ((inv_F hIc29 0 8000 rfl v29_109_26)) j29_3 j29_2 | ((first | have a0 := in_u h1 | (have a0 := h1; unfold In at a0)); (first | have a1 := in_u ((inv_F hIc29 0 8000 rfl v29_109_26)) | (have a1 := (inv_F hIc29 0 8000 rfl v29_109_26); unfold In at a1)); (first | have a2 := in_u j29_3 | (have a2 := j29_3; unfold In at a2)); (first | have a3 := in_u j29_2 | (have a3 := j29_2; unfold In at a3)))); rcases n29_1 with h9 | h9 | h9 | h9 | h9 | h9 | h9; (exact Or.inl ⟨by omega, by omega⟩); (exact Or.inr (Or.inl ⟨by omega, by omega⟩)); (exact Or.inr (Or.inr (Or.inl ⟨by omega, by omega⟩))); (exact Or.inr (Or.inr (Or.inr (Or.inl ⟨by omega, by omega⟩)))); (exact Or.inr (Or.inr (Or.inr (Or.inr (Or.inl ⟨by omega, by omega⟩))))); (exact Or.inr (Or.inr (Or.inr (Or.inr (Or.inr (Or.inl ⟨by omega, by omega⟩)))))); (exact Or.inr (Or.inr (Or.inr (Or.inr (Or.inr (Or.inr (Or.inl ⟨by omega, by omega⟩)))))))
        have m45 : (y29_3).toInt < ((1000002 : Nat) : Int) := by (first | have a0 := oa4 h1 ((inv_F hIc29 0 8000 rfl v29_109_26)) j29_3 j29_2 | ((first | have a0 := in_u h1 | (have a0 := h1; unfold In at a0)); (first | have a1 := in_u ((inv_F hIc29 0 8000 rfl v29_109_26)) | (have a1 := (inv_F hIc29 0 8000 rfl v29_109_26); unfold In at a1)); (first | have a2 := in_u j29_3 | (have a2 := j29_3; unfold In at a2)); (first | have a3 := in_u j29_2 | (have a3 := j29_2; unfold In at a3)))); omega
        exact gg_w (by first | exact Nat.le_add_right _ _ | exact gw2 | exact gw3 | exact gwe rfl | exact gwf rfl | exact gwg rfl | exact gwh rfl | omega) (gg_f (gf_cons rfl (gf_cons rfl (gf_cons rfl (gf_cons rfl gf_nil)))) (ct45 1000002 sc29 y29_2 y29_3 w29_109_26 hIc29 hFc29 (in_w 0 1000000 j29_2 rfl) (in_w 0 1000000 j29_3 rfl) v29_109_26 n45 m45))
      · skip
        have i34 := r_le2 10 1000000 c34 (in_c 10 rfl) i31 rfl
        refine g_iload_n 38 (gd rfl) rfl rfl ?_
        refine g_bipush 10 40 (gd rfl) rfl rfl ?_
        refine g_imul 41 (gd rfl) rfl (fun z40 e40 => ?_)
        have i40 := in_mulc 10 10 10000000 (Or.inr e40) j29_3 rfl rfl
        refine g_istore_n 42 (gd rfl) rfl (Nat.le_of_ble_eq_true rfl) ?_
        refine g_goto 29 (gd rfl) rfl ?_
        have i29 : In z40 1 1000000 := by have h := t_divv e31 j29_2 j29_3 rfl; have h2 := (t_mulc 10 (Or.inr e40) j29_3 rfl).1; have h10 : (Int32.ofInt 10).toInt = 10 := rfl; rw [h, h10] at c34; have h3 := (Int.le_ediv_iff_mul_le (by have := j29_3.1; omega)).mp c34; have := j29_2.2; have := j29_3.1; exact ⟨by omega, by omega⟩
        have n29 : (w29_109_26).toInt ≤ (u_109_26).toInt + 2 := by first | exact n29_0 | ((first | have a0 := oa5 h1 ((inv_F hIc29 0 8000 rfl v29_109_26)) j29_3 j29_2 i29 | ((first | have a0 := in_u h1 | (have a0 := h1; unfold In at a0)); (first | have a1 := in_u ((inv_F hIc29 0 8000 rfl v29_109_26)) | (have a1 := (inv_F hIc29 0 8000 rfl v29_109_26); unfold In at a1)); (first | have a2 := in_u j29_3 | (have a2 := j29_3; unfold In at a2)); (first | have a3 := in_u j29_2 | (have a3 := j29_2; unfold In at a3)); (first | have a4 := in_u i29 | (have a4 := i29; unfold In at a4)))); have a5 := (t_mulc 10 (Or.inr e40) j29_3 rfl).1; omega)
        have n29a : ((z40).toInt = 1 ∨ (z40).toInt = 10 ∨ (z40).toInt = 100 ∨ (z40).toInt = 1000 ∨ (z40).toInt = 10000 ∨ (z40).toInt = 100000 ∨ (z40).toInt = 1000000) := by (first | have a0 := oa5 h1 ((inv_F hIc29 0 8000 rfl v29_109_26)) j29_3 j29_2 i29 | ((first | have a0 := in_u h1 | (have a0 := h1; unfold In at a0)); (first | have a1 := in_u ((inv_F hIc29 0 8000 rfl v29_109_26)) | (have a1 := (inv_F hIc29 0 8000 rfl v29_109_26); unfold In at a1)); (first | have a2 := in_u j29_3 | (have a2 := j29_3; unfold In at a2)); (first | have a3 := in_u j29_2 | (have a3 := j29_2; unfold In at a3)); (first | have a4 := in_u i29 | (have a4 := i29; unfold In at a4)))); have a5 := (t_mulc 10 (Or.inr e40) j29_3 rfl).1; rcases n29_1 with h9 | h9 | h9 | h9 | h9 | h9 | h9; (exact Or.inr (Or.inl (by omega))); (exact Or.inr (Or.inr (Or.inl (by omega)))); (exact Or.inr (Or.inr (Or.inr (Or.inl (by omega))))); (exact Or.inr (Or.inr (Or.inr (Or.inr (Or.inl (by omega)))))); (exact Or.inr (Or.inr (Or.inr (Or.inr (Or.inr (Or.inl (by omega))))))); (exact Or.inr (Or.inr (Or.inr (Or.inr (Or.inr (Or.inr ((by omega)))))))); (exfalso; omega)
        have m29 : 2000000 - (z40).toInt < ((k29 : Nat) : Int) := by (first | have a0 := oa5 h1 ((inv_F hIc29 0 8000 rfl v29_109_26)) j29_3 j29_2 i29 | ((first | have a0 := in_u h1 | (have a0 := h1; unfold In at a0)); (first | have a1 := in_u ((inv_F hIc29 0 8000 rfl v29_109_26)) | (have a1 := (inv_F hIc29 0 8000 rfl v29_109_26); unfold In at a1)); (first | have a2 := in_u j29_3 | (have a2 := j29_3; unfold In at a2)); (first | have a3 := in_u j29_2 | (have a3 := j29_2; unfold In at a3)); (first | have a4 := in_u i29 | (have a4 := i29; unfold In at a4)))); have a5 := (t_mulc 10 (Or.inr e40) j29_3 rfl).1; omega
        exact gg_w (by first | exact Nat.le_add_right _ _ | exact gw2 | exact gw3 | exact gwe rfl | exact gwf rfl | exact gwg rfl | exact gwh rfl | omega) (gg_f (gf_cons rfl (gf_cons rfl (gf_cons rfl (gf_cons rfl gf_nil)))) (ih29  sc29 y29_2 z40 w29_109_26 hIc29 hFc29 (in_w 0 1000000 j29_2 rfl) i29 v29_109_26 n29 n29a m29))
  refine g_enter2 (k := 307) (N := 2700003602) (by first | exact dq1 hd rfl | exact dq0 hd rfl | exact dq2 hd rfl | exact dq3 hd rfl | omega) rfl (Nat.le_of_ble_eq_true rfl) ?_
  refine g_aload_n 1 (gd rfl) rfl rfl ?_
  refine g_bipush 32 3 (gd rfl) rfl rfl ?_
  refine g_callv (X := _) (As := [.int (Int32.ofInt 32)]) (r := []) (b := A 109) (q := 109) 6 (gd rfl) rfl rfl rfl rfl rfl (ww_o rfl) (Nat.le_of_ble_eq_true rfl) (mc := 0) (ms := 0) (Nat.zero_le _) (Nat.zero_le _) (P := fun v u => _) ?_ (fun e u h => h) (fun v u h => h)
  intro po3 xx3 hp3 hx3
  refine g_enter2 (k := 306) (N := 300) (by first | exact dq1 hd rfl | exact dq0 hd rfl | exact dq2 hd rfl | exact dq3 hd rfl | omega) rfl (Nat.le_of_ble_eq_true rfl) ?_
  refine g_aload_n 1 (gd rfl) rfl rfl ?_
  refine g_getA (q2 := 126) 4 (gd rfl) rfl rfl rfl rfl ?_
  refine g_aload_n 5 (gd rfl) rfl rfl ?_
  refine g_getI 8 (gd rfl) rfl rfl rfl (fun z3x5 e3x5 => ?_)
  have q3x5 : u_109_26 = z3x5 := (e_109_26).trans e3x5.symm
  subst q3x5
  refine g_iload_n 9 (gd rfl) rfl rfl ?_
  have i3x9 : In u_109_26 0 7999 := by (first | have a0 := oa3 ((inv_F hI 0 8000 rfl e_109_26)) h1 ((in_c 32 rfl)) | ((first | have a0 := in_u ((inv_F hI 0 8000 rfl e_109_26)) | (have a0 := (inv_F hI 0 8000 rfl e_109_26); unfold In at a0)); (first | have a1 := in_u h1 | (have a1 := h1; unfold In at a1)); (first | have a2 := in_u ((in_c 32 rfl)) | (have a2 := (in_c 32 rfl); unfold In at a2)))); exact ⟨by omega, by omega⟩
  refine g_iastore 10 (gd rfl) rfl (n := 8000) rfl (in_ix i3x9 rfl) ?_
  have hI3x9 := inv_sI (q := 126) (j := u_109_26.toNatClampNeg) hI rfl (in_w (-2147483648) 2147483647 (in_c 32 rfl) rfl)
  refine g_aload_n 11 (gd rfl) rfl rfl ?_
  refine g_dup 12 (gd rfl) rfl rfl ?_
  refine g_getI 15 (gd rfl) rfl rfl rfl (fun z3x12 e3x12 => ?_)
  have q3x12 : u_109_26 = z3x12 := (sI_F (e_109_26)).trans e3x12.symm
  subst q3x12
  refine g_iconst 1 16 (gd rfl) rfl rfl ?_
  refine g_iadd 17 (gd rfl) rfl (fun z3x16 e3x16 => ?_)
  have i3x16 := in_add 1 8000 e3x16 i3x9 (in_c 1 rfl) rfl rfl
  refine g_putI 20 (gd rfl) rfl rfl rfl rfl ?_
  have hI3x17 := inv_sF (q := 109) (j := 26) hI3x9 rfl (in_w 0 8000 i3x16 rfl)
  refine g_return (gd rfl) rfl (hp3 _ _ ?_)
  show GG _ _ _ _ _ _ _ _ [] _ _ _
  refine g_iload_n 7 (gd rfl) rfl rfl ?_
  refine g_if_ge 10 16 (gd rfl) rfl rfl (fun c7 => ?_) (fun c7 => ?_)
  · skip
    have i7 := z_ge 0 1000000 c7 h1 rfl
    refine g_iload_n 17 (gd rfl) rfl rfl ?_
    refine g_if_ge 20 25 (gd rfl) rfl rfl (fun c17 => ?_) (fun c17 => ?_)
    · skip
      refine g_iload_n 26 (gd rfl) rfl rfl ?_
      refine g_istore_n 27 (gd rfl) rfl (Nat.le_of_ble_eq_true rfl) ?_
      refine g_iconst 1 28 (gd rfl) rfl rfl ?_
      refine g_istore_n 29 (gd rfl) rfl (Nat.le_of_ble_eq_true rfl) ?_
      have v29 : z3x16 = (sF (sI s 126 u_109_26.toNatClampNeg (Int32.ofInt 32)) 109 26 z3x16).2.2.1 109 26 := sF_get
      have n29 : (z3x16).toInt ≤ (u_109_26).toInt + 2 := by (first | have a0 := oa4 i3x9 i7 ((in_c 1 rfl)) i3x16 | ((first | have a0 := in_u i3x9 | (have a0 := i3x9; unfold In at a0)); (first | have a1 := in_u i7 | (have a1 := i7; unfold In at a1)); (first | have a2 := in_u ((in_c 1 rfl)) | (have a2 := (in_c 1 rfl); unfold In at a2)); (first | have a3 := in_u i3x16 | (have a3 := i3x16; unfold In at a3)))); have a4 := t_add e3x16 i3x9 (in_c 1 rfl) rfl; omega
      have n29a : (((Int32.ofInt 1)).toInt = 1 ∨ ((Int32.ofInt 1)).toInt = 10 ∨ ((Int32.ofInt 1)).toInt = 100 ∨ ((Int32.ofInt 1)).toInt = 1000 ∨ ((Int32.ofInt 1)).toInt = 10000 ∨ ((Int32.ofInt 1)).toInt = 100000 ∨ ((Int32.ofInt 1)).toInt = 1000000) := by exact Or.inl (by decide)
      have m29 : 2000000 - ((Int32.ofInt 1)).toInt < ((2000001 : Nat) : Int) := by (first | have a0 := oa4 i3x9 i7 ((in_c 1 rfl)) i3x16 | ((first | have a0 := in_u i3x9 | (have a0 := i3x9; unfold In at a0)); (first | have a1 := in_u i7 | (have a1 := i7; unfold In at a1)); (first | have a2 := in_u ((in_c 1 rfl)) | (have a2 := (in_c 1 rfl); unfold In at a2)); (first | have a3 := in_u i3x16 | (have a3 := i3x16; unfold In at a3)))); have a4 := t_add e3x16 i3x9 (in_c 1 rfl) rfl; omega
      exact gg_w (by first | exact Nat.le_of_ble_eq_true rfl | omega) (gg_f (gf_cons rfl (gf_cons rfl (gf_cons rfl (gf_cons rfl gf_nil)))) (ct29 2000001 (sF (sI s 126 u_109_26.toNatClampNeg (Int32.ofInt 32)) 109 26 z3x16) x1 (Int32.ofInt 1) z3x16 hI3x17 (fr_sF rfl (fr_sI rfl fr_rf)) (in_w 0 1000000 i7 rfl) (in_w 1 1000000 (in_c 1 rfl) rfl) v29 n29 n29a m29))
    · skip
      exact zn_lt c17 i7 rfl
  · skip
    have i7 := z_lt (-1000000) (-1) c7 h1 rfl
    refine g_aload_n 11 (gd rfl) rfl rfl ?_
    refine g_bipush 45 13 (gd rfl) rfl rfl ?_
    refine g_callv (X := _) (As := [.int (Int32.ofInt 45)]) (r := []) (b := A 109) (q := 109) 16 (gd rfl) rfl rfl rfl rfl rfl (ww_o rfl) (Nat.le_of_ble_eq_true rfl) (mc := 0) (ms := 0) (Nat.zero_le _) (Nat.zero_le _) (P := fun v u => _) ?_ (fun e u h => h) (fun v u h => h)
    intro po13 xx13 hp13 hx13
    refine g_enter2 (k := 306) (N := 300) (by first | exact dq1 hd rfl | exact dq0 hd rfl | exact dq2 hd rfl | exact dq3 hd rfl | omega) rfl (Nat.le_of_ble_eq_true rfl) ?_
    refine g_aload_n 1 (gd rfl) rfl rfl ?_
    refine g_getA (q2 := 126) 4 (gd rfl) rfl rfl rfl rfl ?_
    refine g_aload_n 5 (gd rfl) rfl rfl ?_
    refine g_getI 8 (gd rfl) rfl rfl rfl (fun z13x5 e13x5 => ?_)
    have q13x5 : z3x16 = z13x5 := (sF_get).trans e13x5.symm
    subst q13x5
    refine g_iload_n 9 (gd rfl) rfl rfl ?_
    have i13x9 : In z3x16 0 7999 := by (first | have a0 := oa4 i3x9 i7 ((in_c 45 rfl)) i3x16 | ((first | have a0 := in_u i3x9 | (have a0 := i3x9; unfold In at a0)); (first | have a1 := in_u i7 | (have a1 := i7; unfold In at a1)); (first | have a2 := in_u ((in_c 45 rfl)) | (have a2 := (in_c 45 rfl); unfold In at a2)); (first | have a3 := in_u i3x16 | (have a3 := i3x16; unfold In at a3)))); have a4 := t_add e3x16 i3x9 (in_c 1 rfl) rfl; (first | have a5 := in_u ((in_c 1 rfl)) | (have a5 := (in_c 1 rfl); unfold In at a5)); exact ⟨by omega, by omega⟩
    refine g_iastore 10 (gd rfl) rfl (n := 8000) rfl (in_ix i13x9 rfl) ?_
    have hI13x9 := inv_sI (q := 126) (j := z3x16.toNatClampNeg) hI3x17 rfl (in_w (-2147483648) 2147483647 (in_c 45 rfl) rfl)
    refine g_aload_n 11 (gd rfl) rfl rfl ?_
    refine g_dup 12 (gd rfl) rfl rfl ?_
    refine g_getI 15 (gd rfl) rfl rfl rfl (fun z13x12 e13x12 => ?_)
    have q13x12 : z3x16 = z13x12 := (sI_F (sF_get)).trans e13x12.symm
    subst q13x12
    refine g_iconst 1 16 (gd rfl) rfl rfl ?_
    refine g_iadd 17 (gd rfl) rfl (fun z13x16 e13x16 => ?_)
    have i13x16 := in_add 1 8000 e13x16 i13x9 (in_c 1 rfl) rfl rfl
    refine g_putI 20 (gd rfl) rfl rfl rfl rfl ?_
    have hI13x17 := inv_sF (q := 109) (j := 26) hI13x9 rfl (in_w 0 8000 i13x16 rfl)
    refine g_return (gd rfl) rfl (hp13 _ _ ?_)
    show GG _ _ _ _ _ _ _ _ [] _ _ _
    refine g_iload_n 17 (gd rfl) rfl rfl ?_
    refine g_if_ge 20 25 (gd rfl) rfl rfl (fun c17 => ?_) (fun c17 => ?_)
    · skip
      exact zn_ge c17 i7 rfl
    · skip
      refine g_iload_n 21 (gd rfl) rfl rfl ?_
      refine g_ineg 22 (gd rfl) rfl (fun z21 e21 => ?_)
      have i21 := in_neg 1 1000000 e21 i7 rfl
      refine g_goto 26 (gd rfl) rfl ?_
      refine g_istore_n 27 (gd rfl) rfl (Nat.le_of_ble_eq_true rfl) ?_
      refine g_iconst 1 28 (gd rfl) rfl rfl ?_
      refine g_istore_n 29 (gd rfl) rfl (Nat.le_of_ble_eq_true rfl) ?_
      have v29 : z13x16 = (sF (sI (sF (sI s 126 u_109_26.toNatClampNeg (Int32.ofInt 32)) 109 26 z3x16) 126 z3x16.toNatClampNeg (Int32.ofInt 45)) 109 26 z13x16).2.2.1 109 26 := sF_get
      have n29 : (z13x16).toInt ≤ (u_109_26).toInt + 2 := by (first | have a0 := oa5 i3x9 i7 ((in_c 1 rfl)) i21 i13x16 | ((first | have a0 := in_u i3x9 | (have a0 := i3x9; unfold In at a0)); (first | have a1 := in_u i7 | (have a1 := i7; unfold In at a1)); (first | have a2 := in_u ((in_c 1 rfl)) | (have a2 := (in_c 1 rfl); unfold In at a2)); (first | have a3 := in_u i21 | (have a3 := i21; unfold In at a3)); (first | have a4 := in_u i13x16 | (have a4 := i13x16; unfold In at a4)))); have a5 := t_add e13x16 i13x9 (in_c 1 rfl) rfl; (first | have a6 := in_u i13x9 | (have a6 := i13x9; unfold In at a6)); have a7 := t_add e3x16 i3x9 (in_c 1 rfl) rfl; omega
      have n29a : (((Int32.ofInt 1)).toInt = 1 ∨ ((Int32.ofInt 1)).toInt = 10 ∨ ((Int32.ofInt 1)).toInt = 100 ∨ ((Int32.ofInt 1)).toInt = 1000 ∨ ((Int32.ofInt 1)).toInt = 10000 ∨ ((Int32.ofInt 1)).toInt = 100000 ∨ ((Int32.ofInt 1)).toInt = 1000000) := by exact Or.inl (by decide)
      have m29 : 2000000 - ((Int32.ofInt 1)).toInt < ((2000001 : Nat) : Int) := by (first | have a0 := oa5 i3x9 i7 ((in_c 1 rfl)) i21 i13x16 | ((first | have a0 := in_u i3x9 | (have a0 := i3x9; unfold In at a0)); (first | have a1 := in_u i7 | (have a1 := i7; unfold In at a1)); (first | have a2 := in_u ((in_c 1 rfl)) | (have a2 := (in_c 1 rfl); unfold In at a2)); (first | have a3 := in_u i21 | (have a3 := i21; unfold In at a3)); (first | have a4 := in_u i13x16 | (have a4 := i13x16; unfold In at a4)))); have a5 := t_add e13x16 i13x9 (in_c 1 rfl) rfl; (first | have a6 := in_u i13x9 | (have a6 := i13x9; unfold In at a6)); have a7 := t_add e3x16 i3x9 (in_c 1 rfl) rfl; omega
      exact gg_w (by first | exact Nat.le_of_ble_eq_true rfl | omega) (gg_f (gf_cons rfl (gf_cons rfl (gf_cons rfl (gf_cons rfl gf_nil)))) (ct29 2000001 (sF (sI (sF (sI s 126 u_109_26.toNatClampNeg (Int32.ofInt 32)) 109 26 z3x16) 126 z3x16.toNatClampNeg (Int32.ofInt 45)) 109 26 z13x16) z21 (Int32.ofInt 1) z13x16 hI13x17 (fr_sF rfl (fr_sI rfl (fr_sF rfl (fr_sI rfl fr_rf)))) (in_w 0 1000000 i21 rfl) (in_w 1 1000000 (in_c 1 rfl) rfl) v29 n29 n29a m29))

def fm_308 : FM := ([126], [], [(109, 0), (109, 26)], [])
/-- GraphHouseModel.print -/
theorem k_308 {Z : AmZ} {A : Nat → Nat} {s : GS} {ex : va_W} {d : Nat} {X : AmX}  (hd : 4 ≤ d) (hI : Inv s)  : GC Z d 308 [.ref (A 109)] (WW Z A s ++ ex) 0 0 (fun v u => ∃ t : GS, Inv t ∧ Fr fm_308 s t ∧ ∃ z : Int32, v = some (.int z) ∧ u = WW Z A t ++ ex ∧ In z 0 8000) X := by
  intro post xp hP hX
  obtain ⟨u_109_18, e_109_18⟩ : ∃ w, w = s.2.2.1 109 18 := ⟨_, rfl⟩
  have ro_109_18 := inv_F hI 0 1 rfl e_109_18
  obtain ⟨u_109_19, e_109_19⟩ : ∃ w, w = s.2.2.1 109 19 := ⟨_, rfl⟩
  have ro_109_19 := inv_F hI 0 160 rfl e_109_19
  obtain ⟨u_109_20, e_109_20⟩ : ∃ w, w = s.2.2.1 109 20 := ⟨_, rfl⟩
  have ro_109_20 := inv_F hI 0 32 rfl e_109_20
  have ct70 : ∀ (k70 : Nat) (sc70 : GS) (y70_1 : Int32) (w70_109_26 : Int32), Inv sc70 → Fr fm_308 s sc70 → (In y70_1 0 400) → (w70_109_26 = sc70.2.2.1 109 26) → ((w70_109_26).toInt ≤ 128 + 40 * ((y70_1).toInt - (u_109_19).toInt)) → ((u_109_19).toInt ≤ (y70_1).toInt) → 400 - (y70_1).toInt < (k70 : Int) → GG Z (d - 1) 308 post (gx xp) (1 + k70 * 900) 70 (fun j => xlook j [(0, .ref (A 109)), (1, .int y70_1)]) [] (WW Z A sc70 ++ ex) 0 0 := by
    intro k70
    induction k70 with
    | zero => intro sc70 y70_1 w70_109_26 hIc70 hFc70 j70_1 v70_109_26 n70_0 n70_1 mm70; exact m_no mm70 j70_1 rfl
    | succ k70 ih70 =>
      intro sc70 y70_1 w70_109_26 hIc70 hFc70 j70_1 v70_109_26 n70_0 n70_1 mm70
      refine gg_w (M := 1 + k70 * 900 + 900) gws ?_
      refine g_iload_n 71 (gd rfl) rfl rfl ?_
      refine g_aload_n 72 (gd rfl) rfl rfl ?_
      refine g_getI 75 (gd rfl) rfl rfl rfl (fun z72 e72 => ?_)
      have q72 : u_109_19 = z72 := (fr_F e_109_19 hFc70 rfl).trans e72.symm
      subst q72
      refine g_sipush 160 78 (gd rfl) rfl rfl ?_
      refine g_iadd 79 (gd rfl) rfl (fun z78 e78 => ?_)
      have i78 := in_add 160 320 e78 ro_109_19 (in_c 160 rfl) rfl rfl
      refine g_cmp_ge 82 168 (gd rfl) rfl rfl (fun c79 => ?_) (fun c79 => ?_)
      · skip
        have i79 := r_le2 160 400 c79 i78 j70_1 rfl
        refine g_aload_n 169 (gd rfl) rfl rfl ?_
        refine g_getI 172 (gd rfl) rfl rfl rfl (fun z169 e169 => ?_)
        have q169 : w70_109_26 = z169 := (v70_109_26).trans e169.symm
        subst q169
        exact g_ireturn (gd rfl) rfl rfl (hP _ _ ⟨sc70, hIc70, hFc70, w70_109_26, rfl, rfl, in_w 0 8000 (inv_F hIc70 0 8000 rfl v70_109_26) rfl⟩)
      · skip
        have i79 := r_lt1 0 319 c79 j70_1 i78 rfl
        refine g_aload_n 83 (gd rfl) rfl rfl ?_
        refine g_getA (q2 := 112) 86 (gd rfl) rfl rfl rfl rfl ?_
        refine g_iload_n 87 (gd rfl) rfl rfl ?_
        refine g_baload 88 (gd rfl) rfl (n := 480) rfl (in_ix i79 rfl) (fun z87 e87 => ?_)
        have i87 := inv_I hIc70 (n := 480) (t := 3) 0 1 rfl (in_ix i79 rfl) rfl e87
        refine g_if_eq 91 162 (gd rfl) rfl rfl (fun c88 => ?_) (fun c88 => ?_)
        · skip
          have i88 := z_eq 0 0 c88 i87 rfl
          refine g_iinc 165 (gd rfl) rfl rfl (Nat.le_of_ble_eq_true rfl) (fun z162 e162 => ?_)
          have i162 := in_add 1 320 e162 i79 (in_c 1 rfl) rfl rfl
          refine g_goto 70 (gd rfl) rfl ?_
          have n70 : (w70_109_26).toInt ≤ 128 + 40 * ((z162).toInt - (u_109_19).toInt) := by (first | have a0 := oa6 ro_109_20 ro_109_19 ro_109_18 ((inv_F hIc70 0 8000 rfl v70_109_26)) i79 i162 | ((first | have a0 := in_u ro_109_20 | (have a0 := ro_109_20; unfold In at a0)); (first | have a1 := in_u ro_109_19 | (have a1 := ro_109_19; unfold In at a1)); (first | have a2 := in_u ro_109_18 | (have a2 := ro_109_18; unfold In at a2)); (first | have a3 := in_u ((inv_F hIc70 0 8000 rfl v70_109_26)) | (have a3 := (inv_F hIc70 0 8000 rfl v70_109_26); unfold In at a3)); (first | have a4 := in_u i79 | (have a4 := i79; unfold In at a4)); (first | have a5 := in_u i162 | (have a5 := i162; unfold In at a5)))); have a6 := t_add e162 i79 (in_c 1 rfl) rfl; (first | have a7 := oa2 ((in_c 1 rfl)) i78 | ((first | have a7 := in_u ((in_c 1 rfl)) | (have a7 := (in_c 1 rfl); unfold In at a7)); (first | have a8 := in_u i78 | (have a8 := i78; unfold In at a8)))); have a9 := t_add e78 ro_109_19 (in_c 160 rfl) rfl; (first | have a10 := in_u ((in_c 160 rfl)) | (have a10 := (in_c 160 rfl); unfold In at a10)); omega
          have n70a : (u_109_19).toInt ≤ (z162).toInt := by (first | have a0 := oa6 ro_109_20 ro_109_19 ro_109_18 ((inv_F hIc70 0 8000 rfl v70_109_26)) i79 i162 | ((first | have a0 := in_u ro_109_20 | (have a0 := ro_109_20; unfold In at a0)); (first | have a1 := in_u ro_109_19 | (have a1 := ro_109_19; unfold In at a1)); (first | have a2 := in_u ro_109_18 | (have a2 := ro_109_18; unfold In at a2)); (first | have a3 := in_u ((inv_F hIc70 0 8000 rfl v70_109_26)) | (have a3 := (inv_F hIc70 0 8000 rfl v70_109_26); unfold In at a3)); (first | have a4 := in_u i79 | (have a4 := i79; unfold In at a4)); (first | have a5 := in_u i162 | (have a5 := i162; unfold In at a5)))); have a6 := t_add e162 i79 (in_c 1 rfl) rfl; (first | have a7 := oa2 ((in_c 1 rfl)) i78 | ((first | have a7 := in_u ((in_c 1 rfl)) | (have a7 := (in_c 1 rfl); unfold In at a7)); (first | have a8 := in_u i78 | (have a8 := i78; unfold In at a8)))); have a9 := t_add e78 ro_109_19 (in_c 160 rfl) rfl; (first | have a10 := in_u ((in_c 160 rfl)) | (have a10 := (in_c 160 rfl); unfold In at a10)); omega
          exact gg_w (by first | exact Nat.le_add_right _ _ | exact gw2 | exact gw3 | exact gwe rfl | exact gwf rfl | exact gwg rfl | exact gwh rfl | omega) (gg_f (gf_cons rfl (gf_cons rfl gf_nil)) (ih70 sc70 z162 w70_109_26 hIc70 hFc70 (in_w 0 400 i162 rfl) v70_109_26 n70 n70a (m_up mm70 (t_add e162 i79 (in_c 1 rfl) rfl) (in_w 1 1 (in_c 1 rfl) rfl))))
        · skip
          have i88 := z_ne 1 1 c88 i87 rfl
          refine g_aload_n 92 (gd rfl) rfl rfl ?_
          refine g_bipush 97 94 (gd rfl) rfl rfl ?_
          refine g_callv (X := _) (As := [.int (Int32.ofInt 97)]) (r := []) (b := A 109) (q := 109) 97 (gd rfl) rfl rfl rfl rfl rfl (ww_o rfl) (Nat.le_of_ble_eq_true rfl) (mc := 0) (ms := 0) (Nat.zero_le _) (Nat.zero_le _) (P := fun v u => _) ?_ (fun e u h => h) (fun v u h => h)
          intro po94 xx94 hp94 hx94
          refine g_enter2 (k := 306) (N := 300) (by first | exact dq1 hd rfl | exact dq0 hd rfl | exact dq2 hd rfl | exact dq3 hd rfl | omega) rfl (Nat.le_of_ble_eq_true rfl) ?_
          refine g_aload_n 1 (gd rfl) rfl rfl ?_
          refine g_getA (q2 := 126) 4 (gd rfl) rfl rfl rfl rfl ?_
          refine g_aload_n 5 (gd rfl) rfl rfl ?_
          refine g_getI 8 (gd rfl) rfl rfl rfl (fun z94x5 e94x5 => ?_)
          have q94x5 : w70_109_26 = z94x5 := (v70_109_26).trans e94x5.symm
          subst q94x5
          refine g_iload_n 9 (gd rfl) rfl rfl ?_
          have i94x9 : In w70_109_26 0 7999 := by (first | have a0 := oa7 ro_109_20 ro_109_19 ro_109_18 ((inv_F hIc70 0 8000 rfl v70_109_26)) i79 ((in_c 97 rfl)) i78 | ((first | have a0 := in_u ro_109_20 | (have a0 := ro_109_20; unfold In at a0)); (first | have a1 := in_u ro_109_19 | (have a1 := ro_109_19; unfold In at a1)); (first | have a2 := in_u ro_109_18 | (have a2 := ro_109_18; unfold In at a2)); (first | have a3 := in_u ((inv_F hIc70 0 8000 rfl v70_109_26)) | (have a3 := (inv_F hIc70 0 8000 rfl v70_109_26); unfold In at a3)); (first | have a4 := in_u i79 | (have a4 := i79; unfold In at a4)); (first | have a5 := in_u ((in_c 97 rfl)) | (have a5 := (in_c 97 rfl); unfold In at a5)); (first | have a6 := in_u i78 | (have a6 := i78; unfold In at a6)))); have a7 := t_add e78 ro_109_19 (in_c 160 rfl) rfl; (first | have a8 := in_u ((in_c 160 rfl)) | (have a8 := (in_c 160 rfl); unfold In at a8)); exact ⟨by omega, by omega⟩
          refine g_iastore 10 (gd rfl) rfl (n := 8000) rfl (in_ix i94x9 rfl) ?_
          have hI94x9 := inv_sI (q := 126) (j := w70_109_26.toNatClampNeg) hIc70 rfl (in_w (-2147483648) 2147483647 (in_c 97 rfl) rfl)
          refine g_aload_n 11 (gd rfl) rfl rfl ?_
          refine g_dup 12 (gd rfl) rfl rfl ?_
          refine g_getI 15 (gd rfl) rfl rfl rfl (fun z94x12 e94x12 => ?_)
          have q94x12 : w70_109_26 = z94x12 := (sI_F (v70_109_26)).trans e94x12.symm
          subst q94x12
          refine g_iconst 1 16 (gd rfl) rfl rfl ?_
          refine g_iadd 17 (gd rfl) rfl (fun z94x16 e94x16 => ?_)
          have i94x16 := in_add 1 8000 e94x16 i94x9 (in_c 1 rfl) rfl rfl
          refine g_putI 20 (gd rfl) rfl rfl rfl rfl ?_
          have hI94x17 := inv_sF (q := 109) (j := 26) hI94x9 rfl (in_w 0 8000 i94x16 rfl)
          refine g_return (gd rfl) rfl (hp94 _ _ ?_)
          show GG _ _ _ _ _ _ _ _ [] _ _ _
          refine g_aload_n 98 (gd rfl) rfl rfl ?_
          refine g_aload_n 99 (gd rfl) rfl rfl ?_
          refine g_getA (q2 := 113) 102 (gd rfl) rfl rfl rfl rfl ?_
          refine g_iload_n 103 (gd rfl) rfl rfl ?_
          refine g_iaload 104 (gd rfl) rfl (n := 480) rfl (in_ix i79 rfl) (fun z103 e103 => ?_)
          have i103 := inv_I hI94x17 (n := 480) (t := 0) 0 31 rfl (in_ix i79 rfl) rfl e103
          have v104 : z94x16 = (sF (sI sc70 126 w70_109_26.toNatClampNeg (Int32.ofInt 97)) 109 26 z94x16).2.2.1 109 26 := sF_get
          have n104 : (z94x16).toInt ≤ 7900 := by (first | have a0 := oa6 ro_109_20 ro_109_19 ro_109_18 i94x9 i79 i94x16 | ((first | have a0 := in_u ro_109_20 | (have a0 := ro_109_20; unfold In at a0)); (first | have a1 := in_u ro_109_19 | (have a1 := ro_109_19; unfold In at a1)); (first | have a2 := in_u ro_109_18 | (have a2 := ro_109_18; unfold In at a2)); (first | have a3 := in_u i94x9 | (have a3 := i94x9; unfold In at a3)); (first | have a4 := in_u i79 | (have a4 := i79; unfold In at a4)); (first | have a5 := in_u i94x16 | (have a5 := i94x16; unfold In at a5)))); have a6 := t_add e94x16 i94x9 (in_c 1 rfl) rfl; (first | have a7 := oa2 ((in_c 1 rfl)) i78 | ((first | have a7 := in_u ((in_c 1 rfl)) | (have a7 := (in_c 1 rfl); unfold In at a7)); (first | have a8 := in_u i78 | (have a8 := i78; unfold In at a8)))); have a9 := t_add e78 ro_109_19 (in_c 160 rfl) rfl; (first | have a10 := in_u ((in_c 160 rfl)) | (have a10 := (in_c 160 rfl); unfold In at a10)); omega
          refine g_callv (X := _) (As := [.int z103]) (r := []) (b := A 109) (q := 109) 107 (gd rfl) rfl rfl rfl rfl rfl (ww_o rfl) (Nat.le_of_ble_eq_true rfl) (Nat.zero_le _) (Nat.zero_le _) (k_307 (by first | exact dq1 hd rfl | exact dq0 hd rfl | exact dq2 hd rfl | exact dq3 hd rfl | omega) hI94x17 (in_w (-1000000) 1000000 i103 rfl) v104 n104) (fun e u h => h) (fun v u h => ?_)
          obtain ⟨s104, hI104, hF104, n104a, rfl, rfl⟩ := h
          obtain ⟨z104a, e104⟩ : ∃ w, w = s104.2.2.1 109 26 := ⟨_, rfl⟩
          have i104a := inv_F hI104 0 8000 rfl e104
          rw [← (show z94x16 = (sF (sI sc70 126 w70_109_26.toNatClampNeg (Int32.ofInt 97)) 109 26 z94x16).2.2.1 109 26 from sF_get)] at n104a
          rw [← (show z104a = s104.2.2.1 109 26 from e104)] at n104a
          show GG _ _ _ _ _ _ _ _ [] _ _ _
          refine g_aload_n 108 (gd rfl) rfl rfl ?_
          refine g_aload_n 109 (gd rfl) rfl rfl ?_
          refine g_getA (q2 := 114) 112 (gd rfl) rfl rfl rfl rfl ?_
          refine g_iload_n 113 (gd rfl) rfl rfl ?_
          refine g_iaload 114 (gd rfl) rfl (n := 480) rfl (in_ix i79 rfl) (fun z113 e113 => ?_)
          have i113 := inv_I hI104 (n := 480) (t := 0) 0 31 rfl (in_ix i79 rfl) rfl e113
          have n114 : (z104a).toInt ≤ 7900 := by (first | have a0 := oa7 ro_109_20 ro_109_19 ro_109_18 i94x9 i79 i104a i94x16 | ((first | have a0 := in_u ro_109_20 | (have a0 := ro_109_20; unfold In at a0)); (first | have a1 := in_u ro_109_19 | (have a1 := ro_109_19; unfold In at a1)); (first | have a2 := in_u ro_109_18 | (have a2 := ro_109_18; unfold In at a2)); (first | have a3 := in_u i94x9 | (have a3 := i94x9; unfold In at a3)); (first | have a4 := in_u i79 | (have a4 := i79; unfold In at a4)); (first | have a5 := in_u i104a | (have a5 := i104a; unfold In at a5)); (first | have a6 := in_u i94x16 | (have a6 := i94x16; unfold In at a6)))); have a7 := t_add e94x16 i94x9 (in_c 1 rfl) rfl; (first | have a8 := oa2 ((in_c 1 rfl)) i78 | ((first | have a8 := in_u ((in_c 1 rfl)) | (have a8 := (in_c 1 rfl); unfold In at a8)); (first | have a9 := in_u i78 | (have a9 := i78; unfold In at a9)))); have a10 := t_add e78 ro_109_19 (in_c 160 rfl) rfl; (first | have a11 := in_u ((in_c 160 rfl)) | (have a11 := (in_c 160 rfl); unfold In at a11)); omega
          refine g_callv (X := _) (As := [.int z113]) (r := []) (b := A 109) (q := 109) 117 (gd rfl) rfl rfl rfl rfl rfl (ww_o rfl) (Nat.le_of_ble_eq_true rfl) (Nat.zero_le _) (Nat.zero_le _) (k_307 (by first | exact dq1 hd rfl | exact dq0 hd rfl | exact dq2 hd rfl | exact dq3 hd rfl | omega) hI104 (in_w (-1000000) 1000000 i113 rfl) e104 n114) (fun e u h => h) (fun v u h => ?_)
          obtain ⟨s114, hI114, hF114, n114a, rfl, rfl⟩ := h
          obtain ⟨z114a, e114⟩ : ∃ w, w = s114.2.2.1 109 26 := ⟨_, rfl⟩
          have i114a := inv_F hI114 0 8000 rfl e114
          rw [← (show z104a = s104.2.2.1 109 26 from e104)] at n114a
          rw [← (show z114a = s114.2.2.1 109 26 from e114)] at n114a
          show GG _ _ _ _ _ _ _ _ [] _ _ _
          refine g_aload_n 118 (gd rfl) rfl rfl ?_
          refine g_aload_n 119 (gd rfl) rfl rfl ?_
          refine g_getA (q2 := 115) 122 (gd rfl) rfl rfl rfl rfl ?_
          refine g_iload_n 123 (gd rfl) rfl rfl ?_
          refine g_iaload 124 (gd rfl) rfl (n := 480) rfl (in_ix i79 rfl) (fun z123 e123 => ?_)
          have i123 := inv_I hI114 (n := 480) (t := 0) (-1000000) 1000000 rfl (in_ix i79 rfl) rfl e123
          have n124 : (z114a).toInt ≤ 7900 := by (first | have a0 := oa7 ro_109_20 ro_109_19 ro_109_18 i94x9 i79 i114a i94x16 | ((first | have a0 := in_u ro_109_20 | (have a0 := ro_109_20; unfold In at a0)); (first | have a1 := in_u ro_109_19 | (have a1 := ro_109_19; unfold In at a1)); (first | have a2 := in_u ro_109_18 | (have a2 := ro_109_18; unfold In at a2)); (first | have a3 := in_u i94x9 | (have a3 := i94x9; unfold In at a3)); (first | have a4 := in_u i79 | (have a4 := i79; unfold In at a4)); (first | have a5 := in_u i114a | (have a5 := i114a; unfold In at a5)); (first | have a6 := in_u i94x16 | (have a6 := i94x16; unfold In at a6)))); have a7 := t_add e94x16 i94x9 (in_c 1 rfl) rfl; (first | have a8 := oa2 ((in_c 1 rfl)) i78 | ((first | have a8 := in_u ((in_c 1 rfl)) | (have a8 := (in_c 1 rfl); unfold In at a8)); (first | have a9 := in_u i78 | (have a9 := i78; unfold In at a9)))); have a10 := t_add e78 ro_109_19 (in_c 160 rfl) rfl; (first | have a11 := in_u ((in_c 160 rfl)) | (have a11 := (in_c 160 rfl); unfold In at a11)); omega
          refine g_callv (X := _) (As := [.int z123]) (r := []) (b := A 109) (q := 109) 127 (gd rfl) rfl rfl rfl rfl rfl (ww_o rfl) (Nat.le_of_ble_eq_true rfl) (Nat.zero_le _) (Nat.zero_le _) (k_307 (by first | exact dq1 hd rfl | exact dq0 hd rfl | exact dq2 hd rfl | exact dq3 hd rfl | omega) hI114 (in_w (-1000000) 1000000 i123 rfl) e114 n124) (fun e u h => h) (fun v u h => ?_)
          obtain ⟨s124, hI124, hF124, n124a, rfl, rfl⟩ := h
          obtain ⟨z124a, e124⟩ : ∃ w, w = s124.2.2.1 109 26 := ⟨_, rfl⟩
          have i124a := inv_F hI124 0 8000 rfl e124
          rw [← (show z114a = s114.2.2.1 109 26 from e114)] at n124a
          rw [← (show z124a = s124.2.2.1 109 26 from e124)] at n124a
          show GG _ _ _ _ _ _ _ _ [] _ _ _
          refine g_aload_n 128 (gd rfl) rfl rfl ?_
          refine g_aload_n 129 (gd rfl) rfl rfl ?_
          refine g_getA (q2 := 116) 132 (gd rfl) rfl rfl rfl rfl ?_
          refine g_iload_n 133 (gd rfl) rfl rfl ?_
          refine g_iaload 134 (gd rfl) rfl (n := 480) rfl (in_ix i79 rfl) (fun z133 e133 => ?_)
          have i133 := inv_I hI124 (n := 480) (t := 0) 0 1000000 rfl (in_ix i79 rfl) rfl e133
          have n134 : (z124a).toInt ≤ 7900 := by (first | have a0 := oa7 ro_109_20 ro_109_19 ro_109_18 i94x9 i79 i124a i94x16 | ((first | have a0 := in_u ro_109_20 | (have a0 := ro_109_20; unfold In at a0)); (first | have a1 := in_u ro_109_19 | (have a1 := ro_109_19; unfold In at a1)); (first | have a2 := in_u ro_109_18 | (have a2 := ro_109_18; unfold In at a2)); (first | have a3 := in_u i94x9 | (have a3 := i94x9; unfold In at a3)); (first | have a4 := in_u i79 | (have a4 := i79; unfold In at a4)); (first | have a5 := in_u i124a | (have a5 := i124a; unfold In at a5)); (first | have a6 := in_u i94x16 | (have a6 := i94x16; unfold In at a6)))); have a7 := t_add e94x16 i94x9 (in_c 1 rfl) rfl; (first | have a8 := oa2 ((in_c 1 rfl)) i78 | ((first | have a8 := in_u ((in_c 1 rfl)) | (have a8 := (in_c 1 rfl); unfold In at a8)); (first | have a9 := in_u i78 | (have a9 := i78; unfold In at a9)))); have a10 := t_add e78 ro_109_19 (in_c 160 rfl) rfl; (first | have a11 := in_u ((in_c 160 rfl)) | (have a11 := (in_c 160 rfl); unfold In at a11)); omega
          refine g_callv (X := _) (As := [.int z133]) (r := []) (b := A 109) (q := 109) 137 (gd rfl) rfl rfl rfl rfl rfl (ww_o rfl) (Nat.le_of_ble_eq_true rfl) (Nat.zero_le _) (Nat.zero_le _) (k_307 (by first | exact dq1 hd rfl | exact dq0 hd rfl | exact dq2 hd rfl | exact dq3 hd rfl | omega) hI124 (in_w (-1000000) 1000000 i133 rfl) e124 n134) (fun e u h => h) (fun v u h => ?_)
          obtain ⟨s134, hI134, hF134, n134a, rfl, rfl⟩ := h
          obtain ⟨z134a, e134⟩ : ∃ w, w = s134.2.2.1 109 26 := ⟨_, rfl⟩
          have i134a := inv_F hI134 0 8000 rfl e134
          rw [← (show z124a = s124.2.2.1 109 26 from e124)] at n134a
          rw [← (show z134a = s134.2.2.1 109 26 from e134)] at n134a
          show GG _ _ _ _ _ _ _ _ [] _ _ _
          refine g_aload_n 138 (gd rfl) rfl rfl ?_
          refine g_bipush 32 140 (gd rfl) rfl rfl ?_
          refine g_callv (X := _) (As := [.int (Int32.ofInt 32)]) (r := []) (b := A 109) (q := 109) 143 (gd rfl) rfl rfl rfl rfl rfl (ww_o rfl) (Nat.le_of_ble_eq_true rfl) (mc := 0) (ms := 0) (Nat.zero_le _) (Nat.zero_le _) (P := fun v u => _) ?_ (fun e u h => h) (fun v u h => h)
          intro po140 xx140 hp140 hx140
          refine g_enter2 (k := 306) (N := 300) (by first | exact dq1 hd rfl | exact dq0 hd rfl | exact dq2 hd rfl | exact dq3 hd rfl | omega) rfl (Nat.le_of_ble_eq_true rfl) ?_
          refine g_aload_n 1 (gd rfl) rfl rfl ?_
          refine g_getA (q2 := 126) 4 (gd rfl) rfl rfl rfl rfl ?_
          refine g_aload_n 5 (gd rfl) rfl rfl ?_
          refine g_getI 8 (gd rfl) rfl rfl rfl (fun z140x5 e140x5 => ?_)
          have q140x5 : z134a = z140x5 := (e134).trans e140x5.symm
          subst q140x5
          refine g_iload_n 9 (gd rfl) rfl rfl ?_
          have i140x9 : In z134a 0 7999 := by (first | have a0 := oa8 ro_109_20 ro_109_19 ro_109_18 i94x9 i79 ((in_c 32 rfl)) i134a i94x16 | ((first | have a0 := in_u ro_109_20 | (have a0 := ro_109_20; unfold In at a0)); (first | have a1 := in_u ro_109_19 | (have a1 := ro_109_19; unfold In at a1)); (first | have a2 := in_u ro_109_18 | (have a2 := ro_109_18; unfold In at a2)); (first | have a3 := in_u i94x9 | (have a3 := i94x9; unfold In at a3)); (first | have a4 := in_u i79 | (have a4 := i79; unfold In at a4)); (first | have a5 := in_u ((in_c 32 rfl)) | (have a5 := (in_c 32 rfl); unfold In at a5)); (first | have a6 := in_u i134a | (have a6 := i134a; unfold In at a6)); (first | have a7 := in_u i94x16 | (have a7 := i94x16; unfold In at a7)))); have a8 := t_add e94x16 i94x9 (in_c 1 rfl) rfl; (first | have a9 := oa2 ((in_c 1 rfl)) i78 | ((first | have a9 := in_u ((in_c 1 rfl)) | (have a9 := (in_c 1 rfl); unfold In at a9)); (first | have a10 := in_u i78 | (have a10 := i78; unfold In at a10)))); have a11 := t_add e78 ro_109_19 (in_c 160 rfl) rfl; (first | have a12 := in_u ((in_c 160 rfl)) | (have a12 := (in_c 160 rfl); unfold In at a12)); exact ⟨by omega, by omega⟩
          refine g_iastore 10 (gd rfl) rfl (n := 8000) rfl (in_ix i140x9 rfl) ?_
          have hI140x9 := inv_sI (q := 126) (j := z134a.toNatClampNeg) hI134 rfl (in_w (-2147483648) 2147483647 (in_c 32 rfl) rfl)
          refine g_aload_n 11 (gd rfl) rfl rfl ?_
          refine g_dup 12 (gd rfl) rfl rfl ?_
          refine g_getI 15 (gd rfl) rfl rfl rfl (fun z140x12 e140x12 => ?_)
          have q140x12 : z134a = z140x12 := (sI_F (e134)).trans e140x12.symm
          subst q140x12
          refine g_iconst 1 16 (gd rfl) rfl rfl ?_
          refine g_iadd 17 (gd rfl) rfl (fun z140x16 e140x16 => ?_)
          have i140x16 := in_add 1 8000 e140x16 i140x9 (in_c 1 rfl) rfl rfl
          refine g_putI 20 (gd rfl) rfl rfl rfl rfl ?_
          have hI140x17 := inv_sF (q := 109) (j := 26) hI140x9 rfl (in_w 0 8000 i140x16 rfl)
          refine g_return (gd rfl) rfl (hp140 _ _ ?_)
          show GG _ _ _ _ _ _ _ _ [] _ _ _
          refine g_aload_n 144 (gd rfl) rfl rfl ?_
          refine g_bipush 97 146 (gd rfl) rfl rfl ?_
          refine g_aload_n 147 (gd rfl) rfl rfl ?_
          refine g_getA (q2 := 117) 150 (gd rfl) rfl rfl rfl rfl ?_
          refine g_iload_n 151 (gd rfl) rfl rfl ?_
          refine g_iaload 152 (gd rfl) rfl (n := 480) rfl (in_ix i79 rfl) (fun z151 e151 => ?_)
          have i151 := inv_I hI140x17 (n := 480) (t := 0) 0 25 rfl (in_ix i79 rfl) rfl e151
          refine g_iadd 153 (gd rfl) rfl (fun z152 e152 => ?_)
          have i152 := in_add 97 122 e152 (in_c 97 rfl) i151 rfl rfl
          refine g_callv (X := _) (As := [.int z152]) (r := []) (b := A 109) (q := 109) 156 (gd rfl) rfl rfl rfl rfl rfl (ww_o rfl) (Nat.le_of_ble_eq_true rfl) (mc := 0) (ms := 0) (Nat.zero_le _) (Nat.zero_le _) (P := fun v u => _) ?_ (fun e u h => h) (fun v u h => h)
          intro po153 xx153 hp153 hx153
          refine g_enter2 (k := 306) (N := 300) (by first | exact dq1 hd rfl | exact dq0 hd rfl | exact dq2 hd rfl | exact dq3 hd rfl | omega) rfl (Nat.le_of_ble_eq_true rfl) ?_
          refine g_aload_n 1 (gd rfl) rfl rfl ?_
          refine g_getA (q2 := 126) 4 (gd rfl) rfl rfl rfl rfl ?_
          refine g_aload_n 5 (gd rfl) rfl rfl ?_
          refine g_getI 8 (gd rfl) rfl rfl rfl (fun z153x5 e153x5 => ?_)
          have q153x5 : z140x16 = z153x5 := (sF_get).trans e153x5.symm
          subst q153x5
          refine g_iload_n 9 (gd rfl) rfl rfl ?_
          have i153x9 : In z140x16 0 7999 := by (first | have a0 := oa6 ro_109_20 ro_109_19 ro_109_18 i94x9 i79 i152 | ((first | have a0 := in_u ro_109_20 | (have a0 := ro_109_20; unfold In at a0)); (first | have a1 := in_u ro_109_19 | (have a1 := ro_109_19; unfold In at a1)); (first | have a2 := in_u ro_109_18 | (have a2 := ro_109_18; unfold In at a2)); (first | have a3 := in_u i94x9 | (have a3 := i94x9; unfold In at a3)); (first | have a4 := in_u i79 | (have a4 := i79; unfold In at a4)); (first | have a5 := in_u i152 | (have a5 := i152; unfold In at a5)))); have a6 := t_add e152 (in_c 97 rfl) i151 rfl; (first | have a7 := oa3 i151 ((in_c 97 rfl)) i140x16 | ((first | have a7 := in_u i151 | (have a7 := i151; unfold In at a7)); (first | have a8 := in_u ((in_c 97 rfl)) | (have a8 := (in_c 97 rfl); unfold In at a8)); (first | have a9 := in_u i140x16 | (have a9 := i140x16; unfold In at a9)))); have a10 := t_add e140x16 i140x9 (in_c 1 rfl) rfl; (first | have a11 := oa3 ((in_c 1 rfl)) i140x9 i94x16 | ((first | have a11 := in_u ((in_c 1 rfl)) | (have a11 := (in_c 1 rfl); unfold In at a11)); (first | have a12 := in_u i140x9 | (have a12 := i140x9; unfold In at a12)); (first | have a13 := in_u i94x16 | (have a13 := i94x16; unfold In at a13)))); have a14 := t_add e94x16 i94x9 (in_c 1 rfl) rfl; (first | have a15 := in_u i78 | (have a15 := i78; unfold In at a15)); have a16 := t_add e78 ro_109_19 (in_c 160 rfl) rfl; (first | have a17 := in_u ((in_c 160 rfl)) | (have a17 := (in_c 160 rfl); unfold In at a17)); exact ⟨by omega, by omega⟩
          refine g_iastore 10 (gd rfl) rfl (n := 8000) rfl (in_ix i153x9 rfl) ?_
          have hI153x9 := inv_sI (q := 126) (j := z140x16.toNatClampNeg) hI140x17 rfl (in_w (-2147483648) 2147483647 i152 rfl)
          refine g_aload_n 11 (gd rfl) rfl rfl ?_
          refine g_dup 12 (gd rfl) rfl rfl ?_
          refine g_getI 15 (gd rfl) rfl rfl rfl (fun z153x12 e153x12 => ?_)
          have q153x12 : z140x16 = z153x12 := (sI_F (sF_get)).trans e153x12.symm
          subst q153x12
          refine g_iconst 1 16 (gd rfl) rfl rfl ?_
          refine g_iadd 17 (gd rfl) rfl (fun z153x16 e153x16 => ?_)
          have i153x16 := in_add 1 8000 e153x16 i153x9 (in_c 1 rfl) rfl rfl
          refine g_putI 20 (gd rfl) rfl rfl rfl rfl ?_
          have hI153x17 := inv_sF (q := 109) (j := 26) hI153x9 rfl (in_w 0 8000 i153x16 rfl)
          refine g_return (gd rfl) rfl (hp153 _ _ ?_)
          show GG _ _ _ _ _ _ _ _ [] _ _ _
          refine g_aload_n 157 (gd rfl) rfl rfl ?_
          refine g_bipush 59 159 (gd rfl) rfl rfl ?_
          refine g_callv (X := _) (As := [.int (Int32.ofInt 59)]) (r := []) (b := A 109) (q := 109) 162 (gd rfl) rfl rfl rfl rfl rfl (ww_o rfl) (Nat.le_of_ble_eq_true rfl) (mc := 0) (ms := 0) (Nat.zero_le _) (Nat.zero_le _) (P := fun v u => _) ?_ (fun e u h => h) (fun v u h => h)
          intro po159 xx159 hp159 hx159
          refine g_enter2 (k := 306) (N := 300) (by first | exact dq1 hd rfl | exact dq0 hd rfl | exact dq2 hd rfl | exact dq3 hd rfl | omega) rfl (Nat.le_of_ble_eq_true rfl) ?_
          refine g_aload_n 1 (gd rfl) rfl rfl ?_
          refine g_getA (q2 := 126) 4 (gd rfl) rfl rfl rfl rfl ?_
          refine g_aload_n 5 (gd rfl) rfl rfl ?_
          refine g_getI 8 (gd rfl) rfl rfl rfl (fun z159x5 e159x5 => ?_)
          have q159x5 : z153x16 = z159x5 := (sF_get).trans e159x5.symm
          subst q159x5
          refine g_iload_n 9 (gd rfl) rfl rfl ?_
          have i159x9 : In z153x16 0 7999 := by (first | have a0 := oa7 ro_109_20 ro_109_19 ro_109_18 i94x9 i79 ((in_c 59 rfl)) i153x16 | ((first | have a0 := in_u ro_109_20 | (have a0 := ro_109_20; unfold In at a0)); (first | have a1 := in_u ro_109_19 | (have a1 := ro_109_19; unfold In at a1)); (first | have a2 := in_u ro_109_18 | (have a2 := ro_109_18; unfold In at a2)); (first | have a3 := in_u i94x9 | (have a3 := i94x9; unfold In at a3)); (first | have a4 := in_u i79 | (have a4 := i79; unfold In at a4)); (first | have a5 := in_u ((in_c 59 rfl)) | (have a5 := (in_c 59 rfl); unfold In at a5)); (first | have a6 := in_u i153x16 | (have a6 := i153x16; unfold In at a6)))); have a7 := t_add e153x16 i153x9 (in_c 1 rfl) rfl; (first | have a8 := oa2 ((in_c 1 rfl)) i153x9 | ((first | have a8 := in_u ((in_c 1 rfl)) | (have a8 := (in_c 1 rfl); unfold In at a8)); (first | have a9 := in_u i153x9 | (have a9 := i153x9; unfold In at a9)))); have a10 := t_add e140x16 i140x9 (in_c 1 rfl) rfl; (first | have a11 := oa2 i140x9 i152 | ((first | have a11 := in_u i140x9 | (have a11 := i140x9; unfold In at a11)); (first | have a12 := in_u i152 | (have a12 := i152; unfold In at a12)))); have a13 := t_add e152 (in_c 97 rfl) i151 rfl; (first | have a14 := oa3 i151 ((in_c 97 rfl)) i94x16 | ((first | have a14 := in_u i151 | (have a14 := i151; unfold In at a14)); (first | have a15 := in_u ((in_c 97 rfl)) | (have a15 := (in_c 97 rfl); unfold In at a15)); (first | have a16 := in_u i94x16 | (have a16 := i94x16; unfold In at a16)))); have a17 := t_add e94x16 i94x9 (in_c 1 rfl) rfl; (first | have a18 := in_u i78 | (have a18 := i78; unfold In at a18)); have a19 := t_add e78 ro_109_19 (in_c 160 rfl) rfl; (first | have a20 := in_u ((in_c 160 rfl)) | (have a20 := (in_c 160 rfl); unfold In at a20)); exact ⟨by omega, by omega⟩
          refine g_iastore 10 (gd rfl) rfl (n := 8000) rfl (in_ix i159x9 rfl) ?_
          have hI159x9 := inv_sI (q := 126) (j := z153x16.toNatClampNeg) hI153x17 rfl (in_w (-2147483648) 2147483647 (in_c 59 rfl) rfl)
          refine g_aload_n 11 (gd rfl) rfl rfl ?_
          refine g_dup 12 (gd rfl) rfl rfl ?_
          refine g_getI 15 (gd rfl) rfl rfl rfl (fun z159x12 e159x12 => ?_)
          have q159x12 : z153x16 = z159x12 := (sI_F (sF_get)).trans e159x12.symm
          subst q159x12
          refine g_iconst 1 16 (gd rfl) rfl rfl ?_
          refine g_iadd 17 (gd rfl) rfl (fun z159x16 e159x16 => ?_)
          have i159x16 := in_add 1 8000 e159x16 i159x9 (in_c 1 rfl) rfl rfl
          refine g_putI 20 (gd rfl) rfl rfl rfl rfl ?_
          have hI159x17 := inv_sF (q := 109) (j := 26) hI159x9 rfl (in_w 0 8000 i159x16 rfl)
          refine g_return (gd rfl) rfl (hp159 _ _ ?_)
          show GG _ _ _ _ _ _ _ _ [] _ _ _
          refine g_iinc 165 (gd rfl) rfl rfl (Nat.le_of_ble_eq_true rfl) (fun z162 e162 => ?_)
          have i162 := in_add 1 320 e162 i79 (in_c 1 rfl) rfl rfl
          refine g_goto 70 (gd rfl) rfl ?_
          have v70 : z159x16 = (sF (sI (sF (sI (sF (sI s134 126 z134a.toNatClampNeg (Int32.ofInt 32)) 109 26 z140x16) 126 z140x16.toNatClampNeg z152) 109 26 z153x16) 126 z153x16.toNatClampNeg (Int32.ofInt 59)) 109 26 z159x16).2.2.1 109 26 := sF_get
          have n70 : (z159x16).toInt ≤ 128 + 40 * ((z162).toInt - (u_109_19).toInt) := by (first | have a0 := oa6 ro_109_20 ro_109_19 ro_109_18 i94x9 i79 i162 | ((first | have a0 := in_u ro_109_20 | (have a0 := ro_109_20; unfold In at a0)); (first | have a1 := in_u ro_109_19 | (have a1 := ro_109_19; unfold In at a1)); (first | have a2 := in_u ro_109_18 | (have a2 := ro_109_18; unfold In at a2)); (first | have a3 := in_u i94x9 | (have a3 := i94x9; unfold In at a3)); (first | have a4 := in_u i79 | (have a4 := i79; unfold In at a4)); (first | have a5 := in_u i162 | (have a5 := i162; unfold In at a5)))); have a6 := t_add e162 i79 (in_c 1 rfl) rfl; (first | have a7 := oa2 ((in_c 1 rfl)) i159x16 | ((first | have a7 := in_u ((in_c 1 rfl)) | (have a7 := (in_c 1 rfl); unfold In at a7)); (first | have a8 := in_u i159x16 | (have a8 := i159x16; unfold In at a8)))); have a9 := t_add e159x16 i159x9 (in_c 1 rfl) rfl; (first | have a10 := in_u i159x9 | (have a10 := i159x9; unfold In at a10)); have a11 := t_add e153x16 i153x9 (in_c 1 rfl) rfl; (first | have a12 := in_u i153x9 | (have a12 := i153x9; unfold In at a12)); have a13 := t_add e140x16 i140x9 (in_c 1 rfl) rfl; (first | have a14 := oa2 i140x9 i152 | ((first | have a14 := in_u i140x9 | (have a14 := i140x9; unfold In at a14)); (first | have a15 := in_u i152 | (have a15 := i152; unfold In at a15)))); have a16 := t_add e152 (in_c 97 rfl) i151 rfl; (first | have a17 := oa3 i151 ((in_c 97 rfl)) i94x16 | ((first | have a17 := in_u i151 | (have a17 := i151; unfold In at a17)); (first | have a18 := in_u ((in_c 97 rfl)) | (have a18 := (in_c 97 rfl); unfold In at a18)); (first | have a19 := in_u i94x16 | (have a19 := i94x16; unfold In at a19)))); have a20 := t_add e94x16 i94x9 (in_c 1 rfl) rfl; (first | have a21 := in_u i78 | (have a21 := i78; unfold In at a21)); have a22 := t_add e78 ro_109_19 (in_c 160 rfl) rfl; (first | have a23 := in_u ((in_c 160 rfl)) | (have a23 := (in_c 160 rfl); unfold In at a23)); omega
          have n70a : (u_109_19).toInt ≤ (z162).toInt := by (first | have a0 := oa6 ro_109_20 ro_109_19 ro_109_18 i94x9 i79 i162 | ((first | have a0 := in_u ro_109_20 | (have a0 := ro_109_20; unfold In at a0)); (first | have a1 := in_u ro_109_19 | (have a1 := ro_109_19; unfold In at a1)); (first | have a2 := in_u ro_109_18 | (have a2 := ro_109_18; unfold In at a2)); (first | have a3 := in_u i94x9 | (have a3 := i94x9; unfold In at a3)); (first | have a4 := in_u i79 | (have a4 := i79; unfold In at a4)); (first | have a5 := in_u i162 | (have a5 := i162; unfold In at a5)))); have a6 := t_add e162 i79 (in_c 1 rfl) rfl; (first | have a7 := oa2 ((in_c 1 rfl)) i159x16 | ((first | have a7 := in_u ((in_c 1 rfl)) | (have a7 := (in_c 1 rfl); unfold In at a7)); (first | have a8 := in_u i159x16 | (have a8 := i159x16; unfold In at a8)))); have a9 := t_add e159x16 i159x9 (in_c 1 rfl) rfl; (first | have a10 := in_u i159x9 | (have a10 := i159x9; unfold In at a10)); have a11 := t_add e153x16 i153x9 (in_c 1 rfl) rfl; (first | have a12 := in_u i153x9 | (have a12 := i153x9; unfold In at a12)); have a13 := t_add e140x16 i140x9 (in_c 1 rfl) rfl; (first | have a14 := oa2 i140x9 i152 | ((first | have a14 := in_u i140x9 | (have a14 := i140x9; unfold In at a14)); (first | have a15 := in_u i152 | (have a15 := i152; unfold In at a15)))); have a16 := t_add e152 (in_c 97 rfl) i151 rfl; (first | have a17 := oa3 i151 ((in_c 97 rfl)) i94x16 | ((first | have a17 := in_u i151 | (have a17 := i151; unfold In at a17)); (first | have a18 := in_u ((in_c 97 rfl)) | (have a18 := (in_c 97 rfl); unfold In at a18)); (first | have a19 := in_u i94x16 | (have a19 := i94x16; unfold In at a19)))); have a20 := t_add e94x16 i94x9 (in_c 1 rfl) rfl; (first | have a21 := in_u i78 | (have a21 := i78; unfold In at a21)); have a22 := t_add e78 ro_109_19 (in_c 160 rfl) rfl; (first | have a23 := in_u ((in_c 160 rfl)) | (have a23 := (in_c 160 rfl); unfold In at a23)); omega
          exact gg_w (by first | exact Nat.le_add_right _ _ | exact gw2 | exact gw3 | exact gwe rfl | exact gwf rfl | exact gwg rfl | exact gwh rfl | omega) (gg_f (gf_cons rfl (gf_cons rfl gf_nil)) (ih70 (sF (sI (sF (sI (sF (sI s134 126 z134a.toNatClampNeg (Int32.ofInt 32)) 109 26 z140x16) 126 z140x16.toNatClampNeg z152) 109 26 z153x16) 126 z153x16.toNatClampNeg (Int32.ofInt 59)) 109 26 z159x16) z162 z159x16 hI159x17 (fr_sF rfl (fr_sI rfl (fr_sF rfl (fr_sI rfl (fr_sF rfl (fr_sI rfl (fr_tr rfl (fr_tr rfl (fr_tr rfl (fr_tr rfl (fr_sF rfl (fr_sI rfl hFc70)) hF104) hF114) hF124) hF134))))))) (in_w 0 400 i162 rfl) v70 n70 n70a (m_up mm70 (t_add e162 i79 (in_c 1 rfl) rfl) (in_w 1 1 (in_c 1 rfl) rfl))))
  have ct12 : ∀ (k12 : Nat) (sc12 : GS) (y12_1 : Int32) (w12_109_26 : Int32), Inv sc12 → Fr fm_308 s sc12 → (In y12_1 0 32) → (w12_109_26 = sc12.2.2.1 109 26) → ((w12_109_26).toInt ≤ 4 * (y12_1).toInt) → 32 - (y12_1).toInt < (k12 : Int) → GG Z (d - 1) 308 post (gx xp) (360902 + k12 * 900) 12 (fun j => xlook j [(0, .ref (A 109)), (1, .int y12_1)]) [] (WW Z A sc12 ++ ex) 0 0 := by
    intro k12
    induction k12 with
    | zero => intro sc12 y12_1 w12_109_26 hIc12 hFc12 j12_1 v12_109_26 n12_0 mm12; exact m_no mm12 j12_1 rfl
    | succ k12 ih12 =>
      intro sc12 y12_1 w12_109_26 hIc12 hFc12 j12_1 v12_109_26 n12_0 mm12
      refine gg_w (M := 360902 + k12 * 900 + 900) gws ?_
      refine g_iload_n 13 (gd rfl) rfl rfl ?_
      refine g_aload_n 14 (gd rfl) rfl rfl ?_
      refine g_getI 17 (gd rfl) rfl rfl rfl (fun z14 e14 => ?_)
      have q14 : u_109_20 = z14 := (fr_F e_109_20 hFc12 rfl).trans e14.symm
      subst q14
      refine g_cmp_ge 20 65 (gd rfl) rfl rfl (fun c17 => ?_) (fun c17 => ?_)
      · skip
        refine g_aload_n 66 (gd rfl) rfl rfl ?_
        refine g_getI 69 (gd rfl) rfl rfl rfl (fun z66 e66 => ?_)
        have q66 : u_109_19 = z66 := (fr_F e_109_19 hFc12 rfl).trans e66.symm
        subst q66
        refine g_istore_n 70 (gd rfl) rfl (Nat.le_of_ble_eq_true rfl) ?_
        have n70 : (w12_109_26).toInt ≤ 128 + 40 * ((u_109_19).toInt - (u_109_19).toInt) := by (first | have a0 := oa5 ro_109_20 ro_109_19 ro_109_18 ((inv_F hIc12 0 8000 rfl v12_109_26)) j12_1 | ((first | have a0 := in_u ro_109_20 | (have a0 := ro_109_20; unfold In at a0)); (first | have a1 := in_u ro_109_19 | (have a1 := ro_109_19; unfold In at a1)); (first | have a2 := in_u ro_109_18 | (have a2 := ro_109_18; unfold In at a2)); (first | have a3 := in_u ((inv_F hIc12 0 8000 rfl v12_109_26)) | (have a3 := (inv_F hIc12 0 8000 rfl v12_109_26); unfold In at a3)); (first | have a4 := in_u j12_1 | (have a4 := j12_1; unfold In at a4)))); omega
        have n70a : (u_109_19).toInt ≤ (u_109_19).toInt := by exact Int.le_refl _
        exact gg_w (by first | exact Nat.le_add_right _ _ | exact gw2 | exact gw3 | exact gwe rfl | exact gwf rfl | exact gwg rfl | exact gwh rfl | omega) (gg_f (gf_cons rfl (gf_cons rfl gf_nil)) (ct70 401 sc12 u_109_19 w12_109_26 hIc12 hFc12 (in_w 0 400 ro_109_19 rfl) v12_109_26 n70 n70a (m_in 401 (in_w 0 400 ro_109_19 rfl) rfl)))
      · skip
        have i17 := r_lt1 0 31 c17 j12_1 ro_109_20 rfl
        have i17a := r_lt2 1 32 c17 j12_1 ro_109_20 rfl
        refine g_aload_n 21 (gd rfl) rfl rfl ?_
        refine g_bipush 110 23 (gd rfl) rfl rfl ?_
        refine g_callv (X := _) (As := [.int (Int32.ofInt 110)]) (r := []) (b := A 109) (q := 109) 26 (gd rfl) rfl rfl rfl rfl rfl (ww_o rfl) (Nat.le_of_ble_eq_true rfl) (mc := 0) (ms := 0) (Nat.zero_le _) (Nat.zero_le _) (P := fun v u => _) ?_ (fun e u h => h) (fun v u h => h)
        intro po23 xx23 hp23 hx23
        refine g_enter2 (k := 306) (N := 300) (by first | exact dq1 hd rfl | exact dq0 hd rfl | exact dq2 hd rfl | exact dq3 hd rfl | omega) rfl (Nat.le_of_ble_eq_true rfl) ?_
        refine g_aload_n 1 (gd rfl) rfl rfl ?_
        refine g_getA (q2 := 126) 4 (gd rfl) rfl rfl rfl rfl ?_
        refine g_aload_n 5 (gd rfl) rfl rfl ?_
        refine g_getI 8 (gd rfl) rfl rfl rfl (fun z23x5 e23x5 => ?_)
        have q23x5 : w12_109_26 = z23x5 := (v12_109_26).trans e23x5.symm
        subst q23x5
        refine g_iload_n 9 (gd rfl) rfl rfl ?_
        have i23x9 : In w12_109_26 0 7999 := by (first | have a0 := oa6 i17a ro_109_19 ro_109_18 ((inv_F hIc12 0 8000 rfl v12_109_26)) i17 ((in_c 110 rfl)) | ((first | have a0 := in_u i17a | (have a0 := i17a; unfold In at a0)); (first | have a1 := in_u ro_109_19 | (have a1 := ro_109_19; unfold In at a1)); (first | have a2 := in_u ro_109_18 | (have a2 := ro_109_18; unfold In at a2)); (first | have a3 := in_u ((inv_F hIc12 0 8000 rfl v12_109_26)) | (have a3 := (inv_F hIc12 0 8000 rfl v12_109_26); unfold In at a3)); (first | have a4 := in_u i17 | (have a4 := i17; unfold In at a4)); (first | have a5 := in_u ((in_c 110 rfl)) | (have a5 := (in_c 110 rfl); unfold In at a5)))); exact ⟨by omega, by omega⟩
        refine g_iastore 10 (gd rfl) rfl (n := 8000) rfl (in_ix i23x9 rfl) ?_
        have hI23x9 := inv_sI (q := 126) (j := w12_109_26.toNatClampNeg) hIc12 rfl (in_w (-2147483648) 2147483647 (in_c 110 rfl) rfl)
        refine g_aload_n 11 (gd rfl) rfl rfl ?_
        refine g_dup 12 (gd rfl) rfl rfl ?_
        refine g_getI 15 (gd rfl) rfl rfl rfl (fun z23x12 e23x12 => ?_)
        have q23x12 : w12_109_26 = z23x12 := (sI_F (v12_109_26)).trans e23x12.symm
        subst q23x12
        refine g_iconst 1 16 (gd rfl) rfl rfl ?_
        refine g_iadd 17 (gd rfl) rfl (fun z23x16 e23x16 => ?_)
        have i23x16 := in_add 1 8000 e23x16 i23x9 (in_c 1 rfl) rfl rfl
        refine g_putI 20 (gd rfl) rfl rfl rfl rfl ?_
        have hI23x17 := inv_sF (q := 109) (j := 26) hI23x9 rfl (in_w 0 8000 i23x16 rfl)
        refine g_return (gd rfl) rfl (hp23 _ _ ?_)
        show GG _ _ _ _ _ _ _ _ [] _ _ _
        refine g_aload_n 27 (gd rfl) rfl rfl ?_
        refine g_bipush 32 29 (gd rfl) rfl rfl ?_
        refine g_callv (X := _) (As := [.int (Int32.ofInt 32)]) (r := []) (b := A 109) (q := 109) 32 (gd rfl) rfl rfl rfl rfl rfl (ww_o rfl) (Nat.le_of_ble_eq_true rfl) (mc := 0) (ms := 0) (Nat.zero_le _) (Nat.zero_le _) (P := fun v u => _) ?_ (fun e u h => h) (fun v u h => h)
        intro po29 xx29 hp29 hx29
        refine g_enter2 (k := 306) (N := 300) (by first | exact dq1 hd rfl | exact dq0 hd rfl | exact dq2 hd rfl | exact dq3 hd rfl | omega) rfl (Nat.le_of_ble_eq_true rfl) ?_
        refine g_aload_n 1 (gd rfl) rfl rfl ?_
        refine g_getA (q2 := 126) 4 (gd rfl) rfl rfl rfl rfl ?_
        refine g_aload_n 5 (gd rfl) rfl rfl ?_
        refine g_getI 8 (gd rfl) rfl rfl rfl (fun z29x5 e29x5 => ?_)
        have q29x5 : z23x16 = z29x5 := (sF_get).trans e29x5.symm
        subst q29x5
        refine g_iload_n 9 (gd rfl) rfl rfl ?_
        have i29x9 : In z23x16 0 7999 := by (first | have a0 := oa7 i17a ro_109_19 ro_109_18 i23x9 i17 ((in_c 32 rfl)) i23x16 | ((first | have a0 := in_u i17a | (have a0 := i17a; unfold In at a0)); (first | have a1 := in_u ro_109_19 | (have a1 := ro_109_19; unfold In at a1)); (first | have a2 := in_u ro_109_18 | (have a2 := ro_109_18; unfold In at a2)); (first | have a3 := in_u i23x9 | (have a3 := i23x9; unfold In at a3)); (first | have a4 := in_u i17 | (have a4 := i17; unfold In at a4)); (first | have a5 := in_u ((in_c 32 rfl)) | (have a5 := (in_c 32 rfl); unfold In at a5)); (first | have a6 := in_u i23x16 | (have a6 := i23x16; unfold In at a6)))); have a7 := t_add e23x16 i23x9 (in_c 1 rfl) rfl; (first | have a8 := in_u ((in_c 1 rfl)) | (have a8 := (in_c 1 rfl); unfold In at a8)); exact ⟨by omega, by omega⟩
        refine g_iastore 10 (gd rfl) rfl (n := 8000) rfl (in_ix i29x9 rfl) ?_
        have hI29x9 := inv_sI (q := 126) (j := z23x16.toNatClampNeg) hI23x17 rfl (in_w (-2147483648) 2147483647 (in_c 32 rfl) rfl)
        refine g_aload_n 11 (gd rfl) rfl rfl ?_
        refine g_dup 12 (gd rfl) rfl rfl ?_
        refine g_getI 15 (gd rfl) rfl rfl rfl (fun z29x12 e29x12 => ?_)
        have q29x12 : z23x16 = z29x12 := (sI_F (sF_get)).trans e29x12.symm
        subst q29x12
        refine g_iconst 1 16 (gd rfl) rfl rfl ?_
        refine g_iadd 17 (gd rfl) rfl (fun z29x16 e29x16 => ?_)
        have i29x16 := in_add 1 8000 e29x16 i29x9 (in_c 1 rfl) rfl rfl
        refine g_putI 20 (gd rfl) rfl rfl rfl rfl ?_
        have hI29x17 := inv_sF (q := 109) (j := 26) hI29x9 rfl (in_w 0 8000 i29x16 rfl)
        refine g_return (gd rfl) rfl (hp29 _ _ ?_)
        show GG _ _ _ _ _ _ _ _ [] _ _ _
        refine g_aload_n 33 (gd rfl) rfl rfl ?_
        refine g_bipush 97 35 (gd rfl) rfl rfl ?_
        refine g_aload_n 36 (gd rfl) rfl rfl ?_
        refine g_getA (q2 := 111) 39 (gd rfl) rfl rfl rfl rfl ?_
        refine g_bipush 32 41 (gd rfl) rfl rfl ?_
        refine g_aload_n 42 (gd rfl) rfl rfl ?_
        refine g_getI 45 (gd rfl) rfl rfl rfl (fun z42 e42 => ?_)
        have q42 : u_109_18 = z42 := (sF_ne rfl (sI_F (sF_ne rfl (sI_F (fr_F e_109_18 hFc12 rfl))))).trans e42.symm
        subst q42
        refine g_imul 46 (gd rfl) rfl (fun z45 e45 => ?_)
        have i45 := in_mulc 32 0 32 (Or.inl e45) ro_109_18 rfl rfl
        refine g_iload_n 47 (gd rfl) rfl rfl ?_
        refine g_iadd 48 (gd rfl) rfl (fun z47 e47 => ?_)
        have i47 := in_add 0 63 e47 i45 i17 rfl rfl
        refine g_iaload 49 (gd rfl) rfl (n := 96) rfl (in_ix i47 rfl) (fun z48 e48 => ?_)
        have i48 := inv_I hI29x17 (n := 96) (t := 0) 0 25 rfl (in_ix i47 rfl) rfl e48
        refine g_iadd 50 (gd rfl) rfl (fun z49 e49 => ?_)
        have i49 := in_add 97 122 e49 (in_c 97 rfl) i48 rfl rfl
        refine g_callv (X := _) (As := [.int z49]) (r := []) (b := A 109) (q := 109) 53 (gd rfl) rfl rfl rfl rfl rfl (ww_o rfl) (Nat.le_of_ble_eq_true rfl) (mc := 0) (ms := 0) (Nat.zero_le _) (Nat.zero_le _) (P := fun v u => _) ?_ (fun e u h => h) (fun v u h => h)
        intro po50 xx50 hp50 hx50
        refine g_enter2 (k := 306) (N := 300) (by first | exact dq1 hd rfl | exact dq0 hd rfl | exact dq2 hd rfl | exact dq3 hd rfl | omega) rfl (Nat.le_of_ble_eq_true rfl) ?_
        refine g_aload_n 1 (gd rfl) rfl rfl ?_
        refine g_getA (q2 := 126) 4 (gd rfl) rfl rfl rfl rfl ?_
        refine g_aload_n 5 (gd rfl) rfl rfl ?_
        refine g_getI 8 (gd rfl) rfl rfl rfl (fun z50x5 e50x5 => ?_)
        have q50x5 : z29x16 = z50x5 := (sF_get).trans e50x5.symm
        subst q50x5
        refine g_iload_n 9 (gd rfl) rfl rfl ?_
        have i50x9 : In z29x16 0 7999 := by (first | have a0 := oa6 i17a ro_109_19 ro_109_18 i23x9 i17 i49 | ((first | have a0 := in_u i17a | (have a0 := i17a; unfold In at a0)); (first | have a1 := in_u ro_109_19 | (have a1 := ro_109_19; unfold In at a1)); (first | have a2 := in_u ro_109_18 | (have a2 := ro_109_18; unfold In at a2)); (first | have a3 := in_u i23x9 | (have a3 := i23x9; unfold In at a3)); (first | have a4 := in_u i17 | (have a4 := i17; unfold In at a4)); (first | have a5 := in_u i49 | (have a5 := i49; unfold In at a5)))); have a6 := t_add e49 (in_c 97 rfl) i48 rfl; (first | have a7 := oa3 i48 ((in_c 97 rfl)) i29x16 | ((first | have a7 := in_u i48 | (have a7 := i48; unfold In at a7)); (first | have a8 := in_u ((in_c 97 rfl)) | (have a8 := (in_c 97 rfl); unfold In at a8)); (first | have a9 := in_u i29x16 | (have a9 := i29x16; unfold In at a9)))); have a10 := t_add e29x16 i29x9 (in_c 1 rfl) rfl; (first | have a11 := oa2 ((in_c 1 rfl)) i29x9 | ((first | have a11 := in_u ((in_c 1 rfl)) | (have a11 := (in_c 1 rfl); unfold In at a11)); (first | have a12 := in_u i29x9 | (have a12 := i29x9; unfold In at a12)))); have a13 := t_add e23x16 i23x9 (in_c 1 rfl) rfl; (first | have a14 := in_u i47 | (have a14 := i47; unfold In at a14)); have a15 := t_add e47 i45 i17 rfl; (first | have a16 := in_u i45 | (have a16 := i45; unfold In at a16)); have a17 := (t_mulc 32 (Or.inl e45) ro_109_18 rfl).1; exact ⟨by omega, by omega⟩
        refine g_iastore 10 (gd rfl) rfl (n := 8000) rfl (in_ix i50x9 rfl) ?_
        have hI50x9 := inv_sI (q := 126) (j := z29x16.toNatClampNeg) hI29x17 rfl (in_w (-2147483648) 2147483647 i49 rfl)
        refine g_aload_n 11 (gd rfl) rfl rfl ?_
        refine g_dup 12 (gd rfl) rfl rfl ?_
        refine g_getI 15 (gd rfl) rfl rfl rfl (fun z50x12 e50x12 => ?_)
        have q50x12 : z29x16 = z50x12 := (sI_F (sF_get)).trans e50x12.symm
        subst q50x12
        refine g_iconst 1 16 (gd rfl) rfl rfl ?_
        refine g_iadd 17 (gd rfl) rfl (fun z50x16 e50x16 => ?_)
        have i50x16 := in_add 1 8000 e50x16 i50x9 (in_c 1 rfl) rfl rfl
        refine g_putI 20 (gd rfl) rfl rfl rfl rfl ?_
        have hI50x17 := inv_sF (q := 109) (j := 26) hI50x9 rfl (in_w 0 8000 i50x16 rfl)
        refine g_return (gd rfl) rfl (hp50 _ _ ?_)
        show GG _ _ _ _ _ _ _ _ [] _ _ _
        refine g_aload_n 54 (gd rfl) rfl rfl ?_
        refine g_bipush 59 56 (gd rfl) rfl rfl ?_
        refine g_callv (X := _) (As := [.int (Int32.ofInt 59)]) (r := []) (b := A 109) (q := 109) 59 (gd rfl) rfl rfl rfl rfl rfl (ww_o rfl) (Nat.le_of_ble_eq_true rfl) (mc := 0) (ms := 0) (Nat.zero_le _) (Nat.zero_le _) (P := fun v u => _) ?_ (fun e u h => h) (fun v u h => h)
        intro po56 xx56 hp56 hx56
        refine g_enter2 (k := 306) (N := 300) (by first | exact dq1 hd rfl | exact dq0 hd rfl | exact dq2 hd rfl | exact dq3 hd rfl | omega) rfl (Nat.le_of_ble_eq_true rfl) ?_
        refine g_aload_n 1 (gd rfl) rfl rfl ?_
        refine g_getA (q2 := 126) 4 (gd rfl) rfl rfl rfl rfl ?_
        refine g_aload_n 5 (gd rfl) rfl rfl ?_
        refine g_getI 8 (gd rfl) rfl rfl rfl (fun z56x5 e56x5 => ?_)
        have q56x5 : z50x16 = z56x5 := (sF_get).trans e56x5.symm
        subst q56x5
        refine g_iload_n 9 (gd rfl) rfl rfl ?_
        have i56x9 : In z50x16 0 7999 := by (first | have a0 := oa7 i17a ro_109_19 ro_109_18 i23x9 i17 ((in_c 59 rfl)) i50x16 | ((first | have a0 := in_u i17a | (have a0 := i17a; unfold In at a0)); (first | have a1 := in_u ro_109_19 | (have a1 := ro_109_19; unfold In at a1)); (first | have a2 := in_u ro_109_18 | (have a2 := ro_109_18; unfold In at a2)); (first | have a3 := in_u i23x9 | (have a3 := i23x9; unfold In at a3)); (first | have a4 := in_u i17 | (have a4 := i17; unfold In at a4)); (first | have a5 := in_u ((in_c 59 rfl)) | (have a5 := (in_c 59 rfl); unfold In at a5)); (first | have a6 := in_u i50x16 | (have a6 := i50x16; unfold In at a6)))); have a7 := t_add e50x16 i50x9 (in_c 1 rfl) rfl; (first | have a8 := oa2 ((in_c 1 rfl)) i50x9 | ((first | have a8 := in_u ((in_c 1 rfl)) | (have a8 := (in_c 1 rfl); unfold In at a8)); (first | have a9 := in_u i50x9 | (have a9 := i50x9; unfold In at a9)))); have a10 := t_add e29x16 i29x9 (in_c 1 rfl) rfl; (first | have a11 := in_u i29x9 | (have a11 := i29x9; unfold In at a11)); have a12 := t_add e23x16 i23x9 (in_c 1 rfl) rfl; (first | have a13 := in_u i49 | (have a13 := i49; unfold In at a13)); have a14 := t_add e49 (in_c 97 rfl) i48 rfl; (first | have a15 := oa3 i48 ((in_c 97 rfl)) i47 | ((first | have a15 := in_u i48 | (have a15 := i48; unfold In at a15)); (first | have a16 := in_u ((in_c 97 rfl)) | (have a16 := (in_c 97 rfl); unfold In at a16)); (first | have a17 := in_u i47 | (have a17 := i47; unfold In at a17)))); have a18 := t_add e47 i45 i17 rfl; (first | have a19 := in_u i45 | (have a19 := i45; unfold In at a19)); have a20 := (t_mulc 32 (Or.inl e45) ro_109_18 rfl).1; exact ⟨by omega, by omega⟩
        refine g_iastore 10 (gd rfl) rfl (n := 8000) rfl (in_ix i56x9 rfl) ?_
        have hI56x9 := inv_sI (q := 126) (j := z50x16.toNatClampNeg) hI50x17 rfl (in_w (-2147483648) 2147483647 (in_c 59 rfl) rfl)
        refine g_aload_n 11 (gd rfl) rfl rfl ?_
        refine g_dup 12 (gd rfl) rfl rfl ?_
        refine g_getI 15 (gd rfl) rfl rfl rfl (fun z56x12 e56x12 => ?_)
        have q56x12 : z50x16 = z56x12 := (sI_F (sF_get)).trans e56x12.symm
        subst q56x12
        refine g_iconst 1 16 (gd rfl) rfl rfl ?_
        refine g_iadd 17 (gd rfl) rfl (fun z56x16 e56x16 => ?_)
        have i56x16 := in_add 1 8000 e56x16 i56x9 (in_c 1 rfl) rfl rfl
        refine g_putI 20 (gd rfl) rfl rfl rfl rfl ?_
        have hI56x17 := inv_sF (q := 109) (j := 26) hI56x9 rfl (in_w 0 8000 i56x16 rfl)
        refine g_return (gd rfl) rfl (hp56 _ _ ?_)
        show GG _ _ _ _ _ _ _ _ [] _ _ _
        refine g_iinc 62 (gd rfl) rfl rfl (Nat.le_of_ble_eq_true rfl) (fun z59 e59 => ?_)
        have i59 := in_add 1 32 e59 i17 (in_c 1 rfl) rfl rfl
        refine g_goto 12 (gd rfl) rfl ?_
        have v12 : z56x16 = (sF (sI (sF (sI (sF (sI (sF (sI sc12 126 w12_109_26.toNatClampNeg (Int32.ofInt 110)) 109 26 z23x16) 126 z23x16.toNatClampNeg (Int32.ofInt 32)) 109 26 z29x16) 126 z29x16.toNatClampNeg z49) 109 26 z50x16) 126 z50x16.toNatClampNeg (Int32.ofInt 59)) 109 26 z56x16).2.2.1 109 26 := sF_get
        have n12 : (z56x16).toInt ≤ 4 * (z59).toInt := by (first | have a0 := oa6 i17a ro_109_19 ro_109_18 i23x9 i17 i59 | ((first | have a0 := in_u i17a | (have a0 := i17a; unfold In at a0)); (first | have a1 := in_u ro_109_19 | (have a1 := ro_109_19; unfold In at a1)); (first | have a2 := in_u ro_109_18 | (have a2 := ro_109_18; unfold In at a2)); (first | have a3 := in_u i23x9 | (have a3 := i23x9; unfold In at a3)); (first | have a4 := in_u i17 | (have a4 := i17; unfold In at a4)); (first | have a5 := in_u i59 | (have a5 := i59; unfold In at a5)))); have a6 := t_add e59 i17 (in_c 1 rfl) rfl; (first | have a7 := oa2 ((in_c 1 rfl)) i56x16 | ((first | have a7 := in_u ((in_c 1 rfl)) | (have a7 := (in_c 1 rfl); unfold In at a7)); (first | have a8 := in_u i56x16 | (have a8 := i56x16; unfold In at a8)))); have a9 := t_add e56x16 i56x9 (in_c 1 rfl) rfl; (first | have a10 := in_u i56x9 | (have a10 := i56x9; unfold In at a10)); have a11 := t_add e50x16 i50x9 (in_c 1 rfl) rfl; (first | have a12 := in_u i50x9 | (have a12 := i50x9; unfold In at a12)); have a13 := t_add e29x16 i29x9 (in_c 1 rfl) rfl; (first | have a14 := in_u i29x9 | (have a14 := i29x9; unfold In at a14)); have a15 := t_add e23x16 i23x9 (in_c 1 rfl) rfl; (first | have a16 := in_u i49 | (have a16 := i49; unfold In at a16)); have a17 := t_add e49 (in_c 97 rfl) i48 rfl; (first | have a18 := oa3 i48 ((in_c 97 rfl)) i47 | ((first | have a18 := in_u i48 | (have a18 := i48; unfold In at a18)); (first | have a19 := in_u ((in_c 97 rfl)) | (have a19 := (in_c 97 rfl); unfold In at a19)); (first | have a20 := in_u i47 | (have a20 := i47; unfold In at a20)))); have a21 := t_add e47 i45 i17 rfl; (first | have a22 := in_u i45 | (have a22 := i45; unfold In at a22)); have a23 := (t_mulc 32 (Or.inl e45) ro_109_18 rfl).1; omega
        exact gg_w (by first | exact Nat.le_add_right _ _ | exact gw2 | exact gw3 | exact gwe rfl | exact gwf rfl | exact gwg rfl | exact gwh rfl | omega) (gg_f (gf_cons rfl (gf_cons rfl gf_nil)) (ih12 (sF (sI (sF (sI (sF (sI (sF (sI sc12 126 w12_109_26.toNatClampNeg (Int32.ofInt 110)) 109 26 z23x16) 126 z23x16.toNatClampNeg (Int32.ofInt 32)) 109 26 z29x16) 126 z29x16.toNatClampNeg z49) 109 26 z50x16) 126 z50x16.toNatClampNeg (Int32.ofInt 59)) 109 26 z56x16) z59 z56x16 hI56x17 (fr_sF rfl (fr_sI rfl (fr_sF rfl (fr_sI rfl (fr_sF rfl (fr_sI rfl (fr_sF rfl (fr_sI rfl hFc12)))))))) (in_w 0 32 i59 rfl) v12 n12 (m_up mm12 (t_add e59 i17 (in_c 1 rfl) rfl) (in_w 1 1 (in_c 1 rfl) rfl))))
  refine g_enter2 (k := 308) (N := 391502) (by first | exact dq1 hd rfl | exact dq0 hd rfl | exact dq2 hd rfl | exact dq3 hd rfl | omega) rfl (Nat.le_of_ble_eq_true rfl) ?_
  refine g_aload_n 1 (gd rfl) rfl rfl ?_
  refine g_iconst 0 2 (gd rfl) rfl rfl ?_
  refine g_putI 5 (gd rfl) rfl rfl rfl rfl ?_
  have hI2 := inv_sF (q := 109) (j := 0) hI rfl (in_w 0 2 (in_c 0 rfl) rfl)
  refine g_aload_n 6 (gd rfl) rfl rfl ?_
  refine g_iconst 0 7 (gd rfl) rfl rfl ?_
  refine g_putI 10 (gd rfl) rfl rfl rfl rfl ?_
  have hI7 := inv_sF (q := 109) (j := 26) hI2 rfl (in_w 0 8000 (in_c 0 rfl) rfl)
  refine g_iconst 0 11 (gd rfl) rfl rfl ?_
  refine g_istore_n 12 (gd rfl) rfl (Nat.le_of_ble_eq_true rfl) ?_
  have v12 : (Int32.ofInt 0) = (sF (sF s 109 0 (Int32.ofInt 0)) 109 26 (Int32.ofInt 0)).2.2.1 109 26 := sF_get
  have n12 : ((Int32.ofInt 0)).toInt ≤ 4 * ((Int32.ofInt 0)).toInt := by (first | have a0 := oa4 ro_109_20 ro_109_19 ro_109_18 ((in_c 0 rfl)) | ((first | have a0 := in_u ro_109_20 | (have a0 := ro_109_20; unfold In at a0)); (first | have a1 := in_u ro_109_19 | (have a1 := ro_109_19; unfold In at a1)); (first | have a2 := in_u ro_109_18 | (have a2 := ro_109_18; unfold In at a2)); (first | have a3 := in_u ((in_c 0 rfl)) | (have a3 := (in_c 0 rfl); unfold In at a3)))); omega
  exact gg_w (by first | exact Nat.le_of_ble_eq_true rfl | omega) (gg_f (gf_cons rfl (gf_cons rfl gf_nil)) (ct12 33 (sF (sF s 109 0 (Int32.ofInt 0)) 109 26 (Int32.ofInt 0)) (Int32.ofInt 0) (Int32.ofInt 0) hI7 (fr_sF rfl (fr_sF rfl fr_rf)) (in_w 0 32 (in_c 0 rfl) rfl) v12 n12 (m_in 33 (in_w 0 32 (in_c 0 rfl) rfl) rfl)))

def fm_309 : FM := ([], [], [(109, 0)], [])
/-- GraphHouseModel.printed -/
theorem k_309 {Z : AmZ} {A : Nat → Nat} {s : GS} {ex : va_W} {d : Nat} {X : AmX} {x1 : Int32} (hd : 4 ≤ d) (hI : Inv s)  : GC Z d 309 [.ref (A 109), .int x1] (WW Z A s ++ ex) 0 0 (fun v u => ∃ t : GS, Inv t ∧ Fr fm_309 s t ∧ ∃ z : Int32, v = some (.int z) ∧ u = WW Z A t ++ ex ∧ In z (-2147483648) 2147483647) X := by
  intro post xp hP hX
  obtain ⟨u_109_26, e_109_26⟩ : ∃ w, w = s.2.2.1 109 26 := ⟨_, rfl⟩
  have ro_109_26 := inv_F hI 0 8000 rfl e_109_26
  refine g_enter2 (k := 309) (N := 900) (by first | exact dq1 hd rfl | exact dq0 hd rfl | exact dq2 hd rfl | exact dq3 hd rfl | omega) rfl (Nat.le_of_ble_eq_true rfl) ?_
  refine g_aload_n 1 (gd rfl) rfl rfl ?_
  refine g_iload_n 2 (gd rfl) rfl rfl ?_
  refine g_if_lt 5 17 (gd rfl) rfl rfl (fun c2 => ?_) (fun c2 => ?_)
  · skip
    have i2 := z_lt (-2147483648) (-1) c2 (i_rng x1) rfl
    refine g_iconst 0 18 (gd rfl) rfl rfl ?_
    refine g_callv (X := _) (As := [.int (Int32.ofInt 0)]) (r := []) (b := A 109) (q := 109) 21 (gd rfl) rfl rfl rfl rfl rfl (ww_o rfl) (Nat.le_of_ble_eq_true rfl) (mc := 0) (ms := 0) (Nat.zero_le _) (Nat.zero_le _) (P := fun v u => _) ?_ (fun e u h => h) (fun v u h => h)
    intro po18 xx18 hp18 hx18
    refine g_enter2 (k := 271) (N := 300) (by first | exact dq1 hd rfl | exact dq0 hd rfl | exact dq2 hd rfl | exact dq3 hd rfl | omega) rfl (Nat.le_of_ble_eq_true rfl) ?_
    refine g_aload_n 1 (gd rfl) rfl rfl ?_
    refine g_iload_n 2 (gd rfl) rfl rfl ?_
    refine g_iconst 1 3 (gd rfl) rfl rfl ?_
    refine g_callv (X := _) (As := [.int (Int32.ofInt 0), .int (Int32.ofInt 1)]) (r := []) (b := A 109) (q := 109) 6 (gd rfl) rfl rfl rfl rfl rfl (ww_o rfl) (Nat.le_of_ble_eq_true rfl) (mc := 0) (ms := 0) (Nat.zero_le _) (Nat.zero_le _) (P := fun v u => _) ?_ (fun e u h => h) (fun v u h => h)
    intro po18x3 xx18x3 hp18x3 hx18x3
    refine g_enter2 (k := 270) (N := 300) (by first | exact dq1 hd rfl | exact dq0 hd rfl | exact dq2 hd rfl | exact dq3 hd rfl | omega) rfl (Nat.le_of_ble_eq_true rfl) ?_
    refine g_aload_n 1 (gd rfl) rfl rfl ?_
    refine g_iload_n 2 (gd rfl) rfl rfl ?_
    refine g_if_ne 5 9 (gd rfl) rfl rfl (fun c18x3x2 => ?_) (fun c18x3x2 => ?_)
    · skip
      exact zn_ne c18x3x2 (in_c 0 rfl) rfl
    · skip
      refine g_iconst 1 6 (gd rfl) rfl rfl ?_
      refine g_goto 18 (gd rfl) rfl ?_
      refine g_putI 21 (gd rfl) rfl rfl rfl rfl ?_
      have hI18x3x18 := inv_sF (q := 109) (j := 0) hI rfl (in_w 0 2 (in_c 1 rfl) rfl)
      refine g_aload_n 22 (gd rfl) rfl rfl ?_
      refine g_getI 25 (gd rfl) rfl rfl rfl (fun z18x3x22 e18x3x22 => ?_)
      have q18x3x22 : (Int32.ofInt 1) = z18x3x22 := (sF_get).trans e18x3x22.symm
      subst q18x3x22
      refine g_if_le 28 32 (gd rfl) rfl rfl (fun c18x3x25 => ?_) (fun c18x3x25 => ?_)
      · skip
        exact zn_le c18x3x25 (in_c 1 rfl) rfl
      · skip
        refine g_iconst 1 29 (gd rfl) rfl rfl ?_
        refine g_goto 33 (gd rfl) rfl ?_
        refine g_ireturn (gd rfl) rfl (nb01 (in_w 0 1 (in_c 1 rfl) rfl)) (hp18x3 _ _ ?_)
        show GG _ _ _ _ _ _ _ _ [.int (Int32.ofInt 1)] _ _ _
        refine g_ireturn (gd rfl) rfl (nb01 (in_w 0 1 (in_c 1 rfl) rfl)) (hp18 _ _ ?_)
        show GG _ _ _ _ _ _ _ _ [.int (Int32.ofInt 1)] _ _ _
        refine g_if_eq 24 28 (gd rfl) rfl rfl (fun c21 => ?_) (fun c21 => ?_)
        · skip
          exact zn_eq c21 (in_c 1 rfl) rfl
        · skip
          refine g_iconst 0 25 (gd rfl) rfl rfl ?_
          refine g_goto 34 (gd rfl) rfl ?_
          exact g_ireturn (gd rfl) rfl rfl (hP _ _ ⟨(sF s 109 0 (Int32.ofInt 1)), hI18x3x18, (fr_sF rfl fr_rf), (Int32.ofInt 0), rfl, rfl, in_w (-2147483648) 2147483647 (in_c 0 rfl) rfl⟩)
  · skip
    have i2 := z_ge 0 2147483647 c2 (i_rng x1) rfl
    refine g_iload_n 6 (gd rfl) rfl rfl ?_
    refine g_aload_n 7 (gd rfl) rfl rfl ?_
    refine g_getI 10 (gd rfl) rfl rfl rfl (fun z7 e7 => ?_)
    have q7 : u_109_26 = z7 := (e_109_26).trans e7.symm
    subst q7
    refine g_cmp_ge 13 17 (gd rfl) rfl rfl (fun c10 => ?_) (fun c10 => ?_)
    · skip
      refine g_iconst 0 18 (gd rfl) rfl rfl ?_
      refine g_callv (X := _) (As := [.int (Int32.ofInt 0)]) (r := []) (b := A 109) (q := 109) 21 (gd rfl) rfl rfl rfl rfl rfl (ww_o rfl) (Nat.le_of_ble_eq_true rfl) (mc := 0) (ms := 0) (Nat.zero_le _) (Nat.zero_le _) (P := fun v u => _) ?_ (fun e u h => h) (fun v u h => h)
      intro po18 xx18 hp18 hx18
      refine g_enter2 (k := 271) (N := 300) (by first | exact dq1 hd rfl | exact dq0 hd rfl | exact dq2 hd rfl | exact dq3 hd rfl | omega) rfl (Nat.le_of_ble_eq_true rfl) ?_
      refine g_aload_n 1 (gd rfl) rfl rfl ?_
      refine g_iload_n 2 (gd rfl) rfl rfl ?_
      refine g_iconst 1 3 (gd rfl) rfl rfl ?_
      refine g_callv (X := _) (As := [.int (Int32.ofInt 0), .int (Int32.ofInt 1)]) (r := []) (b := A 109) (q := 109) 6 (gd rfl) rfl rfl rfl rfl rfl (ww_o rfl) (Nat.le_of_ble_eq_true rfl) (mc := 0) (ms := 0) (Nat.zero_le _) (Nat.zero_le _) (P := fun v u => _) ?_ (fun e u h => h) (fun v u h => h)
      intro po18x3 xx18x3 hp18x3 hx18x3
      refine g_enter2 (k := 270) (N := 300) (by first | exact dq1 hd rfl | exact dq0 hd rfl | exact dq2 hd rfl | exact dq3 hd rfl | omega) rfl (Nat.le_of_ble_eq_true rfl) ?_
      refine g_aload_n 1 (gd rfl) rfl rfl ?_
      refine g_iload_n 2 (gd rfl) rfl rfl ?_
      refine g_if_ne 5 9 (gd rfl) rfl rfl (fun c18x3x2 => ?_) (fun c18x3x2 => ?_)
      · skip
        exact zn_ne c18x3x2 (in_c 0 rfl) rfl
      · skip
        refine g_iconst 1 6 (gd rfl) rfl rfl ?_
        refine g_goto 18 (gd rfl) rfl ?_
        refine g_putI 21 (gd rfl) rfl rfl rfl rfl ?_
        have hI18x3x18 := inv_sF (q := 109) (j := 0) hI rfl (in_w 0 2 (in_c 1 rfl) rfl)
        refine g_aload_n 22 (gd rfl) rfl rfl ?_
        refine g_getI 25 (gd rfl) rfl rfl rfl (fun z18x3x22 e18x3x22 => ?_)
        have q18x3x22 : (Int32.ofInt 1) = z18x3x22 := (sF_get).trans e18x3x22.symm
        subst q18x3x22
        refine g_if_le 28 32 (gd rfl) rfl rfl (fun c18x3x25 => ?_) (fun c18x3x25 => ?_)
        · skip
          exact zn_le c18x3x25 (in_c 1 rfl) rfl
        · skip
          refine g_iconst 1 29 (gd rfl) rfl rfl ?_
          refine g_goto 33 (gd rfl) rfl ?_
          refine g_ireturn (gd rfl) rfl (nb01 (in_w 0 1 (in_c 1 rfl) rfl)) (hp18x3 _ _ ?_)
          show GG _ _ _ _ _ _ _ _ [.int (Int32.ofInt 1)] _ _ _
          refine g_ireturn (gd rfl) rfl (nb01 (in_w 0 1 (in_c 1 rfl) rfl)) (hp18 _ _ ?_)
          show GG _ _ _ _ _ _ _ _ [.int (Int32.ofInt 1)] _ _ _
          refine g_if_eq 24 28 (gd rfl) rfl rfl (fun c21 => ?_) (fun c21 => ?_)
          · skip
            exact zn_eq c21 (in_c 1 rfl) rfl
          · skip
            refine g_iconst 0 25 (gd rfl) rfl rfl ?_
            refine g_goto 34 (gd rfl) rfl ?_
            exact g_ireturn (gd rfl) rfl rfl (hP _ _ ⟨(sF s 109 0 (Int32.ofInt 1)), hI18x3x18, (fr_sF rfl fr_rf), (Int32.ofInt 0), rfl, rfl, in_w (-2147483648) 2147483647 (in_c 0 rfl) rfl⟩)
    · skip
      have i10 := r_lt1 0 7999 c10 i2 ro_109_26 rfl
      have i10a := r_lt2 1 8000 c10 i2 ro_109_26 rfl
      refine g_iconst 1 14 (gd rfl) rfl rfl ?_
      refine g_goto 18 (gd rfl) rfl ?_
      refine g_callv (X := _) (As := [.int (Int32.ofInt 1)]) (r := []) (b := A 109) (q := 109) 21 (gd rfl) rfl rfl rfl rfl rfl (ww_o rfl) (Nat.le_of_ble_eq_true rfl) (mc := 0) (ms := 0) (Nat.zero_le _) (Nat.zero_le _) (P := fun v u => _) ?_ (fun e u h => h) (fun v u h => h)
      intro po18 xx18 hp18 hx18
      refine g_enter2 (k := 271) (N := 300) (by first | exact dq1 hd rfl | exact dq0 hd rfl | exact dq2 hd rfl | exact dq3 hd rfl | omega) rfl (Nat.le_of_ble_eq_true rfl) ?_
      refine g_aload_n 1 (gd rfl) rfl rfl ?_
      refine g_iload_n 2 (gd rfl) rfl rfl ?_
      refine g_iconst 1 3 (gd rfl) rfl rfl ?_
      refine g_callv (X := _) (As := [.int (Int32.ofInt 1), .int (Int32.ofInt 1)]) (r := []) (b := A 109) (q := 109) 6 (gd rfl) rfl rfl rfl rfl rfl (ww_o rfl) (Nat.le_of_ble_eq_true rfl) (mc := 0) (ms := 0) (Nat.zero_le _) (Nat.zero_le _) (P := fun v u => _) ?_ (fun e u h => h) (fun v u h => h)
      intro po18x3 xx18x3 hp18x3 hx18x3
      refine g_enter2 (k := 270) (N := 300) (by first | exact dq1 hd rfl | exact dq0 hd rfl | exact dq2 hd rfl | exact dq3 hd rfl | omega) rfl (Nat.le_of_ble_eq_true rfl) ?_
      refine g_aload_n 1 (gd rfl) rfl rfl ?_
      refine g_iload_n 2 (gd rfl) rfl rfl ?_
      refine g_if_ne 5 9 (gd rfl) rfl rfl (fun c18x3x2 => ?_) (fun c18x3x2 => ?_)
      · skip
        refine g_iload_n 10 (gd rfl) rfl rfl ?_
        refine g_if_ne 13 17 (gd rfl) rfl rfl (fun c18x3x10 => ?_) (fun c18x3x10 => ?_)
        · skip
          refine g_iconst 0 18 (gd rfl) rfl rfl ?_
          refine g_putI 21 (gd rfl) rfl rfl rfl rfl ?_
          have hI18x3x18 := inv_sF (q := 109) (j := 0) hI rfl (in_w 0 2 (in_c 0 rfl) rfl)
          refine g_aload_n 22 (gd rfl) rfl rfl ?_
          refine g_getI 25 (gd rfl) rfl rfl rfl (fun z18x3x22 e18x3x22 => ?_)
          have q18x3x22 : (Int32.ofInt 0) = z18x3x22 := (sF_get).trans e18x3x22.symm
          subst q18x3x22
          refine g_if_le 28 32 (gd rfl) rfl rfl (fun c18x3x25 => ?_) (fun c18x3x25 => ?_)
          · skip
            refine g_iconst 0 33 (gd rfl) rfl rfl ?_
            refine g_ireturn (gd rfl) rfl (nb01 (in_w 0 1 (in_c 0 rfl) rfl)) (hp18x3 _ _ ?_)
            show GG _ _ _ _ _ _ _ _ [.int (Int32.ofInt 0)] _ _ _
            refine g_ireturn (gd rfl) rfl (nb01 (in_w 0 1 (in_c 0 rfl) rfl)) (hp18 _ _ ?_)
            show GG _ _ _ _ _ _ _ _ [.int (Int32.ofInt 0)] _ _ _
            refine g_if_eq 24 28 (gd rfl) rfl rfl (fun c21 => ?_) (fun c21 => ?_)
            · skip
              refine g_aload_n 29 (gd rfl) rfl rfl ?_
              refine g_getA (q2 := 126) 32 (gd rfl) rfl rfl rfl rfl ?_
              refine g_iload_n 33 (gd rfl) rfl rfl ?_
              refine g_iaload 34 (gd rfl) rfl (n := 8000) rfl (in_ix i10 rfl) (fun z33 e33 => ?_)
              exact g_ireturn (gd rfl) rfl rfl (hP _ _ ⟨(sF s 109 0 (Int32.ofInt 0)), hI18x3x18, (fr_sF rfl fr_rf), z33, rfl, rfl, in_w (-2147483648) 2147483647 (i_rng z33) rfl⟩)
            · skip
              exact zn_ne c21 (in_c 0 rfl) rfl
          · skip
            exact zn_gt c18x3x25 (in_c 0 rfl) rfl
        · skip
          exact zn_eq c18x3x10 (in_c 1 rfl) rfl
      · skip
        exact zn_eq c18x3x2 (in_c 1 rfl) rfl

def fm_310 : FM := ([129], [], [], [])
/-- GraphHouseModel.close -/
theorem k_310 {Z : AmZ} {A : Nat → Nat} {s : GS} {ex : va_W} {d : Nat} {X : AmX} {x1 : Int32} {x2 : Int32} {x3 : Int32} (hd : 1 ≤ d) (hI : Inv s) (h1 : In x1 0 1) (h2 : In x2 (-1) 159) (h3 : In x3 (-1) 31) : GC Z d 310 [.ref (A 109), .int x1, .int x2, .int x3] (WW Z A s ++ ex) 0 0 (fun v u => ∃ t : GS, Inv t ∧ Fr fm_310 s t ∧ v = none ∧ u = WW Z A t ++ ex ∧ (∀ j : Nat, ((j : Int) < (t.2.2.1 109 20).toInt ∧ (j : Int) ≠ (x3).toInt) → bt (t.1 129 j) j = true) ∧ ((x1).toInt = 0 → (x2).toInt = -1 → (x3).toInt = -1 → RCH t (t.1 129))) X := by
  intro post xp hP hX
  obtain ⟨u_109_19, e_109_19⟩ : ∃ w, w = s.2.2.1 109 19 := ⟨_, rfl⟩
  have ro_109_19 := inv_F hI 0 160 rfl e_109_19
  obtain ⟨u_109_20, e_109_20⟩ : ∃ w, w = s.2.2.1 109 20 := ⟨_, rfl⟩
  have ro_109_20 := inv_F hI 0 32 rfl e_109_20
  have ct156 : ∀ (k156 : Nat) (sc156 : GS) (y156_4 : Int32), Inv sc156 → Fr fm_310 s sc156 → (In y156_4 0 32) → (∀ j : Nat, ((j : Int) < (u_109_20).toInt ∧ (j : Int) ≠ (x3).toInt) → bt (sc156.1 129 j) j = true) → ((x1).toInt = 0 → (x2).toInt = -1 → (x3).toInt = -1 → RQ2 s (sc156.1 129) (y156_4).toNatClampNeg) → 32 - (y156_4).toInt < (k156 : Int) → GG Z (d - 1) 310 post (gx xp) (1 + k156 * 32401) 156 (fun j => xlook j [(0, .ref (A 109)), (1, .int x1), (2, .int x2), (3, .int x3), (4, .int y156_4)]) [] (WW Z A sc156 ++ ex) 0 0 := by
    intro k156
    induction k156 with
    | zero => intro sc156 y156_4 hIc156 hFc156 j156_4 g156_0 g156_1 mm156; exact m_no mm156 j156_4 rfl
    | succ k156 ih156 =>
      intro sc156 y156_4 hIc156 hFc156 j156_4 g156_0 g156_1 mm156
      refine gg_w (M := 1 + k156 * 32401 + 32401) gws ?_
      have ct168 : ∀ (k168 : Nat) (sc168 : GS) (y168_5 : Int32), Inv sc168 → Fr fm_310 s sc168 → (In y156_4 0 31) → (In y168_5 0 32) → ((y156_4).toInt < (u_109_20).toInt) → (∀ j : Nat, ((j : Int) < (u_109_20).toInt ∧ (j : Int) ≠ (x3).toInt) → bt (sc168.1 129 j) j = true) → (RQ3 (nmx s) (sc156.1 129) (sc168.1 129) (y156_4).toNatClampNeg (y168_5).toInt) → 32 - (y168_5).toInt < (k168 : Int) → GG Z (d - 1) 310 post (gx xp) (1 + k156 * 32401 + 1 + k168 * 900) 168 (fun j => xlook j [(0, .ref (A 109)), (1, .int x1), (2, .int x2), (3, .int x3), (4, .int y156_4), (5, .int y168_5)]) [] (WW Z A sc168 ++ ex) 0 0 := by
        intro k168
        induction k168 with
        | zero => intro sc168 y168_5 hIc168 hFc168 j168_4 j168_5 n168_0 g168_0 g168_1 mm168; exact m_no mm168 j168_5 rfl
        | succ k168 ih168 =>
          intro sc168 y168_5 hIc168 hFc168 j168_4 j168_5 n168_0 g168_0 g168_1 mm168
          refine gg_w (M := 1 + k156 * 32401 + 1 + k168 * 900 + 900) gws ?_
          refine g_iload 170 (gd rfl) rfl rfl ?_
          refine g_aload_n 171 (gd rfl) rfl rfl ?_
          refine g_getI 174 (gd rfl) rfl rfl rfl (fun z171 e171 => ?_)
          have q171 : u_109_20 = z171 := (fr_F e_109_20 hFc168 rfl).trans e171.symm
          subst q171
          refine g_cmp_ge 177 220 (gd rfl) rfl rfl (fun c174 => ?_) (fun c174 => ?_)
          · skip
            refine g_iinc 223 (gd rfl) rfl rfl (Nat.le_of_ble_eq_true rfl) (fun z220 e220 => ?_)
            have i220 := in_add 1 32 e220 j168_4 (in_c 1 rfl) rfl rfl
            refine g_goto 156 (gd rfl) rfl ?_
            have n156 : ∀ j : Nat, ((j : Int) < (u_109_20).toInt ∧ (j : Int) ≠ (x3).toInt) → bt (sc168.1 129 j) j = true := by first | exact g42_0 | exact g168_0
            have n156a : (x1).toInt = 0 → (x2).toInt = -1 → (x3).toInt = -1 → RQ2 s (sc168.1 129) (z220).toNatClampNeg := by exact fun qa qb qc => (by rw [show (z220).toNatClampNeg = y156_4.toNatClampNeg + 1 from (by show z220.toInt.toNat = y156_4.toInt.toNat + 1; (first | have a0 := oa8 j168_4 h3 h2 h1 ro_109_20 ro_109_19 j168_5 i220 | ((first | have a0 := in_u j168_4 | (have a0 := j168_4; unfold In at a0)); (first | have a1 := in_u h3 | (have a1 := h3; unfold In at a1)); (first | have a2 := in_u h2 | (have a2 := h2; unfold In at a2)); (first | have a3 := in_u h1 | (have a3 := h1; unfold In at a3)); (first | have a4 := in_u ro_109_20 | (have a4 := ro_109_20; unfold In at a4)); (first | have a5 := in_u ro_109_19 | (have a5 := ro_109_19; unfold In at a5)); (first | have a6 := in_u j168_5 | (have a6 := j168_5; unfold In at a6)); (first | have a7 := in_u i220 | (have a7 := i220; unfold In at a7)))); have a8 := t_add e220 j168_4 (in_c 1 rfl) rfl; (first | have a9 := in_u ((in_c 1 rfl)) | (have a9 := (in_c 1 rfl); unfold In at a9)); (first | exact zt_s (by omega) (by omega) | omega))]; exact rq2_s hI (g156_1 qa qb qc) g168_1 (by unfold nmx; rw [← e_109_20]; (first | have a0 := oa8 j168_4 h3 h2 h1 ro_109_20 ro_109_19 j168_5 i220 | ((first | have a0 := in_u j168_4 | (have a0 := j168_4; unfold In at a0)); (first | have a1 := in_u h3 | (have a1 := h3; unfold In at a1)); (first | have a2 := in_u h2 | (have a2 := h2; unfold In at a2)); (first | have a3 := in_u h1 | (have a3 := h1; unfold In at a3)); (first | have a4 := in_u ro_109_20 | (have a4 := ro_109_20; unfold In at a4)); (first | have a5 := in_u ro_109_19 | (have a5 := ro_109_19; unfold In at a5)); (first | have a6 := in_u j168_5 | (have a6 := j168_5; unfold In at a6)); (first | have a7 := in_u i220 | (have a7 := i220; unfold In at a7)))); have a8 := t_add e220 j168_4 (in_c 1 rfl) rfl; (first | have a9 := in_u ((in_c 1 rfl)) | (have a9 := (in_c 1 rfl); unfold In at a9)); omega) (by unfold nmx; rw [← e_109_20]; show ((y156_4.toInt.toNat : Nat) : Int) < _; (first | have a0 := oa8 j168_4 h3 h2 h1 ro_109_20 ro_109_19 j168_5 i220 | ((first | have a0 := in_u j168_4 | (have a0 := j168_4; unfold In at a0)); (first | have a1 := in_u h3 | (have a1 := h3; unfold In at a1)); (first | have a2 := in_u h2 | (have a2 := h2; unfold In at a2)); (first | have a3 := in_u h1 | (have a3 := h1; unfold In at a3)); (first | have a4 := in_u ro_109_20 | (have a4 := ro_109_20; unfold In at a4)); (first | have a5 := in_u ro_109_19 | (have a5 := ro_109_19; unfold In at a5)); (first | have a6 := in_u j168_5 | (have a6 := j168_5; unfold In at a6)); (first | have a7 := in_u i220 | (have a7 := i220; unfold In at a7)))); have a8 := t_add e220 j168_4 (in_c 1 rfl) rfl; (first | have a9 := in_u ((in_c 1 rfl)) | (have a9 := (in_c 1 rfl); unfold In at a9)); omega))
            exact gg_w (by first | exact Nat.le_add_right _ _ | exact gw2 | exact gw3 | exact gwe rfl | exact gwf rfl | exact gwg rfl | exact gwh rfl | omega) (gg_f (gf_cons rfl (gf_cons rfl (gf_cons rfl (gf_cons rfl (gf_cons rfl gf_nil))))) (ih156 sc168 z220 hIc168 hFc168 (in_w 0 32 i220 rfl) n156 n156a (m_up mm156 (t_add e220 j168_4 (in_c 1 rfl) rfl) (in_w 1 1 (in_c 1 rfl) rfl))))
          · skip
            have i174 := r_lt1 0 31 c174 j168_5 ro_109_20 rfl
            have i174a := r_lt2 1 32 c174 j168_5 ro_109_20 rfl
            refine g_aload_n 178 (gd rfl) rfl rfl ?_
            refine g_getA (q2 := 129) 181 (gd rfl) rfl rfl rfl rfl ?_
            refine g_iload 183 (gd rfl) rfl rfl ?_
            refine g_dup2 184 (gd rfl) rfl rfl rfl ?_
            refine g_iaload 185 (gd rfl) rfl (n := 32) rfl (in_ix i174 rfl) (fun z184 e184 => ?_)
            refine g_aload_n 186 (gd rfl) rfl rfl ?_
            refine g_getA (q2 := 129) 189 (gd rfl) rfl rfl rfl rfl ?_
            refine g_iload 191 (gd rfl) rfl rfl ?_
            refine g_iaload 192 (gd rfl) rfl (n := 32) rfl (in_ix i174 rfl) (fun z191 e191 => ?_)
            have q191 : z184 = z191 := (e184).trans e191.symm
            subst q191
            refine g_iload 194 (gd rfl) rfl rfl ?_
            refine g_ishr 195 (gd rfl) rfl (fun z194 e194 => ?_)
            refine g_iconst 1 196 (gd rfl) rfl rfl ?_
            refine g_iand 197 (gd rfl) rfl (fun z196 e196 => ?_)
            have i196 := in_and2 e196 (in_c 1 rfl) rfl
            refine g_iconst 1 198 (gd rfl) rfl rfl ?_
            refine g_cmp_ne 201 211 (gd rfl) rfl rfl (fun c198 => ?_) (fun c198 => ?_)
            · skip
              have i198 := r_ne1 0 0 c198 i196 (in_c 1 rfl) rfl
              refine g_iconst 0 212 (gd rfl) rfl rfl ?_
              refine g_ior 213 (gd rfl) rfl (fun z212 e212 => ?_)
              refine g_iastore 214 (gd rfl) rfl (n := 32) rfl (in_ix i174 rfl) ?_
              have hI213 := inv_sI (q := 129) (j := y168_5.toNatClampNeg) hIc168 rfl (in_w (-2147483648) 2147483647 (i_rng z212) rfl)
              refine g_iinc 217 (gd rfl) rfl rfl (Nat.le_of_ble_eq_true rfl) (fun z214 e214 => ?_)
              have i214 := in_add 1 32 e214 i174 (in_c 1 rfl) rfl rfl
              refine g_goto 168 (gd rfl) rfl ?_
              have n168 : (y156_4).toInt < (u_109_20).toInt := by first | exact n168_0 | ((first | have a0 := oa8 j168_4 h3 h2 h1 i174a ro_109_19 i174 i214 | ((first | have a0 := in_u j168_4 | (have a0 := j168_4; unfold In at a0)); (first | have a1 := in_u h3 | (have a1 := h3; unfold In at a1)); (first | have a2 := in_u h2 | (have a2 := h2; unfold In at a2)); (first | have a3 := in_u h1 | (have a3 := h1; unfold In at a3)); (first | have a4 := in_u i174a | (have a4 := i174a; unfold In at a4)); (first | have a5 := in_u ro_109_19 | (have a5 := ro_109_19; unfold In at a5)); (first | have a6 := in_u i174 | (have a6 := i174; unfold In at a6)); (first | have a7 := in_u i214 | (have a7 := i214; unfold In at a7)))); have a8 := t_add e214 i174 (in_c 1 rfl) rfl; (first | have a9 := in_u ((in_c 1 rfl)) | (have a9 := (in_c 1 rfl); unfold In at a9)); omega)
              have n168a : ∀ j : Nat, ((j : Int) < (u_109_20).toInt ∧ (j : Int) ≠ (x3).toInt) → bt ((sI sc168 129 y168_5.toNatClampNeg z212).1 129 j) j = true := by first | exact g156_0 | (rw [sI_q]; exact bo_up g168_0 e184 e212)
              have n168b : RQ3 (nmx s) (sc156.1 129) ((sI sc168 129 y168_5.toNatClampNeg z212).1 129) (y156_4).toNatClampNeg (z214).toInt := by rw [show (z214).toInt = y168_5.toInt + 1 from (by (first | have a0 := oa8 j168_4 h3 h2 h1 i174a ro_109_19 i174 i214 | ((first | have a0 := in_u j168_4 | (have a0 := j168_4; unfold In at a0)); (first | have a1 := in_u h3 | (have a1 := h3; unfold In at a1)); (first | have a2 := in_u h2 | (have a2 := h2; unfold In at a2)); (first | have a3 := in_u h1 | (have a3 := h1; unfold In at a3)); (first | have a4 := in_u i174a | (have a4 := i174a; unfold In at a4)); (first | have a5 := in_u ro_109_19 | (have a5 := ro_109_19; unfold In at a5)); (first | have a6 := in_u i174 | (have a6 := i174; unfold In at a6)); (first | have a7 := in_u i214 | (have a7 := i214; unfold In at a7)))); have a8 := t_add e214 i174 (in_c 1 rfl) rfl; (first | have a9 := in_u ((in_c 1 rfl)) | (have a9 := (in_c 1 rfl); unfold In at a9)); omega), sI_q]; exact rq3_s g168_1 rfl (by (first | have a0 := oa8 j168_4 h3 h2 h1 i174a ro_109_19 i174 i214 | ((first | have a0 := in_u j168_4 | (have a0 := j168_4; unfold In at a0)); (first | have a1 := in_u h3 | (have a1 := h3; unfold In at a1)); (first | have a2 := in_u h2 | (have a2 := h2; unfold In at a2)); (first | have a3 := in_u h1 | (have a3 := h1; unfold In at a3)); (first | have a4 := in_u i174a | (have a4 := i174a; unfold In at a4)); (first | have a5 := in_u ro_109_19 | (have a5 := ro_109_19; unfold In at a5)); (first | have a6 := in_u i174 | (have a6 := i174; unfold In at a6)); (first | have a7 := in_u i214 | (have a7 := i214; unfold In at a7)))); have a8 := t_add e214 i174 (in_c 1 rfl) rfl; (first | have a9 := in_u ((in_c 1 rfl)) | (have a9 := (in_c 1 rfl); unfold In at a9)); omega) (by unfold nmx; rw [← e_109_20]; (first | have a0 := oa8 j168_4 h3 h2 h1 i174a ro_109_19 i174 i214 | ((first | have a0 := in_u j168_4 | (have a0 := j168_4; unfold In at a0)); (first | have a1 := in_u h3 | (have a1 := h3; unfold In at a1)); (first | have a2 := in_u h2 | (have a2 := h2; unfold In at a2)); (first | have a3 := in_u h1 | (have a3 := h1; unfold In at a3)); (first | have a4 := in_u i174a | (have a4 := i174a; unfold In at a4)); (first | have a5 := in_u ro_109_19 | (have a5 := ro_109_19; unfold In at a5)); (first | have a6 := in_u i174 | (have a6 := i174; unfold In at a6)); (first | have a7 := in_u i214 | (have a7 := i214; unfold In at a7)))); have a8 := t_add e214 i174 (in_c 1 rfl) rfl; (first | have a9 := in_u ((in_c 1 rfl)) | (have a9 := (in_c 1 rfl); unfold In at a9)); omega) (by unfold nmx; rw [← e_109_20]; show ((y156_4.toInt.toNat : Nat) : Int) < _; (first | have a0 := oa8 j168_4 h3 h2 h1 i174a ro_109_19 i174 i214 | ((first | have a0 := in_u j168_4 | (have a0 := j168_4; unfold In at a0)); (first | have a1 := in_u h3 | (have a1 := h3; unfold In at a1)); (first | have a2 := in_u h2 | (have a2 := h2; unfold In at a2)); (first | have a3 := in_u h1 | (have a3 := h1; unfold In at a3)); (first | have a4 := in_u i174a | (have a4 := i174a; unfold In at a4)); (first | have a5 := in_u ro_109_19 | (have a5 := ro_109_19; unfold In at a5)); (first | have a6 := in_u i174 | (have a6 := i174; unfold In at a6)); (first | have a7 := in_u i214 | (have a7 := i214; unfold In at a7)))); have a8 := t_add e214 i174 (in_c 1 rfl) rfl; (first | have a9 := in_u ((in_c 1 rfl)) | (have a9 := (in_c 1 rfl); unfold In at a9)); omega) (fun w => by rw [bt_or e212, show (Int32.ofInt 0) = (0 : Int32) from rfl, bt_z, Bool.or_false, e184]; exact ⟨Or.inl, fun h => by rcases h with h | h; (exact h); (exfalso; have hb := bt_no e194 e196 j168_4 c198; rw [e184, h.1] at hb; cases hb)⟩)
              exact gg_w (by first | exact Nat.le_add_right _ _ | exact gw2 | exact gw3 | exact gwe rfl | exact gwf rfl | exact gwg rfl | exact gwh rfl | omega) (gg_f (gf_cons rfl (gf_cons rfl (gf_cons rfl (gf_cons rfl (gf_cons rfl (gf_cons rfl gf_nil)))))) (ih168 (sI sc168 129 y168_5.toNatClampNeg z212) z214 hI213 (fr_sI rfl hFc168) (in_w 0 31 j168_4 rfl) (in_w 0 32 i214 rfl) n168 n168a n168b (m_up mm168 (t_add e214 i174 (in_c 1 rfl) rfl) (in_w 1 1 (in_c 1 rfl) rfl))))
            · skip
              have i198 := r_eq1 1 1 c198 i196 (in_c 1 rfl) rfl
              refine g_aload_n 202 (gd rfl) rfl rfl ?_
              refine g_getA (q2 := 129) 205 (gd rfl) rfl rfl rfl rfl ?_
              refine g_iload 207 (gd rfl) rfl rfl ?_
              refine g_iaload 208 (gd rfl) rfl (n := 32) rfl (in_ix j168_4 rfl) (fun z207 e207 => ?_)
              refine g_goto 212 (gd rfl) rfl ?_
              refine g_ior 213 (gd rfl) rfl (fun z212 e212 => ?_)
              refine g_iastore 214 (gd rfl) rfl (n := 32) rfl (in_ix i174 rfl) ?_
              have hI213 := inv_sI (q := 129) (j := y168_5.toNatClampNeg) hIc168 rfl (in_w (-2147483648) 2147483647 (i_rng z212) rfl)
              refine g_iinc 217 (gd rfl) rfl rfl (Nat.le_of_ble_eq_true rfl) (fun z214 e214 => ?_)
              have i214 := in_add 1 32 e214 i174 (in_c 1 rfl) rfl rfl
              refine g_goto 168 (gd rfl) rfl ?_
              have n168 : (y156_4).toInt < (u_109_20).toInt := by first | exact n168_0 | ((first | have a0 := oa8 j168_4 h3 h2 h1 i174a ro_109_19 i174 i214 | ((first | have a0 := in_u j168_4 | (have a0 := j168_4; unfold In at a0)); (first | have a1 := in_u h3 | (have a1 := h3; unfold In at a1)); (first | have a2 := in_u h2 | (have a2 := h2; unfold In at a2)); (first | have a3 := in_u h1 | (have a3 := h1; unfold In at a3)); (first | have a4 := in_u i174a | (have a4 := i174a; unfold In at a4)); (first | have a5 := in_u ro_109_19 | (have a5 := ro_109_19; unfold In at a5)); (first | have a6 := in_u i174 | (have a6 := i174; unfold In at a6)); (first | have a7 := in_u i214 | (have a7 := i214; unfold In at a7)))); have a8 := t_add e214 i174 (in_c 1 rfl) rfl; (first | have a9 := in_u ((in_c 1 rfl)) | (have a9 := (in_c 1 rfl); unfold In at a9)); omega)
              have n168a : ∀ j : Nat, ((j : Int) < (u_109_20).toInt ∧ (j : Int) ≠ (x3).toInt) → bt ((sI sc168 129 y168_5.toNatClampNeg z212).1 129 j) j = true := by first | exact g156_0 | (rw [sI_q]; exact bo_up g168_0 e184 e212)
              have n168b : RQ3 (nmx s) (sc156.1 129) ((sI sc168 129 y168_5.toNatClampNeg z212).1 129) (y156_4).toNatClampNeg (z214).toInt := by rw [show (z214).toInt = y168_5.toInt + 1 from (by (first | have a0 := oa8 j168_4 h3 h2 h1 i174a ro_109_19 i174 i214 | ((first | have a0 := in_u j168_4 | (have a0 := j168_4; unfold In at a0)); (first | have a1 := in_u h3 | (have a1 := h3; unfold In at a1)); (first | have a2 := in_u h2 | (have a2 := h2; unfold In at a2)); (first | have a3 := in_u h1 | (have a3 := h1; unfold In at a3)); (first | have a4 := in_u i174a | (have a4 := i174a; unfold In at a4)); (first | have a5 := in_u ro_109_19 | (have a5 := ro_109_19; unfold In at a5)); (first | have a6 := in_u i174 | (have a6 := i174; unfold In at a6)); (first | have a7 := in_u i214 | (have a7 := i214; unfold In at a7)))); have a8 := t_add e214 i174 (in_c 1 rfl) rfl; (first | have a9 := in_u ((in_c 1 rfl)) | (have a9 := (in_c 1 rfl); unfold In at a9)); omega), sI_q]; exact rq3_s g168_1 rfl (by (first | have a0 := oa8 j168_4 h3 h2 h1 i174a ro_109_19 i174 i214 | ((first | have a0 := in_u j168_4 | (have a0 := j168_4; unfold In at a0)); (first | have a1 := in_u h3 | (have a1 := h3; unfold In at a1)); (first | have a2 := in_u h2 | (have a2 := h2; unfold In at a2)); (first | have a3 := in_u h1 | (have a3 := h1; unfold In at a3)); (first | have a4 := in_u i174a | (have a4 := i174a; unfold In at a4)); (first | have a5 := in_u ro_109_19 | (have a5 := ro_109_19; unfold In at a5)); (first | have a6 := in_u i174 | (have a6 := i174; unfold In at a6)); (first | have a7 := in_u i214 | (have a7 := i214; unfold In at a7)))); have a8 := t_add e214 i174 (in_c 1 rfl) rfl; (first | have a9 := in_u ((in_c 1 rfl)) | (have a9 := (in_c 1 rfl); unfold In at a9)); omega) (by unfold nmx; rw [← e_109_20]; (first | have a0 := oa8 j168_4 h3 h2 h1 i174a ro_109_19 i174 i214 | ((first | have a0 := in_u j168_4 | (have a0 := j168_4; unfold In at a0)); (first | have a1 := in_u h3 | (have a1 := h3; unfold In at a1)); (first | have a2 := in_u h2 | (have a2 := h2; unfold In at a2)); (first | have a3 := in_u h1 | (have a3 := h1; unfold In at a3)); (first | have a4 := in_u i174a | (have a4 := i174a; unfold In at a4)); (first | have a5 := in_u ro_109_19 | (have a5 := ro_109_19; unfold In at a5)); (first | have a6 := in_u i174 | (have a6 := i174; unfold In at a6)); (first | have a7 := in_u i214 | (have a7 := i214; unfold In at a7)))); have a8 := t_add e214 i174 (in_c 1 rfl) rfl; (first | have a9 := in_u ((in_c 1 rfl)) | (have a9 := (in_c 1 rfl); unfold In at a9)); omega) (by unfold nmx; rw [← e_109_20]; show ((y156_4.toInt.toNat : Nat) : Int) < _; (first | have a0 := oa8 j168_4 h3 h2 h1 i174a ro_109_19 i174 i214 | ((first | have a0 := in_u j168_4 | (have a0 := j168_4; unfold In at a0)); (first | have a1 := in_u h3 | (have a1 := h3; unfold In at a1)); (first | have a2 := in_u h2 | (have a2 := h2; unfold In at a2)); (first | have a3 := in_u h1 | (have a3 := h1; unfold In at a3)); (first | have a4 := in_u i174a | (have a4 := i174a; unfold In at a4)); (first | have a5 := in_u ro_109_19 | (have a5 := ro_109_19; unfold In at a5)); (first | have a6 := in_u i174 | (have a6 := i174; unfold In at a6)); (first | have a7 := in_u i214 | (have a7 := i214; unfold In at a7)))); have a8 := t_add e214 i174 (in_c 1 rfl) rfl; (first | have a9 := in_u ((in_c 1 rfl)) | (have a9 := (in_c 1 rfl); unfold In at a9)); omega) (fun w => by have hb := bt_yes e194 e196 j168_4 c198; rw [e184] at hb; rw [bt_or e212, e184, e207]; exact ⟨fun h => by rcases (Bool.or_eq_true _ _).mp h with h | h; (exact Or.inl h); (exact Or.inr ⟨hb, h⟩), fun h => by rcases h with h | h; (rw [h, Bool.true_or]); (rw [h.2, Bool.or_true])⟩)
              exact gg_w (by first | exact Nat.le_add_right _ _ | exact gw2 | exact gw3 | exact gwe rfl | exact gwf rfl | exact gwg rfl | exact gwh rfl | omega) (gg_f (gf_cons rfl (gf_cons rfl (gf_cons rfl (gf_cons rfl (gf_cons rfl (gf_cons rfl gf_nil)))))) (ih168 (sI sc168 129 y168_5.toNatClampNeg z212) z214 hI213 (fr_sI rfl hFc168) (in_w 0 31 j168_4 rfl) (in_w 0 32 i214 rfl) n168 n168a n168b (m_up mm168 (t_add e214 i174 (in_c 1 rfl) rfl) (in_w 1 1 (in_c 1 rfl) rfl))))
      refine g_iload 158 (gd rfl) rfl rfl ?_
      refine g_aload_n 159 (gd rfl) rfl rfl ?_
      refine g_getI 162 (gd rfl) rfl rfl rfl (fun z159 e159 => ?_)
      have q159 : u_109_20 = z159 := (fr_F e_109_20 hFc156 rfl).trans e159.symm
      subst q159
      refine g_cmp_ge 165 226 (gd rfl) rfl rfl (fun c162 => ?_) (fun c162 => ?_)
      · skip
        have n226 : ∀ j : Nat, ((j : Int) < (sc156.2.2.1 109 20).toInt ∧ (j : Int) ≠ (x3).toInt) → bt (sc156.1 129 j) j = true := by intro j hj; have hn := (show u_109_20 = sc156.2.2.1 109 20 from fr_F e_109_20 hFc156 rfl); rw [← hn] at hj; exact g156_0 j hj
        have n226a : (x1).toInt = 0 → (x2).toInt = -1 → (x3).toInt = -1 → RCH sc156 (sc156.1 129) := by exact fun qa qb qc => rch_cg (rch_e (g156_1 qa qb qc) (by unfold nmx; rw [← e_109_20]; show _ ≤ ((y156_4.toInt.toNat : Nat) : Int); (first | have a0 := oa6 h3 h2 h1 ro_109_20 ro_109_19 j156_4 | ((first | have a0 := in_u h3 | (have a0 := h3; unfold In at a0)); (first | have a1 := in_u h2 | (have a1 := h2; unfold In at a1)); (first | have a2 := in_u h1 | (have a2 := h1; unfold In at a2)); (first | have a3 := in_u ro_109_20 | (have a3 := ro_109_20; unfold In at a3)); (first | have a4 := in_u ro_109_19 | (have a4 := ro_109_19; unfold In at a4)); (first | have a5 := in_u j156_4 | (have a5 := j156_4; unfold In at a5)))); omega)) (hFc156.1 112 rfl) (hFc156.1 113 rfl) (hFc156.1 114 rfl) (hFc156.2.2.1 109 19 rfl) (hFc156.2.2.1 109 20 rfl)
        exact g_return (gd rfl) rfl (hP _ _ ⟨sc156, hIc156, hFc156, rfl, rfl, n226, n226a⟩)
      · skip
        have i162 := r_lt1 0 31 c162 j156_4 ro_109_20 rfl
        have i162a := r_lt2 1 32 c162 j156_4 ro_109_20 rfl
        refine g_iconst 0 166 (gd rfl) rfl rfl ?_
        refine g_istore 168 (gd rfl) rfl (Nat.le_of_ble_eq_true rfl) ?_
        have n168 : (y156_4).toInt < (u_109_20).toInt := by (first | have a0 := oa7 h3 h2 h1 i162a ro_109_19 i162 ((in_c 0 rfl)) | ((first | have a0 := in_u h3 | (have a0 := h3; unfold In at a0)); (first | have a1 := in_u h2 | (have a1 := h2; unfold In at a1)); (first | have a2 := in_u h1 | (have a2 := h1; unfold In at a2)); (first | have a3 := in_u i162a | (have a3 := i162a; unfold In at a3)); (first | have a4 := in_u ro_109_19 | (have a4 := ro_109_19; unfold In at a4)); (first | have a5 := in_u i162 | (have a5 := i162; unfold In at a5)); (first | have a6 := in_u ((in_c 0 rfl)) | (have a6 := (in_c 0 rfl); unfold In at a6)))); omega
        have n168a : ∀ j : Nat, ((j : Int) < (u_109_20).toInt ∧ (j : Int) ≠ (x3).toInt) → bt (sc156.1 129 j) j = true := by first | exact g156_0 | (rw [sI_q]; exact bo_up g168_0 e184 e212)
        have n168b : RQ3 (nmx s) (sc156.1 129) (sc156.1 129) (y156_4).toNatClampNeg ((Int32.ofInt 0)).toInt := by exact rq3_0
        exact gg_w (by first | exact Nat.le_add_right _ _ | exact gw2 | exact gw3 | exact gwe rfl | exact gwf rfl | exact gwg rfl | exact gwh rfl | omega) (gg_f (gf_cons rfl (gf_cons rfl (gf_cons rfl (gf_cons rfl (gf_cons rfl (gf_cons rfl gf_nil)))))) (ct168 33 sc156 (Int32.ofInt 0) hIc156 hFc156 (in_w 0 31 i162 rfl) (in_w 0 32 (in_c 0 rfl) rfl) n168 n168a n168b (m_in 33 (in_w 0 32 (in_c 0 rfl) rfl) rfl)))
  have ct42 : ∀ (k42 : Nat) (sc42 : GS) (y42_4 : Int32), Inv sc42 → Fr fm_310 s sc42 → (In y42_4 0 160) → (∀ j : Nat, ((j : Int) < (u_109_20).toInt ∧ (j : Int) ≠ (x3).toInt) → bt (sc42.1 129 j) j = true) → ((x1).toInt = 0 → (x2).toInt = -1 → (x3).toInt = -1 → RQ1 s (sc42.1 129) (y42_4).toNatClampNeg) → 160 - (y42_4).toInt < (k42 : Int) → GG Z (d - 1) 310 post (gx xp) (1069235 + k42 * 900) 42 (fun j => xlook j [(0, .ref (A 109)), (1, .int x1), (2, .int x2), (3, .int x3), (4, .int y42_4)]) [] (WW Z A sc42 ++ ex) 0 0 := by
    intro k42
    induction k42 with
    | zero => intro sc42 y42_4 hIc42 hFc42 j42_4 g42_0 g42_1 mm42; exact m_no mm42 j42_4 rfl
    | succ k42 ih42 =>
      intro sc42 y42_4 hIc42 hFc42 j42_4 g42_0 g42_1 mm42
      refine gg_w (M := 1069235 + k42 * 900 + 900) gws ?_
      refine g_iload 44 (gd rfl) rfl rfl ?_
      refine g_sipush 160 47 (gd rfl) rfl rfl ?_
      refine g_cmp_ge 50 153 (gd rfl) rfl rfl (fun c47 => ?_) (fun c47 => ?_)
      · skip
        have i47 := r_le2 160 160 c47 (in_c 160 rfl) j42_4 rfl
        refine g_iconst 0 154 (gd rfl) rfl rfl ?_
        refine g_istore 156 (gd rfl) rfl (Nat.le_of_ble_eq_true rfl) ?_
        have n156 : ∀ j : Nat, ((j : Int) < (u_109_20).toInt ∧ (j : Int) ≠ (x3).toInt) → bt (sc42.1 129 j) j = true := by first | exact g42_0 | exact g168_0
        have n156a : (x1).toInt = 0 → (x2).toInt = -1 → (x3).toInt = -1 → RQ2 s (sc42.1 129) ((Int32.ofInt 0)).toNatClampNeg := by exact fun qa qb qc => ⟨by have h := g42_1 qa qb qc; rw [show y42_4.toNatClampNeg = 160 from (by show y42_4.toInt.toNat = 160; (first | have a0 := oa7 h3 h2 h1 ro_109_20 ro_109_19 i47 ((in_c 0 rfl)) | ((first | have a0 := in_u h3 | (have a0 := h3; unfold In at a0)); (first | have a1 := in_u h2 | (have a1 := h2; unfold In at a1)); (first | have a2 := in_u h1 | (have a2 := h1; unfold In at a2)); (first | have a3 := in_u ro_109_20 | (have a3 := ro_109_20; unfold In at a3)); (first | have a4 := in_u ro_109_19 | (have a4 := ro_109_19; unfold In at a4)); (first | have a5 := in_u i47 | (have a5 := i47; unfold In at a5)); (first | have a6 := in_u ((in_c 0 rfl)) | (have a6 := (in_c 0 rfl); unfold In at a6)))); (first | exact zt_e (by omega) | omega))] at h; exact h, fun v u w hv => absurd hv (Nat.not_lt_zero _)⟩
        exact gg_w (by first | exact Nat.le_add_right _ _ | exact gw2 | exact gw3 | exact gwe rfl | exact gwf rfl | exact gwg rfl | exact gwh rfl | omega) (gg_f (gf_cons rfl (gf_cons rfl (gf_cons rfl (gf_cons rfl (gf_cons rfl gf_nil))))) (ct156 33 sc42 (Int32.ofInt 0) hIc42 hFc42 (in_w 0 32 (in_c 0 rfl) rfl) n156 n156a (m_in 33 (in_w 0 32 (in_c 0 rfl) rfl) rfl)))
      · skip
        have i47 := r_lt1 0 159 c47 j42_4 (in_c 160 rfl) rfl
        refine g_aload_n 51 (gd rfl) rfl rfl ?_
        refine g_getA (q2 := 113) 54 (gd rfl) rfl rfl rfl rfl ?_
        refine g_aload_n 55 (gd rfl) rfl rfl ?_
        refine g_getI 58 (gd rfl) rfl rfl rfl (fun z55 e55 => ?_)
        have q55 : u_109_19 = z55 := (fr_F e_109_19 hFc42 rfl).trans e55.symm
        subst q55
        refine g_iload 60 (gd rfl) rfl rfl ?_
        refine g_iadd 61 (gd rfl) rfl (fun z60 e60 => ?_)
        have i60 := in_add 0 319 e60 ro_109_19 i47 rfl rfl
        refine g_iaload 62 (gd rfl) rfl (n := 480) rfl (in_ix i60 rfl) (fun z61 e61 => ?_)
        have i61 := inv_I hIc42 (n := 480) (t := 0) 0 31 rfl (in_ix i60 rfl) rfl e61
        refine g_istore 64 (gd rfl) rfl (Nat.le_of_ble_eq_true rfl) ?_
        refine g_aload_n 65 (gd rfl) rfl rfl ?_
        refine g_getA (q2 := 114) 68 (gd rfl) rfl rfl rfl rfl ?_
        refine g_aload_n 69 (gd rfl) rfl rfl ?_
        refine g_getI 72 (gd rfl) rfl rfl rfl (fun z69 e69 => ?_)
        have q69 : u_109_19 = z69 := (fr_F e_109_19 hFc42 rfl).trans e69.symm
        subst q69
        refine g_iload 74 (gd rfl) rfl rfl ?_
        refine g_iadd 75 (gd rfl) rfl (fun z74 e74 => ?_)
        have i74 := in_add 0 319 e74 ro_109_19 i47 rfl rfl
        refine g_iaload 76 (gd rfl) rfl (n := 480) rfl (in_ix i74 rfl) (fun z75 e75 => ?_)
        have i75 := inv_I hIc42 (n := 480) (t := 0) 0 31 rfl (in_ix i74 rfl) rfl e75
        refine g_istore 78 (gd rfl) rfl (Nat.le_of_ble_eq_true rfl) ?_
        refine g_aload_n 79 (gd rfl) rfl rfl ?_
        refine g_getA (q2 := 112) 82 (gd rfl) rfl rfl rfl rfl ?_
        refine g_aload_n 83 (gd rfl) rfl rfl ?_
        refine g_getI 86 (gd rfl) rfl rfl rfl (fun z83 e83 => ?_)
        have q83 : u_109_19 = z83 := (fr_F e_109_19 hFc42 rfl).trans e83.symm
        subst q83
        refine g_iload 88 (gd rfl) rfl rfl ?_
        refine g_iadd 89 (gd rfl) rfl (fun z88 e88 => ?_)
        have i88 := in_add 0 319 e88 ro_109_19 i47 rfl rfl
        refine g_baload 90 (gd rfl) rfl (n := 480) rfl (in_ix i88 rfl) (fun z89 e89 => ?_)
        have i89 := inv_I hIc42 (n := 480) (t := 3) 0 1 rfl (in_ix i88 rfl) rfl e89
        refine g_if_eq 93 147 (gd rfl) rfl rfl (fun c90 => ?_) (fun c90 => ?_)
        · skip
          have i90 := z_eq 0 0 c90 i89 rfl
          refine g_iinc 150 (gd rfl) rfl rfl (Nat.le_of_ble_eq_true rfl) (fun z147 e147 => ?_)
          have i147 := in_add 1 160 e147 i47 (in_c 1 rfl) rfl rfl
          refine g_goto 42 (gd rfl) rfl ?_
          have n42 : ∀ j : Nat, ((j : Int) < (u_109_20).toInt ∧ (j : Int) ≠ (x3).toInt) → bt (sc42.1 129 j) j = true := by first | exact g42_0 | (first | exact fun j hj => g3_0 j ⟨by (first | have a0 := oa9 h3 h2 h1 ro_109_20 ro_109_19 i47 i75 i61 i147 | ((first | have a0 := in_u h3 | (have a0 := h3; unfold In at a0)); (first | have a1 := in_u h2 | (have a1 := h2; unfold In at a1)); (first | have a2 := in_u h1 | (have a2 := h1; unfold In at a2)); (first | have a3 := in_u ro_109_20 | (have a3 := ro_109_20; unfold In at a3)); (first | have a4 := in_u ro_109_19 | (have a4 := ro_109_19; unfold In at a4)); (first | have a5 := in_u i47 | (have a5 := i47; unfold In at a5)); (first | have a6 := in_u i75 | (have a6 := i75; unfold In at a6)); (first | have a7 := in_u i61 | (have a7 := i61; unfold In at a7)); (first | have a8 := in_u i147 | (have a8 := i147; unfold In at a8)))); have a9 := t_add e147 i47 (in_c 1 rfl) rfl; (first | have a10 := oa2 ((in_c 1 rfl)) i88 | ((first | have a10 := in_u ((in_c 1 rfl)) | (have a10 := (in_c 1 rfl); unfold In at a10)); (first | have a11 := in_u i88 | (have a11 := i88; unfold In at a11)))); have a12 := t_add e88 ro_109_19 i47 rfl; (first | have a13 := in_u i74 | (have a13 := i74; unfold In at a13)); have a14 := t_add e74 ro_109_19 i47 rfl; (first | have a15 := in_u i60 | (have a15 := i60; unfold In at a15)); have a16 := t_add e60 ro_109_19 i47 rfl; omega, hj.2⟩ | exact g42_0 | (rw [sI_q, sI_q]; rw [sI_q] at e132; exact bo_up (bo_up g42_0 e118 e123) e132 e145))
          have n42a : (x1).toInt = 0 → (x2).toInt = -1 → (x3).toInt = -1 → RQ1 s (sc42.1 129) (z147).toNatClampNeg := by exact fun qa qb qc => (by rw [show (z147).toNatClampNeg = y42_4.toNatClampNeg + 1 from (by show z147.toInt.toNat = y42_4.toInt.toNat + 1; (first | have a0 := oa9 h3 h2 h1 ro_109_20 ro_109_19 i47 i75 i61 i147 | ((first | have a0 := in_u h3 | (have a0 := h3; unfold In at a0)); (first | have a1 := in_u h2 | (have a1 := h2; unfold In at a1)); (first | have a2 := in_u h1 | (have a2 := h1; unfold In at a2)); (first | have a3 := in_u ro_109_20 | (have a3 := ro_109_20; unfold In at a3)); (first | have a4 := in_u ro_109_19 | (have a4 := ro_109_19; unfold In at a4)); (first | have a5 := in_u i47 | (have a5 := i47; unfold In at a5)); (first | have a6 := in_u i75 | (have a6 := i75; unfold In at a6)); (first | have a7 := in_u i61 | (have a7 := i61; unfold In at a7)); (first | have a8 := in_u i147 | (have a8 := i147; unfold In at a8)))); have a9 := t_add e147 i47 (in_c 1 rfl) rfl; (first | have a10 := oa2 ((in_c 1 rfl)) i88 | ((first | have a10 := in_u ((in_c 1 rfl)) | (have a10 := (in_c 1 rfl); unfold In at a10)); (first | have a11 := in_u i88 | (have a11 := i88; unfold In at a11)))); have a12 := t_add e88 ro_109_19 i47 rfl; (first | have a13 := in_u i74 | (have a13 := i74; unfold In at a13)); have a14 := t_add e74 ro_109_19 i47 rfl; (first | have a15 := in_u i60 | (have a15 := i60; unfold In at a15)); have a16 := t_add e60 ro_109_19 i47 rfl; (first | exact zt_s (by omega) (by omega) | omega))]; exact rq1_no (g42_1 qa qb qc) (by rw [(bs_x (x := z88) (a := y42_4) e_109_19 (by (first | have a0 := oa9 h3 h2 h1 ro_109_20 ro_109_19 i47 i75 i61 i147 | ((first | have a0 := in_u h3 | (have a0 := h3; unfold In at a0)); (first | have a1 := in_u h2 | (have a1 := h2; unfold In at a1)); (first | have a2 := in_u h1 | (have a2 := h1; unfold In at a2)); (first | have a3 := in_u ro_109_20 | (have a3 := ro_109_20; unfold In at a3)); (first | have a4 := in_u ro_109_19 | (have a4 := ro_109_19; unfold In at a4)); (first | have a5 := in_u i47 | (have a5 := i47; unfold In at a5)); (first | have a6 := in_u i75 | (have a6 := i75; unfold In at a6)); (first | have a7 := in_u i61 | (have a7 := i61; unfold In at a7)); (first | have a8 := in_u i147 | (have a8 := i147; unfold In at a8)))); have a9 := t_add e147 i47 (in_c 1 rfl) rfl; (first | have a10 := oa2 ((in_c 1 rfl)) i88 | ((first | have a10 := in_u ((in_c 1 rfl)) | (have a10 := (in_c 1 rfl); unfold In at a10)); (first | have a11 := in_u i88 | (have a11 := i88; unfold In at a11)))); have a12 := t_add e88 ro_109_19 i47 rfl; (first | have a13 := in_u i74 | (have a13 := i74; unfold In at a13)); have a14 := t_add e74 ro_109_19 i47 rfl; (first | have a15 := in_u i60 | (have a15 := i60; unfold In at a15)); have a16 := t_add e60 ro_109_19 i47 rfl; omega) (by (first | have a0 := oa9 h3 h2 h1 ro_109_20 ro_109_19 i47 i75 i61 i147 | ((first | have a0 := in_u h3 | (have a0 := h3; unfold In at a0)); (first | have a1 := in_u h2 | (have a1 := h2; unfold In at a1)); (first | have a2 := in_u h1 | (have a2 := h1; unfold In at a2)); (first | have a3 := in_u ro_109_20 | (have a3 := ro_109_20; unfold In at a3)); (first | have a4 := in_u ro_109_19 | (have a4 := ro_109_19; unfold In at a4)); (first | have a5 := in_u i47 | (have a5 := i47; unfold In at a5)); (first | have a6 := in_u i75 | (have a6 := i75; unfold In at a6)); (first | have a7 := in_u i61 | (have a7 := i61; unfold In at a7)); (first | have a8 := in_u i147 | (have a8 := i147; unfold In at a8)))); have a9 := t_add e147 i47 (in_c 1 rfl) rfl; (first | have a10 := oa2 ((in_c 1 rfl)) i88 | ((first | have a10 := in_u ((in_c 1 rfl)) | (have a10 := (in_c 1 rfl); unfold In at a10)); (first | have a11 := in_u i88 | (have a11 := i88; unfold In at a11)))); have a12 := t_add e88 ro_109_19 i47 rfl; (first | have a13 := in_u i74 | (have a13 := i74; unfold In at a13)); have a14 := t_add e74 ro_109_19 i47 rfl; (first | have a15 := in_u i60 | (have a15 := i60; unfold In at a15)); have a16 := t_add e60 ro_109_19 i47 rfl; omega) (by (first | have a0 := oa9 h3 h2 h1 ro_109_20 ro_109_19 i47 i75 i61 i147 | ((first | have a0 := in_u h3 | (have a0 := h3; unfold In at a0)); (first | have a1 := in_u h2 | (have a1 := h2; unfold In at a1)); (first | have a2 := in_u h1 | (have a2 := h1; unfold In at a2)); (first | have a3 := in_u ro_109_20 | (have a3 := ro_109_20; unfold In at a3)); (first | have a4 := in_u ro_109_19 | (have a4 := ro_109_19; unfold In at a4)); (first | have a5 := in_u i47 | (have a5 := i47; unfold In at a5)); (first | have a6 := in_u i75 | (have a6 := i75; unfold In at a6)); (first | have a7 := in_u i61 | (have a7 := i61; unfold In at a7)); (first | have a8 := in_u i147 | (have a8 := i147; unfold In at a8)))); have a9 := t_add e147 i47 (in_c 1 rfl) rfl; (first | have a10 := oa2 ((in_c 1 rfl)) i88 | ((first | have a10 := in_u ((in_c 1 rfl)) | (have a10 := (in_c 1 rfl); unfold In at a10)); (first | have a11 := in_u i88 | (have a11 := i88; unfold In at a11)))); have a12 := t_add e88 ro_109_19 i47 rfl; (first | have a13 := in_u i74 | (have a13 := i74; unfold In at a13)); have a14 := t_add e74 ro_109_19 i47 rfl; (first | have a15 := in_u i60 | (have a15 := i60; unfold In at a15)); have a16 := t_add e60 ro_109_19 i47 rfl; omega)), ← hFc42.1 112 rfl, ← e89]; exact c90))
          exact gg_w (by first | exact Nat.le_add_right _ _ | exact gw2 | exact gw3 | exact gwe rfl | exact gwf rfl | exact gwg rfl | exact gwh rfl | omega) (gg_f (gf_cons rfl (gf_cons rfl (gf_cons rfl (gf_cons rfl (gf_cons rfl gf_nil))))) (ih42 sc42 z147 hIc42 hFc42 (in_w 0 160 i147 rfl) n42 n42a (m_up mm42 (t_add e147 i47 (in_c 1 rfl) rfl) (in_w 1 1 (in_c 1 rfl) rfl))))
        · skip
          have i90 := z_ne 1 1 c90 i89 rfl
          refine g_iload 95 (gd rfl) rfl rfl ?_
          refine g_iload_n 96 (gd rfl) rfl rfl ?_
          refine g_cmp_eq 99 147 (gd rfl) rfl rfl (fun c96 => ?_) (fun c96 => ?_)
          · skip
            have i96 := r_eq2 0 159 c96 i47 h2 rfl
            refine g_iinc 150 (gd rfl) rfl rfl (Nat.le_of_ble_eq_true rfl) (fun z147 e147 => ?_)
            have i147 := in_add 1 160 e147 i47 (in_c 1 rfl) rfl rfl
            refine g_goto 42 (gd rfl) rfl ?_
            have n42 : ∀ j : Nat, ((j : Int) < (u_109_20).toInt ∧ (j : Int) ≠ (x3).toInt) → bt (sc42.1 129 j) j = true := by first | exact g42_0 | (first | exact fun j hj => g3_0 j ⟨by (first | have a0 := oa9 h3 i96 h1 ro_109_20 ro_109_19 i47 i75 i61 i147 | ((first | have a0 := in_u h3 | (have a0 := h3; unfold In at a0)); (first | have a1 := in_u i96 | (have a1 := i96; unfold In at a1)); (first | have a2 := in_u h1 | (have a2 := h1; unfold In at a2)); (first | have a3 := in_u ro_109_20 | (have a3 := ro_109_20; unfold In at a3)); (first | have a4 := in_u ro_109_19 | (have a4 := ro_109_19; unfold In at a4)); (first | have a5 := in_u i47 | (have a5 := i47; unfold In at a5)); (first | have a6 := in_u i75 | (have a6 := i75; unfold In at a6)); (first | have a7 := in_u i61 | (have a7 := i61; unfold In at a7)); (first | have a8 := in_u i147 | (have a8 := i147; unfold In at a8)))); have a9 := t_add e147 i47 (in_c 1 rfl) rfl; (first | have a10 := oa2 ((in_c 1 rfl)) i88 | ((first | have a10 := in_u ((in_c 1 rfl)) | (have a10 := (in_c 1 rfl); unfold In at a10)); (first | have a11 := in_u i88 | (have a11 := i88; unfold In at a11)))); have a12 := t_add e88 ro_109_19 i47 rfl; (first | have a13 := in_u i74 | (have a13 := i74; unfold In at a13)); have a14 := t_add e74 ro_109_19 i47 rfl; (first | have a15 := in_u i60 | (have a15 := i60; unfold In at a15)); have a16 := t_add e60 ro_109_19 i47 rfl; omega, hj.2⟩ | exact g42_0 | (rw [sI_q, sI_q]; rw [sI_q] at e132; exact bo_up (bo_up g42_0 e118 e123) e132 e145))
            have n42a : (x1).toInt = 0 → (x2).toInt = -1 → (x3).toInt = -1 → RQ1 s (sc42.1 129) (z147).toNatClampNeg := by exact fun _ qb _ => (by exfalso; have h := c96; (first | have a0 := oa9 h3 i96 h1 ro_109_20 ro_109_19 i47 i75 i61 i147 | ((first | have a0 := in_u h3 | (have a0 := h3; unfold In at a0)); (first | have a1 := in_u i96 | (have a1 := i96; unfold In at a1)); (first | have a2 := in_u h1 | (have a2 := h1; unfold In at a2)); (first | have a3 := in_u ro_109_20 | (have a3 := ro_109_20; unfold In at a3)); (first | have a4 := in_u ro_109_19 | (have a4 := ro_109_19; unfold In at a4)); (first | have a5 := in_u i47 | (have a5 := i47; unfold In at a5)); (first | have a6 := in_u i75 | (have a6 := i75; unfold In at a6)); (first | have a7 := in_u i61 | (have a7 := i61; unfold In at a7)); (first | have a8 := in_u i147 | (have a8 := i147; unfold In at a8)))); have a9 := t_add e147 i47 (in_c 1 rfl) rfl; (first | have a10 := oa2 ((in_c 1 rfl)) i88 | ((first | have a10 := in_u ((in_c 1 rfl)) | (have a10 := (in_c 1 rfl); unfold In at a10)); (first | have a11 := in_u i88 | (have a11 := i88; unfold In at a11)))); have a12 := t_add e88 ro_109_19 i47 rfl; (first | have a13 := in_u i74 | (have a13 := i74; unfold In at a13)); have a14 := t_add e74 ro_109_19 i47 rfl; (first | have a15 := in_u i60 | (have a15 := i60; unfold In at a15)); have a16 := t_add e60 ro_109_19 i47 rfl; omega)
            exact gg_w (by first | exact Nat.le_add_right _ _ | exact gw2 | exact gw3 | exact gwe rfl | exact gwf rfl | exact gwg rfl | exact gwh rfl | omega) (gg_f (gf_cons rfl (gf_cons rfl (gf_cons rfl (gf_cons rfl (gf_cons rfl gf_nil))))) (ih42 sc42 z147 hIc42 hFc42 (in_w 0 160 i147 rfl) n42 n42a (m_up mm42 (t_add e147 i47 (in_c 1 rfl) rfl) (in_w 1 1 (in_c 1 rfl) rfl))))
          · skip
            refine g_iload 101 (gd rfl) rfl rfl ?_
            refine g_iload_n 102 (gd rfl) rfl rfl ?_
            refine g_cmp_eq 105 147 (gd rfl) rfl rfl (fun c102 => ?_) (fun c102 => ?_)
            · skip
              have i102 := r_eq2 0 31 c102 i61 h3 rfl
              refine g_iinc 150 (gd rfl) rfl rfl (Nat.le_of_ble_eq_true rfl) (fun z147 e147 => ?_)
              have i147 := in_add 1 160 e147 i47 (in_c 1 rfl) rfl rfl
              refine g_goto 42 (gd rfl) rfl ?_
              have n42 : ∀ j : Nat, ((j : Int) < (u_109_20).toInt ∧ (j : Int) ≠ (x3).toInt) → bt (sc42.1 129 j) j = true := by first | exact g42_0 | (first | exact fun j hj => g3_0 j ⟨by (first | have a0 := oa9 i102 h2 h1 ro_109_20 ro_109_19 i47 i75 i61 i147 | ((first | have a0 := in_u i102 | (have a0 := i102; unfold In at a0)); (first | have a1 := in_u h2 | (have a1 := h2; unfold In at a1)); (first | have a2 := in_u h1 | (have a2 := h1; unfold In at a2)); (first | have a3 := in_u ro_109_20 | (have a3 := ro_109_20; unfold In at a3)); (first | have a4 := in_u ro_109_19 | (have a4 := ro_109_19; unfold In at a4)); (first | have a5 := in_u i47 | (have a5 := i47; unfold In at a5)); (first | have a6 := in_u i75 | (have a6 := i75; unfold In at a6)); (first | have a7 := in_u i61 | (have a7 := i61; unfold In at a7)); (first | have a8 := in_u i147 | (have a8 := i147; unfold In at a8)))); have a9 := t_add e147 i47 (in_c 1 rfl) rfl; (first | have a10 := oa2 ((in_c 1 rfl)) i88 | ((first | have a10 := in_u ((in_c 1 rfl)) | (have a10 := (in_c 1 rfl); unfold In at a10)); (first | have a11 := in_u i88 | (have a11 := i88; unfold In at a11)))); have a12 := t_add e88 ro_109_19 i47 rfl; (first | have a13 := in_u i74 | (have a13 := i74; unfold In at a13)); have a14 := t_add e74 ro_109_19 i47 rfl; (first | have a15 := in_u i60 | (have a15 := i60; unfold In at a15)); have a16 := t_add e60 ro_109_19 i47 rfl; omega, hj.2⟩ | exact g42_0 | (rw [sI_q, sI_q]; rw [sI_q] at e132; exact bo_up (bo_up g42_0 e118 e123) e132 e145))
              have n42a : (x1).toInt = 0 → (x2).toInt = -1 → (x3).toInt = -1 → RQ1 s (sc42.1 129) (z147).toNatClampNeg := by exact fun _ _ qc => (by exfalso; have h := c102; (first | have a0 := oa9 i102 h2 h1 ro_109_20 ro_109_19 i47 i75 i61 i147 | ((first | have a0 := in_u i102 | (have a0 := i102; unfold In at a0)); (first | have a1 := in_u h2 | (have a1 := h2; unfold In at a1)); (first | have a2 := in_u h1 | (have a2 := h1; unfold In at a2)); (first | have a3 := in_u ro_109_20 | (have a3 := ro_109_20; unfold In at a3)); (first | have a4 := in_u ro_109_19 | (have a4 := ro_109_19; unfold In at a4)); (first | have a5 := in_u i47 | (have a5 := i47; unfold In at a5)); (first | have a6 := in_u i75 | (have a6 := i75; unfold In at a6)); (first | have a7 := in_u i61 | (have a7 := i61; unfold In at a7)); (first | have a8 := in_u i147 | (have a8 := i147; unfold In at a8)))); have a9 := t_add e147 i47 (in_c 1 rfl) rfl; (first | have a10 := oa2 ((in_c 1 rfl)) i88 | ((first | have a10 := in_u ((in_c 1 rfl)) | (have a10 := (in_c 1 rfl); unfold In at a10)); (first | have a11 := in_u i88 | (have a11 := i88; unfold In at a11)))); have a12 := t_add e88 ro_109_19 i47 rfl; (first | have a13 := in_u i74 | (have a13 := i74; unfold In at a13)); have a14 := t_add e74 ro_109_19 i47 rfl; (first | have a15 := in_u i60 | (have a15 := i60; unfold In at a15)); have a16 := t_add e60 ro_109_19 i47 rfl; omega)
              exact gg_w (by first | exact Nat.le_add_right _ _ | exact gw2 | exact gw3 | exact gwe rfl | exact gwf rfl | exact gwg rfl | exact gwh rfl | omega) (gg_f (gf_cons rfl (gf_cons rfl (gf_cons rfl (gf_cons rfl (gf_cons rfl gf_nil))))) (ih42 sc42 z147 hIc42 hFc42 (in_w 0 160 i147 rfl) n42 n42a (m_up mm42 (t_add e147 i47 (in_c 1 rfl) rfl) (in_w 1 1 (in_c 1 rfl) rfl))))
            · skip
              refine g_iload 107 (gd rfl) rfl rfl ?_
              refine g_iload_n 108 (gd rfl) rfl rfl ?_
              refine g_cmp_eq 111 147 (gd rfl) rfl rfl (fun c108 => ?_) (fun c108 => ?_)
              · skip
                have i108 := r_eq2 0 31 c108 i75 h3 rfl
                refine g_iinc 150 (gd rfl) rfl rfl (Nat.le_of_ble_eq_true rfl) (fun z147 e147 => ?_)
                have i147 := in_add 1 160 e147 i47 (in_c 1 rfl) rfl rfl
                refine g_goto 42 (gd rfl) rfl ?_
                have n42 : ∀ j : Nat, ((j : Int) < (u_109_20).toInt ∧ (j : Int) ≠ (x3).toInt) → bt (sc42.1 129 j) j = true := by first | exact g42_0 | (first | exact fun j hj => g3_0 j ⟨by (first | have a0 := oa9 i108 h2 h1 ro_109_20 ro_109_19 i47 i75 i61 i147 | ((first | have a0 := in_u i108 | (have a0 := i108; unfold In at a0)); (first | have a1 := in_u h2 | (have a1 := h2; unfold In at a1)); (first | have a2 := in_u h1 | (have a2 := h1; unfold In at a2)); (first | have a3 := in_u ro_109_20 | (have a3 := ro_109_20; unfold In at a3)); (first | have a4 := in_u ro_109_19 | (have a4 := ro_109_19; unfold In at a4)); (first | have a5 := in_u i47 | (have a5 := i47; unfold In at a5)); (first | have a6 := in_u i75 | (have a6 := i75; unfold In at a6)); (first | have a7 := in_u i61 | (have a7 := i61; unfold In at a7)); (first | have a8 := in_u i147 | (have a8 := i147; unfold In at a8)))); have a9 := t_add e147 i47 (in_c 1 rfl) rfl; (first | have a10 := oa2 ((in_c 1 rfl)) i88 | ((first | have a10 := in_u ((in_c 1 rfl)) | (have a10 := (in_c 1 rfl); unfold In at a10)); (first | have a11 := in_u i88 | (have a11 := i88; unfold In at a11)))); have a12 := t_add e88 ro_109_19 i47 rfl; (first | have a13 := in_u i74 | (have a13 := i74; unfold In at a13)); have a14 := t_add e74 ro_109_19 i47 rfl; (first | have a15 := in_u i60 | (have a15 := i60; unfold In at a15)); have a16 := t_add e60 ro_109_19 i47 rfl; omega, hj.2⟩ | exact g42_0 | (rw [sI_q, sI_q]; rw [sI_q] at e132; exact bo_up (bo_up g42_0 e118 e123) e132 e145))
                have n42a : (x1).toInt = 0 → (x2).toInt = -1 → (x3).toInt = -1 → RQ1 s (sc42.1 129) (z147).toNatClampNeg := by exact fun _ _ qc => (by exfalso; have h := c108; (first | have a0 := oa9 i108 h2 h1 ro_109_20 ro_109_19 i47 i75 i61 i147 | ((first | have a0 := in_u i108 | (have a0 := i108; unfold In at a0)); (first | have a1 := in_u h2 | (have a1 := h2; unfold In at a1)); (first | have a2 := in_u h1 | (have a2 := h1; unfold In at a2)); (first | have a3 := in_u ro_109_20 | (have a3 := ro_109_20; unfold In at a3)); (first | have a4 := in_u ro_109_19 | (have a4 := ro_109_19; unfold In at a4)); (first | have a5 := in_u i47 | (have a5 := i47; unfold In at a5)); (first | have a6 := in_u i75 | (have a6 := i75; unfold In at a6)); (first | have a7 := in_u i61 | (have a7 := i61; unfold In at a7)); (first | have a8 := in_u i147 | (have a8 := i147; unfold In at a8)))); have a9 := t_add e147 i47 (in_c 1 rfl) rfl; (first | have a10 := oa2 ((in_c 1 rfl)) i88 | ((first | have a10 := in_u ((in_c 1 rfl)) | (have a10 := (in_c 1 rfl); unfold In at a10)); (first | have a11 := in_u i88 | (have a11 := i88; unfold In at a11)))); have a12 := t_add e88 ro_109_19 i47 rfl; (first | have a13 := in_u i74 | (have a13 := i74; unfold In at a13)); have a14 := t_add e74 ro_109_19 i47 rfl; (first | have a15 := in_u i60 | (have a15 := i60; unfold In at a15)); have a16 := t_add e60 ro_109_19 i47 rfl; omega)
                exact gg_w (by first | exact Nat.le_add_right _ _ | exact gw2 | exact gw3 | exact gwe rfl | exact gwf rfl | exact gwg rfl | exact gwh rfl | omega) (gg_f (gf_cons rfl (gf_cons rfl (gf_cons rfl (gf_cons rfl (gf_cons rfl gf_nil))))) (ih42 sc42 z147 hIc42 hFc42 (in_w 0 160 i147 rfl) n42 n42a (m_up mm42 (t_add e147 i47 (in_c 1 rfl) rfl) (in_w 1 1 (in_c 1 rfl) rfl))))
              · skip
                refine g_aload_n 112 (gd rfl) rfl rfl ?_
                refine g_getA (q2 := 129) 115 (gd rfl) rfl rfl rfl rfl ?_
                refine g_iload 117 (gd rfl) rfl rfl ?_
                refine g_dup2 118 (gd rfl) rfl rfl rfl ?_
                refine g_iaload 119 (gd rfl) rfl (n := 32) rfl (in_ix i61 rfl) (fun z118 e118 => ?_)
                refine g_iconst 1 120 (gd rfl) rfl rfl ?_
                refine g_iload 122 (gd rfl) rfl rfl ?_
                refine g_ishl 123 (gd rfl) rfl (fun z122 e122 => ?_)
                refine g_ior 124 (gd rfl) rfl (fun z123 e123 => ?_)
                refine g_iastore 125 (gd rfl) rfl (n := 32) rfl (in_ix i61 rfl) ?_
                have hI124 := inv_sI (q := 129) (j := z61.toNatClampNeg) hIc42 rfl (in_w (-2147483648) 2147483647 (i_rng z123) rfl)
                refine g_aload_n 126 (gd rfl) rfl rfl ?_
                refine g_getA (q2 := 129) 129 (gd rfl) rfl rfl rfl rfl ?_
                refine g_iload 131 (gd rfl) rfl rfl ?_
                refine g_dup2 132 (gd rfl) rfl rfl rfl ?_
                refine g_iaload 133 (gd rfl) rfl (n := 32) rfl (in_ix i75 rfl) (fun z132 e132 => ?_)
                refine g_iload_n 134 (gd rfl) rfl rfl ?_
                refine g_if_eq 137 144 (gd rfl) rfl rfl (fun c134 => ?_) (fun c134 => ?_)
                · skip
                  have i134 := z_eq 0 0 c134 h1 rfl
                  refine g_iconst 0 145 (gd rfl) rfl rfl ?_
                  refine g_ior 146 (gd rfl) rfl (fun z145 e145 => ?_)
                  refine g_iastore 147 (gd rfl) rfl (n := 32) rfl (in_ix i75 rfl) ?_
                  have hI146 := inv_sI (q := 129) (j := z75.toNatClampNeg) hI124 rfl (in_w (-2147483648) 2147483647 (i_rng z145) rfl)
                  refine g_iinc 150 (gd rfl) rfl rfl (Nat.le_of_ble_eq_true rfl) (fun z147 e147 => ?_)
                  have i147 := in_add 1 160 e147 i47 (in_c 1 rfl) rfl rfl
                  refine g_goto 42 (gd rfl) rfl ?_
                  have n42 : ∀ j : Nat, ((j : Int) < (u_109_20).toInt ∧ (j : Int) ≠ (x3).toInt) → bt ((sI (sI sc42 129 z61.toNatClampNeg z123) 129 z75.toNatClampNeg z145).1 129 j) j = true := by first | exact fun j hj => g3_0 j ⟨by (first | have a0 := oa9 h3 h2 i134 ro_109_20 ro_109_19 i47 i75 i61 i147 | ((first | have a0 := in_u h3 | (have a0 := h3; unfold In at a0)); (first | have a1 := in_u h2 | (have a1 := h2; unfold In at a1)); (first | have a2 := in_u i134 | (have a2 := i134; unfold In at a2)); (first | have a3 := in_u ro_109_20 | (have a3 := ro_109_20; unfold In at a3)); (first | have a4 := in_u ro_109_19 | (have a4 := ro_109_19; unfold In at a4)); (first | have a5 := in_u i47 | (have a5 := i47; unfold In at a5)); (first | have a6 := in_u i75 | (have a6 := i75; unfold In at a6)); (first | have a7 := in_u i61 | (have a7 := i61; unfold In at a7)); (first | have a8 := in_u i147 | (have a8 := i147; unfold In at a8)))); have a9 := t_add e147 i47 (in_c 1 rfl) rfl; (first | have a10 := oa2 ((in_c 1 rfl)) i88 | ((first | have a10 := in_u ((in_c 1 rfl)) | (have a10 := (in_c 1 rfl); unfold In at a10)); (first | have a11 := in_u i88 | (have a11 := i88; unfold In at a11)))); have a12 := t_add e88 ro_109_19 i47 rfl; (first | have a13 := in_u i74 | (have a13 := i74; unfold In at a13)); have a14 := t_add e74 ro_109_19 i47 rfl; (first | have a15 := in_u i60 | (have a15 := i60; unfold In at a15)); have a16 := t_add e60 ro_109_19 i47 rfl; omega, hj.2⟩ | exact g42_0 | (rw [sI_q, sI_q]; rw [sI_q] at e132; exact bo_up (bo_up g42_0 e118 e123) e132 e145)
                  have n42a : (x1).toInt = 0 → (x2).toInt = -1 → (x3).toInt = -1 → RQ1 s ((sI (sI sc42 129 z61.toNatClampNeg z123) 129 z75.toNatClampNeg z145).1 129) (z147).toNatClampNeg := by exact fun qa qb qc => (by rw [show (z147).toNatClampNeg = y42_4.toNatClampNeg + 1 from (by show z147.toInt.toNat = y42_4.toInt.toNat + 1; (first | have a0 := oa9 h3 h2 i134 ro_109_20 ro_109_19 i47 i75 i61 i147 | ((first | have a0 := in_u h3 | (have a0 := h3; unfold In at a0)); (first | have a1 := in_u h2 | (have a1 := h2; unfold In at a1)); (first | have a2 := in_u i134 | (have a2 := i134; unfold In at a2)); (first | have a3 := in_u ro_109_20 | (have a3 := ro_109_20; unfold In at a3)); (first | have a4 := in_u ro_109_19 | (have a4 := ro_109_19; unfold In at a4)); (first | have a5 := in_u i47 | (have a5 := i47; unfold In at a5)); (first | have a6 := in_u i75 | (have a6 := i75; unfold In at a6)); (first | have a7 := in_u i61 | (have a7 := i61; unfold In at a7)); (first | have a8 := in_u i147 | (have a8 := i147; unfold In at a8)))); have a9 := t_add e147 i47 (in_c 1 rfl) rfl; (first | have a10 := oa2 ((in_c 1 rfl)) i88 | ((first | have a10 := in_u ((in_c 1 rfl)) | (have a10 := (in_c 1 rfl); unfold In at a10)); (first | have a11 := in_u i88 | (have a11 := i88; unfold In at a11)))); have a12 := t_add e88 ro_109_19 i47 rfl; (first | have a13 := in_u i74 | (have a13 := i74; unfold In at a13)); have a14 := t_add e74 ro_109_19 i47 rfl; (first | have a15 := in_u i60 | (have a15 := i60; unfold In at a15)); have a16 := t_add e60 ro_109_19 i47 rfl; (first | exact zt_s (by omega) (by omega) | omega)), sI_q, sI_q]; exact rq1_st (g42_1 qa qb qc) (by show y42_4.toInt.toNat < 160; (first | have a0 := oa9 h3 h2 i134 ro_109_20 ro_109_19 i47 i75 i61 i147 | ((first | have a0 := in_u h3 | (have a0 := h3; unfold In at a0)); (first | have a1 := in_u h2 | (have a1 := h2; unfold In at a1)); (first | have a2 := in_u i134 | (have a2 := i134; unfold In at a2)); (first | have a3 := in_u ro_109_20 | (have a3 := ro_109_20; unfold In at a3)); (first | have a4 := in_u ro_109_19 | (have a4 := ro_109_19; unfold In at a4)); (first | have a5 := in_u i47 | (have a5 := i47; unfold In at a5)); (first | have a6 := in_u i75 | (have a6 := i75; unfold In at a6)); (first | have a7 := in_u i61 | (have a7 := i61; unfold In at a7)); (first | have a8 := in_u i147 | (have a8 := i147; unfold In at a8)))); have a9 := t_add e147 i47 (in_c 1 rfl) rfl; (first | have a10 := oa2 ((in_c 1 rfl)) i88 | ((first | have a10 := in_u ((in_c 1 rfl)) | (have a10 := (in_c 1 rfl); unfold In at a10)); (first | have a11 := in_u i88 | (have a11 := i88; unfold In at a11)))); have a12 := t_add e88 ro_109_19 i47 rfl; (first | have a13 := in_u i74 | (have a13 := i74; unfold In at a13)); have a14 := t_add e74 ro_109_19 i47 rfl; (first | have a15 := in_u i60 | (have a15 := i60; unfold In at a15)); have a16 := t_add e60 ro_109_19 i47 rfl; (first | exact zt_l (by decide) (by omega) | omega)) (by rw [(bs_x (x := z88) (a := y42_4) e_109_19 (by (first | have a0 := oa9 h3 h2 i134 ro_109_20 ro_109_19 i47 i75 i61 i147 | ((first | have a0 := in_u h3 | (have a0 := h3; unfold In at a0)); (first | have a1 := in_u h2 | (have a1 := h2; unfold In at a1)); (first | have a2 := in_u i134 | (have a2 := i134; unfold In at a2)); (first | have a3 := in_u ro_109_20 | (have a3 := ro_109_20; unfold In at a3)); (first | have a4 := in_u ro_109_19 | (have a4 := ro_109_19; unfold In at a4)); (first | have a5 := in_u i47 | (have a5 := i47; unfold In at a5)); (first | have a6 := in_u i75 | (have a6 := i75; unfold In at a6)); (first | have a7 := in_u i61 | (have a7 := i61; unfold In at a7)); (first | have a8 := in_u i147 | (have a8 := i147; unfold In at a8)))); have a9 := t_add e147 i47 (in_c 1 rfl) rfl; (first | have a10 := oa2 ((in_c 1 rfl)) i88 | ((first | have a10 := in_u ((in_c 1 rfl)) | (have a10 := (in_c 1 rfl); unfold In at a10)); (first | have a11 := in_u i88 | (have a11 := i88; unfold In at a11)))); have a12 := t_add e88 ro_109_19 i47 rfl; (first | have a13 := in_u i74 | (have a13 := i74; unfold In at a13)); have a14 := t_add e74 ro_109_19 i47 rfl; (first | have a15 := in_u i60 | (have a15 := i60; unfold In at a15)); have a16 := t_add e60 ro_109_19 i47 rfl; omega) (by (first | have a0 := oa9 h3 h2 i134 ro_109_20 ro_109_19 i47 i75 i61 i147 | ((first | have a0 := in_u h3 | (have a0 := h3; unfold In at a0)); (first | have a1 := in_u h2 | (have a1 := h2; unfold In at a1)); (first | have a2 := in_u i134 | (have a2 := i134; unfold In at a2)); (first | have a3 := in_u ro_109_20 | (have a3 := ro_109_20; unfold In at a3)); (first | have a4 := in_u ro_109_19 | (have a4 := ro_109_19; unfold In at a4)); (first | have a5 := in_u i47 | (have a5 := i47; unfold In at a5)); (first | have a6 := in_u i75 | (have a6 := i75; unfold In at a6)); (first | have a7 := in_u i61 | (have a7 := i61; unfold In at a7)); (first | have a8 := in_u i147 | (have a8 := i147; unfold In at a8)))); have a9 := t_add e147 i47 (in_c 1 rfl) rfl; (first | have a10 := oa2 ((in_c 1 rfl)) i88 | ((first | have a10 := in_u ((in_c 1 rfl)) | (have a10 := (in_c 1 rfl); unfold In at a10)); (first | have a11 := in_u i88 | (have a11 := i88; unfold In at a11)))); have a12 := t_add e88 ro_109_19 i47 rfl; (first | have a13 := in_u i74 | (have a13 := i74; unfold In at a13)); have a14 := t_add e74 ro_109_19 i47 rfl; (first | have a15 := in_u i60 | (have a15 := i60; unfold In at a15)); have a16 := t_add e60 ro_109_19 i47 rfl; omega) (by (first | have a0 := oa9 h3 h2 i134 ro_109_20 ro_109_19 i47 i75 i61 i147 | ((first | have a0 := in_u h3 | (have a0 := h3; unfold In at a0)); (first | have a1 := in_u h2 | (have a1 := h2; unfold In at a1)); (first | have a2 := in_u i134 | (have a2 := i134; unfold In at a2)); (first | have a3 := in_u ro_109_20 | (have a3 := ro_109_20; unfold In at a3)); (first | have a4 := in_u ro_109_19 | (have a4 := ro_109_19; unfold In at a4)); (first | have a5 := in_u i47 | (have a5 := i47; unfold In at a5)); (first | have a6 := in_u i75 | (have a6 := i75; unfold In at a6)); (first | have a7 := in_u i61 | (have a7 := i61; unfold In at a7)); (first | have a8 := in_u i147 | (have a8 := i147; unfold In at a8)))); have a9 := t_add e147 i47 (in_c 1 rfl) rfl; (first | have a10 := oa2 ((in_c 1 rfl)) i88 | ((first | have a10 := in_u ((in_c 1 rfl)) | (have a10 := (in_c 1 rfl); unfold In at a10)); (first | have a11 := in_u i88 | (have a11 := i88; unfold In at a11)))); have a12 := t_add e88 ro_109_19 i47 rfl; (first | have a13 := in_u i74 | (have a13 := i74; unfold In at a13)); have a14 := t_add e74 ro_109_19 i47 rfl; (first | have a15 := in_u i60 | (have a15 := i60; unfold In at a15)); have a16 := t_add e60 ro_109_19 i47 rfl; omega)), ← hFc42.1 112 rfl, ← e89]; exact c90) (by rw [(bs_x (x := z60) (a := y42_4) e_109_19 (by (first | have a0 := oa9 h3 h2 i134 ro_109_20 ro_109_19 i47 i75 i61 i147 | ((first | have a0 := in_u h3 | (have a0 := h3; unfold In at a0)); (first | have a1 := in_u h2 | (have a1 := h2; unfold In at a1)); (first | have a2 := in_u i134 | (have a2 := i134; unfold In at a2)); (first | have a3 := in_u ro_109_20 | (have a3 := ro_109_20; unfold In at a3)); (first | have a4 := in_u ro_109_19 | (have a4 := ro_109_19; unfold In at a4)); (first | have a5 := in_u i47 | (have a5 := i47; unfold In at a5)); (first | have a6 := in_u i75 | (have a6 := i75; unfold In at a6)); (first | have a7 := in_u i61 | (have a7 := i61; unfold In at a7)); (first | have a8 := in_u i147 | (have a8 := i147; unfold In at a8)))); have a9 := t_add e147 i47 (in_c 1 rfl) rfl; (first | have a10 := oa2 ((in_c 1 rfl)) i88 | ((first | have a10 := in_u ((in_c 1 rfl)) | (have a10 := (in_c 1 rfl); unfold In at a10)); (first | have a11 := in_u i88 | (have a11 := i88; unfold In at a11)))); have a12 := t_add e88 ro_109_19 i47 rfl; (first | have a13 := in_u i74 | (have a13 := i74; unfold In at a13)); have a14 := t_add e74 ro_109_19 i47 rfl; (first | have a15 := in_u i60 | (have a15 := i60; unfold In at a15)); have a16 := t_add e60 ro_109_19 i47 rfl; omega) (by (first | have a0 := oa9 h3 h2 i134 ro_109_20 ro_109_19 i47 i75 i61 i147 | ((first | have a0 := in_u h3 | (have a0 := h3; unfold In at a0)); (first | have a1 := in_u h2 | (have a1 := h2; unfold In at a1)); (first | have a2 := in_u i134 | (have a2 := i134; unfold In at a2)); (first | have a3 := in_u ro_109_20 | (have a3 := ro_109_20; unfold In at a3)); (first | have a4 := in_u ro_109_19 | (have a4 := ro_109_19; unfold In at a4)); (first | have a5 := in_u i47 | (have a5 := i47; unfold In at a5)); (first | have a6 := in_u i75 | (have a6 := i75; unfold In at a6)); (first | have a7 := in_u i61 | (have a7 := i61; unfold In at a7)); (first | have a8 := in_u i147 | (have a8 := i147; unfold In at a8)))); have a9 := t_add e147 i47 (in_c 1 rfl) rfl; (first | have a10 := oa2 ((in_c 1 rfl)) i88 | ((first | have a10 := in_u ((in_c 1 rfl)) | (have a10 := (in_c 1 rfl); unfold In at a10)); (first | have a11 := in_u i88 | (have a11 := i88; unfold In at a11)))); have a12 := t_add e88 ro_109_19 i47 rfl; (first | have a13 := in_u i74 | (have a13 := i74; unfold In at a13)); have a14 := t_add e74 ro_109_19 i47 rfl; (first | have a15 := in_u i60 | (have a15 := i60; unfold In at a15)); have a16 := t_add e60 ro_109_19 i47 rfl; omega) (by (first | have a0 := oa9 h3 h2 i134 ro_109_20 ro_109_19 i47 i75 i61 i147 | ((first | have a0 := in_u h3 | (have a0 := h3; unfold In at a0)); (first | have a1 := in_u h2 | (have a1 := h2; unfold In at a1)); (first | have a2 := in_u i134 | (have a2 := i134; unfold In at a2)); (first | have a3 := in_u ro_109_20 | (have a3 := ro_109_20; unfold In at a3)); (first | have a4 := in_u ro_109_19 | (have a4 := ro_109_19; unfold In at a4)); (first | have a5 := in_u i47 | (have a5 := i47; unfold In at a5)); (first | have a6 := in_u i75 | (have a6 := i75; unfold In at a6)); (first | have a7 := in_u i61 | (have a7 := i61; unfold In at a7)); (first | have a8 := in_u i147 | (have a8 := i147; unfold In at a8)))); have a9 := t_add e147 i47 (in_c 1 rfl) rfl; (first | have a10 := oa2 ((in_c 1 rfl)) i88 | ((first | have a10 := in_u ((in_c 1 rfl)) | (have a10 := (in_c 1 rfl); unfold In at a10)); (first | have a11 := in_u i88 | (have a11 := i88; unfold In at a11)))); have a12 := t_add e88 ro_109_19 i47 rfl; (first | have a13 := in_u i74 | (have a13 := i74; unfold In at a13)); have a14 := t_add e74 ro_109_19 i47 rfl; (first | have a15 := in_u i60 | (have a15 := i60; unfold In at a15)); have a16 := t_add e60 ro_109_19 i47 rfl; omega)), ← hFc42.1 113 rfl]; exact e61) (by rw [(bs_x (x := z74) (a := y42_4) e_109_19 (by (first | have a0 := oa9 h3 h2 i134 ro_109_20 ro_109_19 i47 i75 i61 i147 | ((first | have a0 := in_u h3 | (have a0 := h3; unfold In at a0)); (first | have a1 := in_u h2 | (have a1 := h2; unfold In at a1)); (first | have a2 := in_u i134 | (have a2 := i134; unfold In at a2)); (first | have a3 := in_u ro_109_20 | (have a3 := ro_109_20; unfold In at a3)); (first | have a4 := in_u ro_109_19 | (have a4 := ro_109_19; unfold In at a4)); (first | have a5 := in_u i47 | (have a5 := i47; unfold In at a5)); (first | have a6 := in_u i75 | (have a6 := i75; unfold In at a6)); (first | have a7 := in_u i61 | (have a7 := i61; unfold In at a7)); (first | have a8 := in_u i147 | (have a8 := i147; unfold In at a8)))); have a9 := t_add e147 i47 (in_c 1 rfl) rfl; (first | have a10 := oa2 ((in_c 1 rfl)) i88 | ((first | have a10 := in_u ((in_c 1 rfl)) | (have a10 := (in_c 1 rfl); unfold In at a10)); (first | have a11 := in_u i88 | (have a11 := i88; unfold In at a11)))); have a12 := t_add e88 ro_109_19 i47 rfl; (first | have a13 := in_u i74 | (have a13 := i74; unfold In at a13)); have a14 := t_add e74 ro_109_19 i47 rfl; (first | have a15 := in_u i60 | (have a15 := i60; unfold In at a15)); have a16 := t_add e60 ro_109_19 i47 rfl; omega) (by (first | have a0 := oa9 h3 h2 i134 ro_109_20 ro_109_19 i47 i75 i61 i147 | ((first | have a0 := in_u h3 | (have a0 := h3; unfold In at a0)); (first | have a1 := in_u h2 | (have a1 := h2; unfold In at a1)); (first | have a2 := in_u i134 | (have a2 := i134; unfold In at a2)); (first | have a3 := in_u ro_109_20 | (have a3 := ro_109_20; unfold In at a3)); (first | have a4 := in_u ro_109_19 | (have a4 := ro_109_19; unfold In at a4)); (first | have a5 := in_u i47 | (have a5 := i47; unfold In at a5)); (first | have a6 := in_u i75 | (have a6 := i75; unfold In at a6)); (first | have a7 := in_u i61 | (have a7 := i61; unfold In at a7)); (first | have a8 := in_u i147 | (have a8 := i147; unfold In at a8)))); have a9 := t_add e147 i47 (in_c 1 rfl) rfl; (first | have a10 := oa2 ((in_c 1 rfl)) i88 | ((first | have a10 := in_u ((in_c 1 rfl)) | (have a10 := (in_c 1 rfl); unfold In at a10)); (first | have a11 := in_u i88 | (have a11 := i88; unfold In at a11)))); have a12 := t_add e88 ro_109_19 i47 rfl; (first | have a13 := in_u i74 | (have a13 := i74; unfold In at a13)); have a14 := t_add e74 ro_109_19 i47 rfl; (first | have a15 := in_u i60 | (have a15 := i60; unfold In at a15)); have a16 := t_add e60 ro_109_19 i47 rfl; omega) (by (first | have a0 := oa9 h3 h2 i134 ro_109_20 ro_109_19 i47 i75 i61 i147 | ((first | have a0 := in_u h3 | (have a0 := h3; unfold In at a0)); (first | have a1 := in_u h2 | (have a1 := h2; unfold In at a1)); (first | have a2 := in_u i134 | (have a2 := i134; unfold In at a2)); (first | have a3 := in_u ro_109_20 | (have a3 := ro_109_20; unfold In at a3)); (first | have a4 := in_u ro_109_19 | (have a4 := ro_109_19; unfold In at a4)); (first | have a5 := in_u i47 | (have a5 := i47; unfold In at a5)); (first | have a6 := in_u i75 | (have a6 := i75; unfold In at a6)); (first | have a7 := in_u i61 | (have a7 := i61; unfold In at a7)); (first | have a8 := in_u i147 | (have a8 := i147; unfold In at a8)))); have a9 := t_add e147 i47 (in_c 1 rfl) rfl; (first | have a10 := oa2 ((in_c 1 rfl)) i88 | ((first | have a10 := in_u ((in_c 1 rfl)) | (have a10 := (in_c 1 rfl); unfold In at a10)); (first | have a11 := in_u i88 | (have a11 := i88; unfold In at a11)))); have a12 := t_add e88 ro_109_19 i47 rfl; (first | have a13 := in_u i74 | (have a13 := i74; unfold In at a13)); have a14 := t_add e74 ro_109_19 i47 rfl; (first | have a15 := in_u i60 | (have a15 := i60; unfold In at a15)); have a16 := t_add e60 ro_109_19 i47 rfl; omega)), ← hFc42.1 114 rfl]; exact e75) i75 e118 e122 e123 (by rw [e132, sI_q]) e145)
                  exact gg_w (by first | exact Nat.le_add_right _ _ | exact gw2 | exact gw3 | exact gwe rfl | exact gwf rfl | exact gwg rfl | exact gwh rfl | omega) (gg_f (gf_cons rfl (gf_cons rfl (gf_cons rfl (gf_cons rfl (gf_cons rfl gf_nil))))) (ih42 (sI (sI sc42 129 z61.toNatClampNeg z123) 129 z75.toNatClampNeg z145) z147 hI146 (fr_sI rfl (fr_sI rfl hFc42)) (in_w 0 160 i147 rfl) n42 n42a (m_up mm42 (t_add e147 i47 (in_c 1 rfl) rfl) (in_w 1 1 (in_c 1 rfl) rfl))))
                · skip
                  have i134 := z_ne 1 1 c134 h1 rfl
                  refine g_iconst 1 138 (gd rfl) rfl rfl ?_
                  refine g_iload 140 (gd rfl) rfl rfl ?_
                  refine g_ishl 141 (gd rfl) rfl (fun z140 e140 => ?_)
                  refine g_goto 145 (gd rfl) rfl ?_
                  refine g_ior 146 (gd rfl) rfl (fun z145 e145 => ?_)
                  refine g_iastore 147 (gd rfl) rfl (n := 32) rfl (in_ix i75 rfl) ?_
                  have hI146 := inv_sI (q := 129) (j := z75.toNatClampNeg) hI124 rfl (in_w (-2147483648) 2147483647 (i_rng z145) rfl)
                  refine g_iinc 150 (gd rfl) rfl rfl (Nat.le_of_ble_eq_true rfl) (fun z147 e147 => ?_)
                  have i147 := in_add 1 160 e147 i47 (in_c 1 rfl) rfl rfl
                  refine g_goto 42 (gd rfl) rfl ?_
                  have n42 : ∀ j : Nat, ((j : Int) < (u_109_20).toInt ∧ (j : Int) ≠ (x3).toInt) → bt ((sI (sI sc42 129 z61.toNatClampNeg z123) 129 z75.toNatClampNeg z145).1 129 j) j = true := by first | exact fun j hj => g3_0 j ⟨by (first | have a0 := oa9 h3 h2 i134 ro_109_20 ro_109_19 i47 i75 i61 i147 | ((first | have a0 := in_u h3 | (have a0 := h3; unfold In at a0)); (first | have a1 := in_u h2 | (have a1 := h2; unfold In at a1)); (first | have a2 := in_u i134 | (have a2 := i134; unfold In at a2)); (first | have a3 := in_u ro_109_20 | (have a3 := ro_109_20; unfold In at a3)); (first | have a4 := in_u ro_109_19 | (have a4 := ro_109_19; unfold In at a4)); (first | have a5 := in_u i47 | (have a5 := i47; unfold In at a5)); (first | have a6 := in_u i75 | (have a6 := i75; unfold In at a6)); (first | have a7 := in_u i61 | (have a7 := i61; unfold In at a7)); (first | have a8 := in_u i147 | (have a8 := i147; unfold In at a8)))); have a9 := t_add e147 i47 (in_c 1 rfl) rfl; (first | have a10 := oa2 ((in_c 1 rfl)) i88 | ((first | have a10 := in_u ((in_c 1 rfl)) | (have a10 := (in_c 1 rfl); unfold In at a10)); (first | have a11 := in_u i88 | (have a11 := i88; unfold In at a11)))); have a12 := t_add e88 ro_109_19 i47 rfl; (first | have a13 := in_u i74 | (have a13 := i74; unfold In at a13)); have a14 := t_add e74 ro_109_19 i47 rfl; (first | have a15 := in_u i60 | (have a15 := i60; unfold In at a15)); have a16 := t_add e60 ro_109_19 i47 rfl; omega, hj.2⟩ | exact g42_0 | (rw [sI_q, sI_q]; rw [sI_q] at e132; exact bo_up (bo_up g42_0 e118 e123) e132 e145)
                  have n42a : (x1).toInt = 0 → (x2).toInt = -1 → (x3).toInt = -1 → RQ1 s ((sI (sI sc42 129 z61.toNatClampNeg z123) 129 z75.toNatClampNeg z145).1 129) (z147).toNatClampNeg := by exact fun qa _ _ => absurd qa c134
                  exact gg_w (by first | exact Nat.le_add_right _ _ | exact gw2 | exact gw3 | exact gwe rfl | exact gwf rfl | exact gwg rfl | exact gwh rfl | omega) (gg_f (gf_cons rfl (gf_cons rfl (gf_cons rfl (gf_cons rfl (gf_cons rfl gf_nil))))) (ih42 (sI (sI sc42 129 z61.toNatClampNeg z123) 129 z75.toNatClampNeg z145) z147 hI146 (fr_sI rfl (fr_sI rfl hFc42)) (in_w 0 160 i147 rfl) n42 n42a (m_up mm42 (t_add e147 i47 (in_c 1 rfl) rfl) (in_w 1 1 (in_c 1 rfl) rfl))))
  have ct3 : ∀ (k3 : Nat) (sc3 : GS) (y3_4 : Int32), Inv sc3 → Fr fm_310 s sc3 → (In y3_4 0 32) → (∀ j : Nat, ((j : Int) < (y3_4).toInt ∧ (j : Int) ≠ (x3).toInt) → bt (sc3.1 129 j) j = true) → (∀ j w : Nat, (j : Int) < (y3_4).toInt → bt (sc3.1 129 j) w = true → j = w) → 32 - (y3_4).toInt < (k3 : Int) → GG Z (d - 1) 310 post (gx xp) (1214136 + k3 * 900) 3 (fun j => xlook j [(0, .ref (A 109)), (1, .int x1), (2, .int x2), (3, .int x3), (4, .int y3_4)]) [] (WW Z A sc3 ++ ex) 0 0 := by
    intro k3
    induction k3 with
    | zero => intro sc3 y3_4 hIc3 hFc3 j3_4 g3_0 g3_1 mm3; exact m_no mm3 j3_4 rfl
    | succ k3 ih3 =>
      intro sc3 y3_4 hIc3 hFc3 j3_4 g3_0 g3_1 mm3
      refine gg_w (M := 1214136 + k3 * 900 + 900) gws ?_
      refine g_iload 5 (gd rfl) rfl rfl ?_
      refine g_aload_n 6 (gd rfl) rfl rfl ?_
      refine g_getI 9 (gd rfl) rfl rfl rfl (fun z6 e6 => ?_)
      have q6 : u_109_20 = z6 := (fr_F e_109_20 hFc3 rfl).trans e6.symm
      subst q6
      refine g_cmp_ge 12 39 (gd rfl) rfl rfl (fun c9 => ?_) (fun c9 => ?_)
      · skip
        refine g_iconst 0 40 (gd rfl) rfl rfl ?_
        refine g_istore 42 (gd rfl) rfl (Nat.le_of_ble_eq_true rfl) ?_
        have n42 : ∀ j : Nat, ((j : Int) < (u_109_20).toInt ∧ (j : Int) ≠ (x3).toInt) → bt (sc3.1 129 j) j = true := by first | exact fun j hj => g3_0 j ⟨by (first | have a0 := oa7 h3 h2 h1 ro_109_20 ro_109_19 j3_4 ((in_c 0 rfl)) | ((first | have a0 := in_u h3 | (have a0 := h3; unfold In at a0)); (first | have a1 := in_u h2 | (have a1 := h2; unfold In at a1)); (first | have a2 := in_u h1 | (have a2 := h1; unfold In at a2)); (first | have a3 := in_u ro_109_20 | (have a3 := ro_109_20; unfold In at a3)); (first | have a4 := in_u ro_109_19 | (have a4 := ro_109_19; unfold In at a4)); (first | have a5 := in_u j3_4 | (have a5 := j3_4; unfold In at a5)); (first | have a6 := in_u ((in_c 0 rfl)) | (have a6 := (in_c 0 rfl); unfold In at a6)))); omega, hj.2⟩ | exact g42_0 | (rw [sI_q, sI_q]; rw [sI_q] at e132; exact bo_up (bo_up g42_0 e118 e123) e132 e145)
        have n42a : (x1).toInt = 0 → (x2).toInt = -1 → (x3).toInt = -1 → RQ1 s (sc3.1 129) ((Int32.ofInt 0)).toNatClampNeg := by exact fun _ _ _ => rq1_0 (fun u w hu hb => g3_1 u w (by unfold nmx at hu; rw [← e_109_20] at hu; (first | have a0 := oa7 h3 h2 h1 ro_109_20 ro_109_19 j3_4 ((in_c 0 rfl)) | ((first | have a0 := in_u h3 | (have a0 := h3; unfold In at a0)); (first | have a1 := in_u h2 | (have a1 := h2; unfold In at a1)); (first | have a2 := in_u h1 | (have a2 := h1; unfold In at a2)); (first | have a3 := in_u ro_109_20 | (have a3 := ro_109_20; unfold In at a3)); (first | have a4 := in_u ro_109_19 | (have a4 := ro_109_19; unfold In at a4)); (first | have a5 := in_u j3_4 | (have a5 := j3_4; unfold In at a5)); (first | have a6 := in_u ((in_c 0 rfl)) | (have a6 := (in_c 0 rfl); unfold In at a6)))); omega) hb)
        exact gg_w (by first | exact Nat.le_add_right _ _ | exact gw2 | exact gw3 | exact gwe rfl | exact gwf rfl | exact gwg rfl | exact gwh rfl | omega) (gg_f (gf_cons rfl (gf_cons rfl (gf_cons rfl (gf_cons rfl (gf_cons rfl gf_nil))))) (ct42 161 sc3 (Int32.ofInt 0) hIc3 hFc3 (in_w 0 160 (in_c 0 rfl) rfl) n42 n42a (m_in 161 (in_w 0 160 (in_c 0 rfl) rfl) rfl)))
      · skip
        have i9 := r_lt1 0 31 c9 j3_4 ro_109_20 rfl
        have i9a := r_lt2 1 32 c9 j3_4 ro_109_20 rfl
        refine g_aload_n 13 (gd rfl) rfl rfl ?_
        refine g_getA (q2 := 129) 16 (gd rfl) rfl rfl rfl rfl ?_
        refine g_iload 18 (gd rfl) rfl rfl ?_
        refine g_iload 20 (gd rfl) rfl rfl ?_
        refine g_iload_n 21 (gd rfl) rfl rfl ?_
        refine g_cmp_ne 24 28 (gd rfl) rfl rfl (fun c21 => ?_) (fun c21 => ?_)
        · skip
          refine g_iconst 1 29 (gd rfl) rfl rfl ?_
          refine g_iload 31 (gd rfl) rfl rfl ?_
          refine g_ishl 32 (gd rfl) rfl (fun z31 e31 => ?_)
          refine g_iastore 33 (gd rfl) rfl (n := 32) rfl (in_ix i9 rfl) ?_
          have hI32 := inv_sI (q := 129) (j := y3_4.toNatClampNeg) hIc3 rfl (in_w (-2147483648) 2147483647 (i_rng z31) rfl)
          refine g_iinc 36 (gd rfl) rfl rfl (Nat.le_of_ble_eq_true rfl) (fun z33 e33 => ?_)
          have i33 := in_add 1 32 e33 i9 (in_c 1 rfl) rfl rfl
          refine g_goto 3 (gd rfl) rfl ?_
          have n3 : ∀ j : Nat, ((j : Int) < (z33).toInt ∧ (j : Int) ≠ (x3).toInt) → bt ((sI sc3 129 y3_4.toNatClampNeg z31).1 129 j) j = true := by first | (intro j hj; exfalso; have h0 : (Int32.ofInt 0).toInt = 0 := rfl; omega) | (rw [sI_q]; refine pt_up (P := fun j v => bt v j = true) (fun hD => ?_) (fun j hne hD => g3_0 j ⟨by have e4 : y3_4.toNatClampNeg = y3_4.toInt.toNat := rfl; (first | have a0 := oa7 h3 h2 h1 i9a ro_109_19 i9 i33 | ((first | have a0 := in_u h3 | (have a0 := h3; unfold In at a0)); (first | have a1 := in_u h2 | (have a1 := h2; unfold In at a1)); (first | have a2 := in_u h1 | (have a2 := h1; unfold In at a2)); (first | have a3 := in_u i9a | (have a3 := i9a; unfold In at a3)); (first | have a4 := in_u ro_109_19 | (have a4 := ro_109_19; unfold In at a4)); (first | have a5 := in_u i9 | (have a5 := i9; unfold In at a5)); (first | have a6 := in_u i33 | (have a6 := i33; unfold In at a6)))); have a7 := t_add e33 i9 (in_c 1 rfl) rfl; (first | have a8 := in_u ((in_c 1 rfl)) | (have a8 := (in_c 1 rfl); unfold In at a8)); omega, hD.2⟩); first | (rw [bt_one e31 i9]; simp) | (exfalso; apply hD.2; have e4 : y3_4.toNatClampNeg = y3_4.toInt.toNat := rfl; (first | have a0 := oa7 h3 h2 h1 i9a ro_109_19 i9 i33 | ((first | have a0 := in_u h3 | (have a0 := h3; unfold In at a0)); (first | have a1 := in_u h2 | (have a1 := h2; unfold In at a1)); (first | have a2 := in_u h1 | (have a2 := h1; unfold In at a2)); (first | have a3 := in_u i9a | (have a3 := i9a; unfold In at a3)); (first | have a4 := in_u ro_109_19 | (have a4 := ro_109_19; unfold In at a4)); (first | have a5 := in_u i9 | (have a5 := i9; unfold In at a5)); (first | have a6 := in_u i33 | (have a6 := i33; unfold In at a6)))); have a7 := t_add e33 i9 (in_c 1 rfl) rfl; (first | have a8 := in_u ((in_c 1 rfl)) | (have a8 := (in_c 1 rfl); unfold In at a8)); omega))
          have n3a : ∀ j w : Nat, (j : Int) < (z33).toInt → bt ((sI sc3 129 y3_4.toNatClampNeg z31).1 129 j) w = true → j = w := by (intro j w hj hb; rw [sI_q] at hb; have e4 : y3_4.toNatClampNeg = y3_4.toInt.toNat := rfl; by_cases c : j = y3_4.toNatClampNeg; (rw [c, up_e, bt_one e31 i9] at hb; rw [c]; exact (of_decide_eq_true hb).symm); (rw [up_n c] at hb; exact g3_1 j w (by (first | have a0 := oa7 h3 h2 h1 i9a ro_109_19 i9 i33 | ((first | have a0 := in_u h3 | (have a0 := h3; unfold In at a0)); (first | have a1 := in_u h2 | (have a1 := h2; unfold In at a1)); (first | have a2 := in_u h1 | (have a2 := h1; unfold In at a2)); (first | have a3 := in_u i9a | (have a3 := i9a; unfold In at a3)); (first | have a4 := in_u ro_109_19 | (have a4 := ro_109_19; unfold In at a4)); (first | have a5 := in_u i9 | (have a5 := i9; unfold In at a5)); (first | have a6 := in_u i33 | (have a6 := i33; unfold In at a6)))); have a7 := t_add e33 i9 (in_c 1 rfl) rfl; (first | have a8 := in_u ((in_c 1 rfl)) | (have a8 := (in_c 1 rfl); unfold In at a8)); omega) hb))
          exact gg_w (by first | exact Nat.le_add_right _ _ | exact gw2 | exact gw3 | exact gwe rfl | exact gwf rfl | exact gwg rfl | exact gwh rfl | omega) (gg_f (gf_cons rfl (gf_cons rfl (gf_cons rfl (gf_cons rfl (gf_cons rfl gf_nil))))) (ih3 (sI sc3 129 y3_4.toNatClampNeg z31) z33 hI32 (fr_sI rfl hFc3) (in_w 0 32 i33 rfl) n3 n3a (m_up mm3 (t_add e33 i9 (in_c 1 rfl) rfl) (in_w 1 1 (in_c 1 rfl) rfl))))
        · skip
          have i21 := r_eq2 0 31 c21 i9 h3 rfl
          refine g_iconst 0 25 (gd rfl) rfl rfl ?_
          refine g_goto 32 (gd rfl) rfl ?_
          refine g_iastore 33 (gd rfl) rfl (n := 32) rfl (in_ix i9 rfl) ?_
          have hI32 := inv_sI (q := 129) (j := y3_4.toNatClampNeg) hIc3 rfl (in_w (-2147483648) 2147483647 (in_c 0 rfl) rfl)
          refine g_iinc 36 (gd rfl) rfl rfl (Nat.le_of_ble_eq_true rfl) (fun z33 e33 => ?_)
          have i33 := in_add 1 32 e33 i9 (in_c 1 rfl) rfl rfl
          refine g_goto 3 (gd rfl) rfl ?_
          have n3 : ∀ j : Nat, ((j : Int) < (z33).toInt ∧ (j : Int) ≠ (x3).toInt) → bt ((sI sc3 129 y3_4.toNatClampNeg (Int32.ofInt 0)).1 129 j) j = true := by first | (intro j hj; exfalso; have h0 : (Int32.ofInt 0).toInt = 0 := rfl; omega) | (rw [sI_q]; refine pt_up (P := fun j v => bt v j = true) (fun hD => ?_) (fun j hne hD => g3_0 j ⟨by have e4 : y3_4.toNatClampNeg = y3_4.toInt.toNat := rfl; (first | have a0 := oa7 i21 h2 h1 i9a ro_109_19 i9 i33 | ((first | have a0 := in_u i21 | (have a0 := i21; unfold In at a0)); (first | have a1 := in_u h2 | (have a1 := h2; unfold In at a1)); (first | have a2 := in_u h1 | (have a2 := h1; unfold In at a2)); (first | have a3 := in_u i9a | (have a3 := i9a; unfold In at a3)); (first | have a4 := in_u ro_109_19 | (have a4 := ro_109_19; unfold In at a4)); (first | have a5 := in_u i9 | (have a5 := i9; unfold In at a5)); (first | have a6 := in_u i33 | (have a6 := i33; unfold In at a6)))); have a7 := t_add e33 i9 (in_c 1 rfl) rfl; (first | have a8 := in_u ((in_c 1 rfl)) | (have a8 := (in_c 1 rfl); unfold In at a8)); omega, hD.2⟩); first | (rw [bt_one e31 i9]; simp) | (exfalso; apply hD.2; have e4 : y3_4.toNatClampNeg = y3_4.toInt.toNat := rfl; (first | have a0 := oa7 i21 h2 h1 i9a ro_109_19 i9 i33 | ((first | have a0 := in_u i21 | (have a0 := i21; unfold In at a0)); (first | have a1 := in_u h2 | (have a1 := h2; unfold In at a1)); (first | have a2 := in_u h1 | (have a2 := h1; unfold In at a2)); (first | have a3 := in_u i9a | (have a3 := i9a; unfold In at a3)); (first | have a4 := in_u ro_109_19 | (have a4 := ro_109_19; unfold In at a4)); (first | have a5 := in_u i9 | (have a5 := i9; unfold In at a5)); (first | have a6 := in_u i33 | (have a6 := i33; unfold In at a6)))); have a7 := t_add e33 i9 (in_c 1 rfl) rfl; (first | have a8 := in_u ((in_c 1 rfl)) | (have a8 := (in_c 1 rfl); unfold In at a8)); omega))
          have n3a : ∀ j w : Nat, (j : Int) < (z33).toInt → bt ((sI sc3 129 y3_4.toNatClampNeg (Int32.ofInt 0)).1 129 j) w = true → j = w := by (intro j w hj hb; rw [sI_q] at hb; have e4 : y3_4.toNatClampNeg = y3_4.toInt.toNat := rfl; by_cases c : j = y3_4.toNatClampNeg; (rw [c, up_e, show (Int32.ofInt 0) = (0 : Int32) from rfl, bt_z] at hb; cases hb); (rw [up_n c] at hb; exact g3_1 j w (by (first | have a0 := oa7 i21 h2 h1 i9a ro_109_19 i9 i33 | ((first | have a0 := in_u i21 | (have a0 := i21; unfold In at a0)); (first | have a1 := in_u h2 | (have a1 := h2; unfold In at a1)); (first | have a2 := in_u h1 | (have a2 := h1; unfold In at a2)); (first | have a3 := in_u i9a | (have a3 := i9a; unfold In at a3)); (first | have a4 := in_u ro_109_19 | (have a4 := ro_109_19; unfold In at a4)); (first | have a5 := in_u i9 | (have a5 := i9; unfold In at a5)); (first | have a6 := in_u i33 | (have a6 := i33; unfold In at a6)))); have a7 := t_add e33 i9 (in_c 1 rfl) rfl; (first | have a8 := in_u ((in_c 1 rfl)) | (have a8 := (in_c 1 rfl); unfold In at a8)); omega) hb))
          exact gg_w (by first | exact Nat.le_add_right _ _ | exact gw2 | exact gw3 | exact gwe rfl | exact gwf rfl | exact gwg rfl | exact gwh rfl | omega) (gg_f (gf_cons rfl (gf_cons rfl (gf_cons rfl (gf_cons rfl (gf_cons rfl gf_nil))))) (ih3 (sI sc3 129 y3_4.toNatClampNeg (Int32.ofInt 0)) z33 hI32 (fr_sI rfl hFc3) (in_w 0 32 i33 rfl) n3 n3a (m_up mm3 (t_add e33 i9 (in_c 1 rfl) rfl) (in_w 1 1 (in_c 1 rfl) rfl))))
  refine g_enter2 (k := 310) (N := 1244736) (by first | exact dq1 hd rfl | exact dq0 hd rfl | exact dq2 hd rfl | exact dq3 hd rfl | omega) rfl (Nat.le_of_ble_eq_true rfl) ?_
  refine g_iconst 0 1 (gd rfl) rfl rfl ?_
  refine g_istore 3 (gd rfl) rfl (Nat.le_of_ble_eq_true rfl) ?_
  have n3 : ∀ j : Nat, ((j : Int) < ((Int32.ofInt 0)).toInt ∧ (j : Int) ≠ (x3).toInt) → bt (s.1 129 j) j = true := by first | (intro j hj; exfalso; have h0 : (Int32.ofInt 0).toInt = 0 := rfl; omega) | (rw [sI_q]; refine pt_up (P := fun j v => bt v j = true) (fun hD => ?_) (fun j hne hD => g3_0 j ⟨by have e4 : y3_4.toNatClampNeg = y3_4.toInt.toNat := rfl; (first | have a0 := oa6 ro_109_20 ro_109_19 h3 h2 h1 ((in_c 0 rfl)) | ((first | have a0 := in_u ro_109_20 | (have a0 := ro_109_20; unfold In at a0)); (first | have a1 := in_u ro_109_19 | (have a1 := ro_109_19; unfold In at a1)); (first | have a2 := in_u h3 | (have a2 := h3; unfold In at a2)); (first | have a3 := in_u h2 | (have a3 := h2; unfold In at a3)); (first | have a4 := in_u h1 | (have a4 := h1; unfold In at a4)); (first | have a5 := in_u ((in_c 0 rfl)) | (have a5 := (in_c 0 rfl); unfold In at a5)))); omega, hD.2⟩); first | (rw [bt_one e31 i9]; simp) | (exfalso; apply hD.2; have e4 : y3_4.toNatClampNeg = y3_4.toInt.toNat := rfl; (first | have a0 := oa6 ro_109_20 ro_109_19 h3 h2 h1 ((in_c 0 rfl)) | ((first | have a0 := in_u ro_109_20 | (have a0 := ro_109_20; unfold In at a0)); (first | have a1 := in_u ro_109_19 | (have a1 := ro_109_19; unfold In at a1)); (first | have a2 := in_u h3 | (have a2 := h3; unfold In at a2)); (first | have a3 := in_u h2 | (have a3 := h2; unfold In at a3)); (first | have a4 := in_u h1 | (have a4 := h1; unfold In at a4)); (first | have a5 := in_u ((in_c 0 rfl)) | (have a5 := (in_c 0 rfl); unfold In at a5)))); omega))
  have n3a : ∀ j w : Nat, (j : Int) < ((Int32.ofInt 0)).toInt → bt (s.1 129 j) w = true → j = w := by (intro j w hj hb; exfalso; have h0 : (Int32.ofInt 0).toInt = 0 := rfl; omega)
  exact gg_w (by first | exact Nat.le_of_ble_eq_true rfl | omega) (gg_f (gf_cons rfl (gf_cons rfl (gf_cons rfl (gf_cons rfl (gf_cons rfl gf_nil))))) (ct3 33 s (Int32.ofInt 0) hI fr_rf (in_w 0 32 (in_c 0 rfl) rfl) n3 n3a (m_in 33 (in_w 0 32 (in_c 0 rfl) rfl) rfl)))

def fm_313 : FM := ([131], [], [], [])
/-- GraphHouseModel.fewest -/
theorem k_313 {Z : AmZ} {A : Nat → Nat} {s : GS} {ex : va_W} {d : Nat} {X : AmX} {x1 : Int32} {x2 : Int32} (hd : 3 ≤ d) (hI : Inv s) (h1 : In x1 0 31) (q_0 : FWP s (x1).toNatClampNeg (x2)) : GC Z d 313 [.ref (A 109), .int x1, .int x2] (WW Z A s ++ ex) 0 0 (fun v u => ∃ t : GS, Inv t ∧ Fr fm_313 s t ∧ v = none ∧ u = WW Z A t ++ ex ∧ (WFN t (x1).toNatClampNeg (x2))) X := by
  intro post xp hP hX
  obtain ⟨u_109_19, e_109_19⟩ : ∃ w, w = s.2.2.1 109 19 := ⟨_, rfl⟩
  have ro_109_19 := inv_F hI 0 160 rfl e_109_19
  obtain ⟨u_109_20, e_109_20⟩ : ∃ w, w = s.2.2.1 109 20 := ⟨_, rfl⟩
  have ro_109_20 := inv_F hI 0 32 rfl e_109_20
  have ct36 : ∀ (k36 : Nat) (sc36 : GS) (y36_3 : Int32), Inv sc36 → Fr fm_313 s sc36 → (In y36_3 0 32) → (FQ s (x1).toNatClampNeg (x2) (sc36.1 131) (y36_3).toNatClampNeg) → 32 - (y36_3).toInt < (k36 : Int) → GG Z (d - 1) 313 post (gx xp) (1 + k36 * 363601) 36 (fun j => xlook j [(0, .ref (A 109)), (1, .int x1), (2, .int x2), (3, .int y36_3)]) [] (WW Z A sc36 ++ ex) 0 0 := by
    intro k36
    induction k36 with
    | zero => intro sc36 y36_3 hIc36 hFc36 j36_3 g36_0 mm36; exact m_no mm36 j36_3 rfl
    | succ k36 ih36 =>
      intro sc36 y36_3 hIc36 hFc36 j36_3 g36_0 mm36
      refine gg_w (M := 1 + k36 * 363601 + 363601) gws ?_
      have ct50 : ∀ (k50 : Nat) (sc50 : GS) (y50_4 : Int32), Inv sc50 → Fr fm_313 s sc50 → (In y36_3 0 31) → (In y50_4 0 400) → ((u_109_19).toInt ≤ (y50_4).toInt) → ((y50_4).toInt ≤ (u_109_19).toInt + 160) → (FQI s (x1).toNatClampNeg (x2) (sc50.1 131) (y36_3).toNatClampNeg ((y50_4).toInt - u_109_19.toInt).toNat) → 400 - (y50_4).toInt < (k50 : Int) → GG Z (d - 1) 313 post (gx xp) (1 + k36 * 363601 + 1 + k50 * 900) 50 (fun j => xlook j [(0, .ref (A 109)), (1, .int x1), (2, .int x2), (3, .int y36_3), (4, .int y50_4)]) [] (WW Z A sc50 ++ ex) 0 0 := by
        intro k50
        induction k50 with
        | zero => intro sc50 y50_4 hIc50 hFc50 j50_3 j50_4 n50_0 n50_1 g50_0 mm50; exact m_no mm50 j50_4 rfl
        | succ k50 ih50 =>
          intro sc50 y50_4 hIc50 hFc50 j50_3 j50_4 n50_0 n50_1 g50_0 mm50
          refine gg_w (M := 1 + k36 * 363601 + 1 + k50 * 900 + 900) gws ?_
          refine g_iload 52 (gd rfl) rfl rfl ?_
          refine g_aload_n 53 (gd rfl) rfl rfl ?_
          refine g_getI 56 (gd rfl) rfl rfl rfl (fun z53 e53 => ?_)
          have q53 : u_109_19 = z53 := (fr_F e_109_19 hFc50 rfl).trans e53.symm
          subst q53
          refine g_sipush 160 59 (gd rfl) rfl rfl ?_
          refine g_iadd 60 (gd rfl) rfl (fun z59 e59 => ?_)
          have i59 := in_add 160 320 e59 ro_109_19 (in_c 160 rfl) rfl rfl
          refine g_cmp_ge 63 225 (gd rfl) rfl rfl (fun c60 => ?_) (fun c60 => ?_)
          · skip
            have i60 := r_le2 160 400 c60 i59 j50_4 rfl
            refine g_iinc 228 (gd rfl) rfl rfl (Nat.le_of_ble_eq_true rfl) (fun z225 e225 => ?_)
            have i225 := in_add 1 32 e225 j50_3 (in_c 1 rfl) rfl rfl
            refine g_goto 36 (gd rfl) rfl ?_
            have n36 : FQ s (x1).toNatClampNeg (x2) (sc50.1 131) (z225).toNatClampNeg := by rw [show (z225).toNatClampNeg = y36_3.toNatClampNeg + 1 from (by show z225.toInt.toNat = y36_3.toInt.toNat + 1; (first | have a0 := oa6 j50_3 h1 ro_109_20 ro_109_19 i60 i225 | ((first | have a0 := in_u j50_3 | (have a0 := j50_3; unfold In at a0)); (first | have a1 := in_u h1 | (have a1 := h1; unfold In at a1)); (first | have a2 := in_u ro_109_20 | (have a2 := ro_109_20; unfold In at a2)); (first | have a3 := in_u ro_109_19 | (have a3 := ro_109_19; unfold In at a3)); (first | have a4 := in_u i60 | (have a4 := i60; unfold In at a4)); (first | have a5 := in_u i225 | (have a5 := i225; unfold In at a5)))); have a6 := t_add e225 j50_3 (in_c 1 rfl) rfl; (first | have a7 := oa2 ((in_c 1 rfl)) i59 | ((first | have a7 := in_u ((in_c 1 rfl)) | (have a7 := (in_c 1 rfl); unfold In at a7)); (first | have a8 := in_u i59 | (have a8 := i59; unfold In at a8)))); have a9 := t_add e59 ro_109_19 (in_c 160 rfl) rfl; (first | have a10 := in_u ((in_c 160 rfl)) | (have a10 := (in_c 160 rfl); unfold In at a10)); (first | exact zt_s (by omega) (by omega) | omega))]; exact fq_r (by have h := g50_0; rw [show ((y50_4).toInt - u_109_19.toInt).toNat = 160 from (by (first | have a0 := oa6 j50_3 h1 ro_109_20 ro_109_19 i60 i225 | ((first | have a0 := in_u j50_3 | (have a0 := j50_3; unfold In at a0)); (first | have a1 := in_u h1 | (have a1 := h1; unfold In at a1)); (first | have a2 := in_u ro_109_20 | (have a2 := ro_109_20; unfold In at a2)); (first | have a3 := in_u ro_109_19 | (have a3 := ro_109_19; unfold In at a3)); (first | have a4 := in_u i60 | (have a4 := i60; unfold In at a4)); (first | have a5 := in_u i225 | (have a5 := i225; unfold In at a5)))); have a6 := t_add e225 j50_3 (in_c 1 rfl) rfl; (first | have a7 := oa2 ((in_c 1 rfl)) i59 | ((first | have a7 := in_u ((in_c 1 rfl)) | (have a7 := (in_c 1 rfl); unfold In at a7)); (first | have a8 := in_u i59 | (have a8 := i59; unfold In at a8)))); have a9 := t_add e59 ro_109_19 (in_c 160 rfl) rfl; (first | have a10 := in_u ((in_c 160 rfl)) | (have a10 := (in_c 160 rfl); unfold In at a10)); omega)] at h; exact h)
            exact gg_w (by first | exact Nat.le_add_right _ _ | exact gw2 | exact gw3 | exact gwe rfl | exact gwf rfl | exact gwg rfl | exact gwh rfl | omega) (gg_f (gf_cons rfl (gf_cons rfl (gf_cons rfl (gf_cons rfl gf_nil)))) (ih36 sc50 z225 hIc50 hFc50 (in_w 0 32 i225 rfl) n36 (m_up mm36 (t_add e225 j50_3 (in_c 1 rfl) rfl) (in_w 1 1 (in_c 1 rfl) rfl))))
          · skip
            have i60 := r_lt1 0 319 c60 j50_4 i59 rfl
            refine g_aload_n 64 (gd rfl) rfl rfl ?_
            refine g_getA (q2 := 112) 67 (gd rfl) rfl rfl rfl rfl ?_
            refine g_iload 69 (gd rfl) rfl rfl ?_
            refine g_baload 70 (gd rfl) rfl (n := 480) rfl (in_ix i60 rfl) (fun z69 e69 => ?_)
            have i69 := inv_I hIc50 (n := 480) (t := 3) 0 1 rfl (in_ix i60 rfl) rfl e69
            refine g_if_eq 73 219 (gd rfl) rfl rfl (fun c70 => ?_) (fun c70 => ?_)
            · skip
              have i70 := z_eq 0 0 c70 i69 rfl
              refine g_iinc 222 (gd rfl) rfl rfl (Nat.le_of_ble_eq_true rfl) (fun z219 e219 => ?_)
              have i219 := in_add 1 320 e219 i60 (in_c 1 rfl) rfl rfl
              refine g_goto 50 (gd rfl) rfl ?_
              have n50 : (u_109_19).toInt ≤ (z219).toInt := by (first | have a0 := oa6 j50_3 h1 ro_109_20 ro_109_19 i60 i219 | ((first | have a0 := in_u j50_3 | (have a0 := j50_3; unfold In at a0)); (first | have a1 := in_u h1 | (have a1 := h1; unfold In at a1)); (first | have a2 := in_u ro_109_20 | (have a2 := ro_109_20; unfold In at a2)); (first | have a3 := in_u ro_109_19 | (have a3 := ro_109_19; unfold In at a3)); (first | have a4 := in_u i60 | (have a4 := i60; unfold In at a4)); (first | have a5 := in_u i219 | (have a5 := i219; unfold In at a5)))); have a6 := t_add e219 i60 (in_c 1 rfl) rfl; (first | have a7 := oa2 ((in_c 1 rfl)) i59 | ((first | have a7 := in_u ((in_c 1 rfl)) | (have a7 := (in_c 1 rfl); unfold In at a7)); (first | have a8 := in_u i59 | (have a8 := i59; unfold In at a8)))); have a9 := t_add e59 ro_109_19 (in_c 160 rfl) rfl; (first | have a10 := in_u ((in_c 160 rfl)) | (have a10 := (in_c 160 rfl); unfold In at a10)); omega
              have n50a : (z219).toInt ≤ (u_109_19).toInt + 160 := by (first | have a0 := oa6 j50_3 h1 ro_109_20 ro_109_19 i60 i219 | ((first | have a0 := in_u j50_3 | (have a0 := j50_3; unfold In at a0)); (first | have a1 := in_u h1 | (have a1 := h1; unfold In at a1)); (first | have a2 := in_u ro_109_20 | (have a2 := ro_109_20; unfold In at a2)); (first | have a3 := in_u ro_109_19 | (have a3 := ro_109_19; unfold In at a3)); (first | have a4 := in_u i60 | (have a4 := i60; unfold In at a4)); (first | have a5 := in_u i219 | (have a5 := i219; unfold In at a5)))); have a6 := t_add e219 i60 (in_c 1 rfl) rfl; (first | have a7 := oa2 ((in_c 1 rfl)) i59 | ((first | have a7 := in_u ((in_c 1 rfl)) | (have a7 := (in_c 1 rfl); unfold In at a7)); (first | have a8 := in_u i59 | (have a8 := i59; unfold In at a8)))); have a9 := t_add e59 ro_109_19 (in_c 160 rfl) rfl; (first | have a10 := in_u ((in_c 160 rfl)) | (have a10 := (in_c 160 rfl); unfold In at a10)); omega
              have n50b : FQI s (x1).toNatClampNeg (x2) (sc50.1 131) (y36_3).toNatClampNeg ((z219).toInt - u_109_19.toInt).toNat := by rw [show ((z219).toInt - u_109_19.toInt).toNat = ((y50_4).toInt - u_109_19.toInt).toNat + 1 from (by (first | have a0 := oa6 j50_3 h1 ro_109_20 ro_109_19 i60 i219 | ((first | have a0 := in_u j50_3 | (have a0 := j50_3; unfold In at a0)); (first | have a1 := in_u h1 | (have a1 := h1; unfold In at a1)); (first | have a2 := in_u ro_109_20 | (have a2 := ro_109_20; unfold In at a2)); (first | have a3 := in_u ro_109_19 | (have a3 := ro_109_19; unfold In at a3)); (first | have a4 := in_u i60 | (have a4 := i60; unfold In at a4)); (first | have a5 := in_u i219 | (have a5 := i219; unfold In at a5)))); have a6 := t_add e219 i60 (in_c 1 rfl) rfl; (first | have a7 := oa2 ((in_c 1 rfl)) i59 | ((first | have a7 := in_u ((in_c 1 rfl)) | (have a7 := (in_c 1 rfl); unfold In at a7)); (first | have a8 := in_u i59 | (have a8 := i59; unfold In at a8)))); have a9 := t_add e59 ro_109_19 (in_c 160 rfl) rfl; (first | have a10 := in_u ((in_c 160 rfl)) | (have a10 := (in_c 160 rfl); unfold In at a10)); omega)]; exact fqi_no g50_0 (fun t1 t2 t3 t4 t5 => by exfalso; rw [(ix_k (y := y50_4) e_109_19 (by (first | have a0 := oa6 j50_3 h1 ro_109_20 ro_109_19 i60 i219 | ((first | have a0 := in_u j50_3 | (have a0 := j50_3; unfold In at a0)); (first | have a1 := in_u h1 | (have a1 := h1; unfold In at a1)); (first | have a2 := in_u ro_109_20 | (have a2 := ro_109_20; unfold In at a2)); (first | have a3 := in_u ro_109_19 | (have a3 := ro_109_19; unfold In at a3)); (first | have a4 := in_u i60 | (have a4 := i60; unfold In at a4)); (first | have a5 := in_u i219 | (have a5 := i219; unfold In at a5)))); have a6 := t_add e219 i60 (in_c 1 rfl) rfl; (first | have a7 := oa2 ((in_c 1 rfl)) i59 | ((first | have a7 := in_u ((in_c 1 rfl)) | (have a7 := (in_c 1 rfl); unfold In at a7)); (first | have a8 := in_u i59 | (have a8 := i59; unfold In at a8)))); have a9 := t_add e59 ro_109_19 (in_c 160 rfl) rfl; (first | have a10 := in_u ((in_c 160 rfl)) | (have a10 := (in_c 160 rfl); unfold In at a10)); omega) (by (first | have a0 := oa6 j50_3 h1 ro_109_20 ro_109_19 i60 i219 | ((first | have a0 := in_u j50_3 | (have a0 := j50_3; unfold In at a0)); (first | have a1 := in_u h1 | (have a1 := h1; unfold In at a1)); (first | have a2 := in_u ro_109_20 | (have a2 := ro_109_20; unfold In at a2)); (first | have a3 := in_u ro_109_19 | (have a3 := ro_109_19; unfold In at a3)); (first | have a4 := in_u i60 | (have a4 := i60; unfold In at a4)); (first | have a5 := in_u i219 | (have a5 := i219; unfold In at a5)))); have a6 := t_add e219 i60 (in_c 1 rfl) rfl; (first | have a7 := oa2 ((in_c 1 rfl)) i59 | ((first | have a7 := in_u ((in_c 1 rfl)) | (have a7 := (in_c 1 rfl); unfold In at a7)); (first | have a8 := in_u i59 | (have a8 := i59; unfold In at a8)))); have a9 := t_add e59 ro_109_19 (in_c 160 rfl) rfl; (first | have a10 := in_u ((in_c 160 rfl)) | (have a10 := (in_c 160 rfl); unfold In at a10)); omega)), ← hFc50.1 112 rfl, ← e69] at t1; exact t1 c70)
              exact gg_w (by first | exact Nat.le_add_right _ _ | exact gw2 | exact gw3 | exact gwe rfl | exact gwf rfl | exact gwg rfl | exact gwh rfl | omega) (gg_f (gf_cons rfl (gf_cons rfl (gf_cons rfl (gf_cons rfl (gf_cons rfl gf_nil))))) (ih50 sc50 z219 hIc50 hFc50 (in_w 0 31 j50_3 rfl) (in_w 0 400 i219 rfl) n50 n50a n50b (m_up mm50 (t_add e219 i60 (in_c 1 rfl) rfl) (in_w 1 1 (in_c 1 rfl) rfl))))
            · skip
              have i70 := z_ne 1 1 c70 i69 rfl
              refine g_iload_n 74 (gd rfl) rfl rfl ?_
              refine g_aload_n 75 (gd rfl) rfl rfl ?_
              refine g_getA (q2 := 113) 78 (gd rfl) rfl rfl rfl rfl ?_
              refine g_iload 80 (gd rfl) rfl rfl ?_
              refine g_iaload 81 (gd rfl) rfl (n := 480) rfl (in_ix i60 rfl) (fun z80 e80 => ?_)
              have i80 := inv_I hIc50 (n := 480) (t := 0) 0 31 rfl (in_ix i60 rfl) rfl e80
              refine g_calls (As := [.int x2, .int z80]) (r := []) 84 (gd rfl) rfl rfl rfl rfl rfl (Nat.le_of_ble_eq_true rfl) (mc := 0) (ms := 0) (Nat.zero_le _) (Nat.zero_le _) (P := fun v u => _) ?_ (fun v u h => h)
              intro po81 xx81 hp81 hx81
              refine g_enter2 (k := 311) (N := 300) (by first | exact dq1 hd rfl | exact dq0 hd rfl | exact dq2 hd rfl | exact dq3 hd rfl | omega) rfl (Nat.le_of_ble_eq_true rfl) ?_
              refine g_iload_n 1 (gd rfl) rfl rfl ?_
              refine g_iload_n 2 (gd rfl) rfl rfl ?_
              refine g_ishr 3 (gd rfl) rfl (fun z81x2 e81x2 => ?_)
              refine g_iconst 1 4 (gd rfl) rfl rfl ?_
              refine g_iand 5 (gd rfl) rfl (fun z81x4 e81x4 => ?_)
              have i81x4 := in_and2 e81x4 (in_c 1 rfl) rfl
              refine g_iconst 1 6 (gd rfl) rfl rfl ?_
              refine g_cmp_ne 9 13 (gd rfl) rfl rfl (fun c81x6 => ?_) (fun c81x6 => ?_)
              · skip
                have i81x6 := r_ne1 0 0 c81x6 i81x4 (in_c 1 rfl) rfl
                refine g_iconst 0 14 (gd rfl) rfl rfl ?_
                refine g_ireturn (gd rfl) rfl (nb01 (in_w 0 1 (in_c 0 rfl) rfl)) (hp81 _ _ ?_)
                show GG _ _ _ _ _ _ _ _ [.int (Int32.ofInt 0)] _ _ _
                refine g_if_eq 87 219 (gd rfl) rfl rfl (fun c84 => ?_) (fun c84 => ?_)
                · skip
                  refine g_iinc 222 (gd rfl) rfl rfl (Nat.le_of_ble_eq_true rfl) (fun z219 e219 => ?_)
                  have i219 := in_add 1 320 e219 i60 (in_c 1 rfl) rfl rfl
                  refine g_goto 50 (gd rfl) rfl ?_
                  have n50 : (u_109_19).toInt ≤ (z219).toInt := by (first | have a0 := oa6 j50_3 h1 ro_109_20 ro_109_19 i60 i219 | ((first | have a0 := in_u j50_3 | (have a0 := j50_3; unfold In at a0)); (first | have a1 := in_u h1 | (have a1 := h1; unfold In at a1)); (first | have a2 := in_u ro_109_20 | (have a2 := ro_109_20; unfold In at a2)); (first | have a3 := in_u ro_109_19 | (have a3 := ro_109_19; unfold In at a3)); (first | have a4 := in_u i60 | (have a4 := i60; unfold In at a4)); (first | have a5 := in_u i219 | (have a5 := i219; unfold In at a5)))); have a6 := t_add e219 i60 (in_c 1 rfl) rfl; (first | have a7 := oa2 ((in_c 1 rfl)) i59 | ((first | have a7 := in_u ((in_c 1 rfl)) | (have a7 := (in_c 1 rfl); unfold In at a7)); (first | have a8 := in_u i59 | (have a8 := i59; unfold In at a8)))); have a9 := t_add e59 ro_109_19 (in_c 160 rfl) rfl; (first | have a10 := in_u ((in_c 160 rfl)) | (have a10 := (in_c 160 rfl); unfold In at a10)); omega
                  have n50a : (z219).toInt ≤ (u_109_19).toInt + 160 := by (first | have a0 := oa6 j50_3 h1 ro_109_20 ro_109_19 i60 i219 | ((first | have a0 := in_u j50_3 | (have a0 := j50_3; unfold In at a0)); (first | have a1 := in_u h1 | (have a1 := h1; unfold In at a1)); (first | have a2 := in_u ro_109_20 | (have a2 := ro_109_20; unfold In at a2)); (first | have a3 := in_u ro_109_19 | (have a3 := ro_109_19; unfold In at a3)); (first | have a4 := in_u i60 | (have a4 := i60; unfold In at a4)); (first | have a5 := in_u i219 | (have a5 := i219; unfold In at a5)))); have a6 := t_add e219 i60 (in_c 1 rfl) rfl; (first | have a7 := oa2 ((in_c 1 rfl)) i59 | ((first | have a7 := in_u ((in_c 1 rfl)) | (have a7 := (in_c 1 rfl); unfold In at a7)); (first | have a8 := in_u i59 | (have a8 := i59; unfold In at a8)))); have a9 := t_add e59 ro_109_19 (in_c 160 rfl) rfl; (first | have a10 := in_u ((in_c 160 rfl)) | (have a10 := (in_c 160 rfl); unfold In at a10)); omega
                  have n50b : FQI s (x1).toNatClampNeg (x2) (sc50.1 131) (y36_3).toNatClampNeg ((z219).toInt - u_109_19.toInt).toNat := by rw [show ((z219).toInt - u_109_19.toInt).toNat = ((y50_4).toInt - u_109_19.toInt).toNat + 1 from (by (first | have a0 := oa6 j50_3 h1 ro_109_20 ro_109_19 i60 i219 | ((first | have a0 := in_u j50_3 | (have a0 := j50_3; unfold In at a0)); (first | have a1 := in_u h1 | (have a1 := h1; unfold In at a1)); (first | have a2 := in_u ro_109_20 | (have a2 := ro_109_20; unfold In at a2)); (first | have a3 := in_u ro_109_19 | (have a3 := ro_109_19; unfold In at a3)); (first | have a4 := in_u i60 | (have a4 := i60; unfold In at a4)); (first | have a5 := in_u i219 | (have a5 := i219; unfold In at a5)))); have a6 := t_add e219 i60 (in_c 1 rfl) rfl; (first | have a7 := oa2 ((in_c 1 rfl)) i59 | ((first | have a7 := in_u ((in_c 1 rfl)) | (have a7 := (in_c 1 rfl); unfold In at a7)); (first | have a8 := in_u i59 | (have a8 := i59; unfold In at a8)))); have a9 := t_add e59 ro_109_19 (in_c 160 rfl) rfl; (first | have a10 := in_u ((in_c 160 rfl)) | (have a10 := (in_c 160 rfl); unfold In at a10)); omega)]; exact fqi_no g50_0 (fun t1 t2 t3 t4 t5 => by exfalso; have hb := bt_no e81x2 e81x4 i80 c81x6; rw [(ix_k (y := y50_4) e_109_19 (by (first | have a0 := oa6 j50_3 h1 ro_109_20 ro_109_19 i60 i219 | ((first | have a0 := in_u j50_3 | (have a0 := j50_3; unfold In at a0)); (first | have a1 := in_u h1 | (have a1 := h1; unfold In at a1)); (first | have a2 := in_u ro_109_20 | (have a2 := ro_109_20; unfold In at a2)); (first | have a3 := in_u ro_109_19 | (have a3 := ro_109_19; unfold In at a3)); (first | have a4 := in_u i60 | (have a4 := i60; unfold In at a4)); (first | have a5 := in_u i219 | (have a5 := i219; unfold In at a5)))); have a6 := t_add e219 i60 (in_c 1 rfl) rfl; (first | have a7 := oa2 ((in_c 1 rfl)) i59 | ((first | have a7 := in_u ((in_c 1 rfl)) | (have a7 := (in_c 1 rfl); unfold In at a7)); (first | have a8 := in_u i59 | (have a8 := i59; unfold In at a8)))); have a9 := t_add e59 ro_109_19 (in_c 160 rfl) rfl; (first | have a10 := in_u ((in_c 160 rfl)) | (have a10 := (in_c 160 rfl); unfold In at a10)); omega) (by (first | have a0 := oa6 j50_3 h1 ro_109_20 ro_109_19 i60 i219 | ((first | have a0 := in_u j50_3 | (have a0 := j50_3; unfold In at a0)); (first | have a1 := in_u h1 | (have a1 := h1; unfold In at a1)); (first | have a2 := in_u ro_109_20 | (have a2 := ro_109_20; unfold In at a2)); (first | have a3 := in_u ro_109_19 | (have a3 := ro_109_19; unfold In at a3)); (first | have a4 := in_u i60 | (have a4 := i60; unfold In at a4)); (first | have a5 := in_u i219 | (have a5 := i219; unfold In at a5)))); have a6 := t_add e219 i60 (in_c 1 rfl) rfl; (first | have a7 := oa2 ((in_c 1 rfl)) i59 | ((first | have a7 := in_u ((in_c 1 rfl)) | (have a7 := (in_c 1 rfl); unfold In at a7)); (first | have a8 := in_u i59 | (have a8 := i59; unfold In at a8)))); have a9 := t_add e59 ro_109_19 (in_c 160 rfl) rfl; (first | have a10 := in_u ((in_c 160 rfl)) | (have a10 := (in_c 160 rfl); unfold In at a10)); omega)), ← hFc50.1 113 rfl, ← e80, hb] at t2; cases t2)
                  exact gg_w (by first | exact Nat.le_add_right _ _ | exact gw2 | exact gw3 | exact gwe rfl | exact gwf rfl | exact gwg rfl | exact gwh rfl | omega) (gg_f (gf_cons rfl (gf_cons rfl (gf_cons rfl (gf_cons rfl (gf_cons rfl gf_nil))))) (ih50 sc50 z219 hIc50 hFc50 (in_w 0 31 j50_3 rfl) (in_w 0 400 i219 rfl) n50 n50a n50b (m_up mm50 (t_add e219 i60 (in_c 1 rfl) rfl) (in_w 1 1 (in_c 1 rfl) rfl))))
                · skip
                  exact zn_ne c84 (in_c 0 rfl) rfl
              · skip
                have i81x6 := r_eq1 1 1 c81x6 i81x4 (in_c 1 rfl) rfl
                refine g_iconst 1 10 (gd rfl) rfl rfl ?_
                refine g_goto 14 (gd rfl) rfl ?_
                refine g_ireturn (gd rfl) rfl (nb01 (in_w 0 1 (in_c 1 rfl) rfl)) (hp81 _ _ ?_)
                show GG _ _ _ _ _ _ _ _ [.int (Int32.ofInt 1)] _ _ _
                refine g_if_eq 87 219 (gd rfl) rfl rfl (fun c84 => ?_) (fun c84 => ?_)
                · skip
                  exact zn_eq c84 (in_c 1 rfl) rfl
                · skip
                  refine g_iload_n 88 (gd rfl) rfl rfl ?_
                  refine g_aload_n 89 (gd rfl) rfl rfl ?_
                  refine g_getA (q2 := 114) 92 (gd rfl) rfl rfl rfl rfl ?_
                  refine g_iload 94 (gd rfl) rfl rfl ?_
                  refine g_iaload 95 (gd rfl) rfl (n := 480) rfl (in_ix i60 rfl) (fun z94 e94 => ?_)
                  have i94 := inv_I hIc50 (n := 480) (t := 0) 0 31 rfl (in_ix i60 rfl) rfl e94
                  refine g_calls (As := [.int x2, .int z94]) (r := []) 98 (gd rfl) rfl rfl rfl rfl rfl (Nat.le_of_ble_eq_true rfl) (mc := 0) (ms := 0) (Nat.zero_le _) (Nat.zero_le _) (P := fun v u => _) ?_ (fun v u h => h)
                  intro po95 xx95 hp95 hx95
                  refine g_enter2 (k := 311) (N := 300) (by first | exact dq1 hd rfl | exact dq0 hd rfl | exact dq2 hd rfl | exact dq3 hd rfl | omega) rfl (Nat.le_of_ble_eq_true rfl) ?_
                  refine g_iload_n 1 (gd rfl) rfl rfl ?_
                  refine g_iload_n 2 (gd rfl) rfl rfl ?_
                  refine g_ishr 3 (gd rfl) rfl (fun z95x2 e95x2 => ?_)
                  refine g_iconst 1 4 (gd rfl) rfl rfl ?_
                  refine g_iand 5 (gd rfl) rfl (fun z95x4 e95x4 => ?_)
                  have i95x4 := in_and2 e95x4 (in_c 1 rfl) rfl
                  refine g_iconst 1 6 (gd rfl) rfl rfl ?_
                  refine g_cmp_ne 9 13 (gd rfl) rfl rfl (fun c95x6 => ?_) (fun c95x6 => ?_)
                  · skip
                    have i95x6 := r_ne1 0 0 c95x6 i95x4 (in_c 1 rfl) rfl
                    refine g_iconst 0 14 (gd rfl) rfl rfl ?_
                    refine g_ireturn (gd rfl) rfl (nb01 (in_w 0 1 (in_c 0 rfl) rfl)) (hp95 _ _ ?_)
                    show GG _ _ _ _ _ _ _ _ [.int (Int32.ofInt 0)] _ _ _
                    refine g_if_eq 101 219 (gd rfl) rfl rfl (fun c98 => ?_) (fun c98 => ?_)
                    · skip
                      refine g_iinc 222 (gd rfl) rfl rfl (Nat.le_of_ble_eq_true rfl) (fun z219 e219 => ?_)
                      have i219 := in_add 1 320 e219 i60 (in_c 1 rfl) rfl rfl
                      refine g_goto 50 (gd rfl) rfl ?_
                      have n50 : (u_109_19).toInt ≤ (z219).toInt := by (first | have a0 := oa6 j50_3 h1 ro_109_20 ro_109_19 i60 i219 | ((first | have a0 := in_u j50_3 | (have a0 := j50_3; unfold In at a0)); (first | have a1 := in_u h1 | (have a1 := h1; unfold In at a1)); (first | have a2 := in_u ro_109_20 | (have a2 := ro_109_20; unfold In at a2)); (first | have a3 := in_u ro_109_19 | (have a3 := ro_109_19; unfold In at a3)); (first | have a4 := in_u i60 | (have a4 := i60; unfold In at a4)); (first | have a5 := in_u i219 | (have a5 := i219; unfold In at a5)))); have a6 := t_add e219 i60 (in_c 1 rfl) rfl; (first | have a7 := oa2 ((in_c 1 rfl)) i59 | ((first | have a7 := in_u ((in_c 1 rfl)) | (have a7 := (in_c 1 rfl); unfold In at a7)); (first | have a8 := in_u i59 | (have a8 := i59; unfold In at a8)))); have a9 := t_add e59 ro_109_19 (in_c 160 rfl) rfl; (first | have a10 := in_u ((in_c 160 rfl)) | (have a10 := (in_c 160 rfl); unfold In at a10)); omega
                      have n50a : (z219).toInt ≤ (u_109_19).toInt + 160 := by (first | have a0 := oa6 j50_3 h1 ro_109_20 ro_109_19 i60 i219 | ((first | have a0 := in_u j50_3 | (have a0 := j50_3; unfold In at a0)); (first | have a1 := in_u h1 | (have a1 := h1; unfold In at a1)); (first | have a2 := in_u ro_109_20 | (have a2 := ro_109_20; unfold In at a2)); (first | have a3 := in_u ro_109_19 | (have a3 := ro_109_19; unfold In at a3)); (first | have a4 := in_u i60 | (have a4 := i60; unfold In at a4)); (first | have a5 := in_u i219 | (have a5 := i219; unfold In at a5)))); have a6 := t_add e219 i60 (in_c 1 rfl) rfl; (first | have a7 := oa2 ((in_c 1 rfl)) i59 | ((first | have a7 := in_u ((in_c 1 rfl)) | (have a7 := (in_c 1 rfl); unfold In at a7)); (first | have a8 := in_u i59 | (have a8 := i59; unfold In at a8)))); have a9 := t_add e59 ro_109_19 (in_c 160 rfl) rfl; (first | have a10 := in_u ((in_c 160 rfl)) | (have a10 := (in_c 160 rfl); unfold In at a10)); omega
                      have n50b : FQI s (x1).toNatClampNeg (x2) (sc50.1 131) (y36_3).toNatClampNeg ((z219).toInt - u_109_19.toInt).toNat := by rw [show ((z219).toInt - u_109_19.toInt).toNat = ((y50_4).toInt - u_109_19.toInt).toNat + 1 from (by (first | have a0 := oa6 j50_3 h1 ro_109_20 ro_109_19 i60 i219 | ((first | have a0 := in_u j50_3 | (have a0 := j50_3; unfold In at a0)); (first | have a1 := in_u h1 | (have a1 := h1; unfold In at a1)); (first | have a2 := in_u ro_109_20 | (have a2 := ro_109_20; unfold In at a2)); (first | have a3 := in_u ro_109_19 | (have a3 := ro_109_19; unfold In at a3)); (first | have a4 := in_u i60 | (have a4 := i60; unfold In at a4)); (first | have a5 := in_u i219 | (have a5 := i219; unfold In at a5)))); have a6 := t_add e219 i60 (in_c 1 rfl) rfl; (first | have a7 := oa2 ((in_c 1 rfl)) i59 | ((first | have a7 := in_u ((in_c 1 rfl)) | (have a7 := (in_c 1 rfl); unfold In at a7)); (first | have a8 := in_u i59 | (have a8 := i59; unfold In at a8)))); have a9 := t_add e59 ro_109_19 (in_c 160 rfl) rfl; (first | have a10 := in_u ((in_c 160 rfl)) | (have a10 := (in_c 160 rfl); unfold In at a10)); omega)]; exact fqi_no g50_0 (fun t1 t2 t3 t4 t5 => by exfalso; have hb := bt_no e95x2 e95x4 i94 c95x6; rw [(ix_k (y := y50_4) e_109_19 (by (first | have a0 := oa6 j50_3 h1 ro_109_20 ro_109_19 i60 i219 | ((first | have a0 := in_u j50_3 | (have a0 := j50_3; unfold In at a0)); (first | have a1 := in_u h1 | (have a1 := h1; unfold In at a1)); (first | have a2 := in_u ro_109_20 | (have a2 := ro_109_20; unfold In at a2)); (first | have a3 := in_u ro_109_19 | (have a3 := ro_109_19; unfold In at a3)); (first | have a4 := in_u i60 | (have a4 := i60; unfold In at a4)); (first | have a5 := in_u i219 | (have a5 := i219; unfold In at a5)))); have a6 := t_add e219 i60 (in_c 1 rfl) rfl; (first | have a7 := oa2 ((in_c 1 rfl)) i59 | ((first | have a7 := in_u ((in_c 1 rfl)) | (have a7 := (in_c 1 rfl); unfold In at a7)); (first | have a8 := in_u i59 | (have a8 := i59; unfold In at a8)))); have a9 := t_add e59 ro_109_19 (in_c 160 rfl) rfl; (first | have a10 := in_u ((in_c 160 rfl)) | (have a10 := (in_c 160 rfl); unfold In at a10)); omega) (by (first | have a0 := oa6 j50_3 h1 ro_109_20 ro_109_19 i60 i219 | ((first | have a0 := in_u j50_3 | (have a0 := j50_3; unfold In at a0)); (first | have a1 := in_u h1 | (have a1 := h1; unfold In at a1)); (first | have a2 := in_u ro_109_20 | (have a2 := ro_109_20; unfold In at a2)); (first | have a3 := in_u ro_109_19 | (have a3 := ro_109_19; unfold In at a3)); (first | have a4 := in_u i60 | (have a4 := i60; unfold In at a4)); (first | have a5 := in_u i219 | (have a5 := i219; unfold In at a5)))); have a6 := t_add e219 i60 (in_c 1 rfl) rfl; (first | have a7 := oa2 ((in_c 1 rfl)) i59 | ((first | have a7 := in_u ((in_c 1 rfl)) | (have a7 := (in_c 1 rfl); unfold In at a7)); (first | have a8 := in_u i59 | (have a8 := i59; unfold In at a8)))); have a9 := t_add e59 ro_109_19 (in_c 160 rfl) rfl; (first | have a10 := in_u ((in_c 160 rfl)) | (have a10 := (in_c 160 rfl); unfold In at a10)); omega)), ← hFc50.1 114 rfl, ← e94, hb] at t3; cases t3)
                      exact gg_w (by first | exact Nat.le_add_right _ _ | exact gw2 | exact gw3 | exact gwe rfl | exact gwf rfl | exact gwg rfl | exact gwh rfl | omega) (gg_f (gf_cons rfl (gf_cons rfl (gf_cons rfl (gf_cons rfl (gf_cons rfl gf_nil))))) (ih50 sc50 z219 hIc50 hFc50 (in_w 0 31 j50_3 rfl) (in_w 0 400 i219 rfl) n50 n50a n50b (m_up mm50 (t_add e219 i60 (in_c 1 rfl) rfl) (in_w 1 1 (in_c 1 rfl) rfl))))
                    · skip
                      exact zn_ne c98 (in_c 0 rfl) rfl
                  · skip
                    have i95x6 := r_eq1 1 1 c95x6 i95x4 (in_c 1 rfl) rfl
                    refine g_iconst 1 10 (gd rfl) rfl rfl ?_
                    refine g_goto 14 (gd rfl) rfl ?_
                    refine g_ireturn (gd rfl) rfl (nb01 (in_w 0 1 (in_c 1 rfl) rfl)) (hp95 _ _ ?_)
                    show GG _ _ _ _ _ _ _ _ [.int (Int32.ofInt 1)] _ _ _
                    refine g_if_eq 101 219 (gd rfl) rfl rfl (fun c98 => ?_) (fun c98 => ?_)
                    · skip
                      exact zn_eq c98 (in_c 1 rfl) rfl
                    · skip
                      refine g_aload_n 102 (gd rfl) rfl rfl ?_
                      refine g_getA (q2 := 130) 105 (gd rfl) rfl rfl rfl rfl ?_
                      refine g_aload_n 106 (gd rfl) rfl rfl ?_
                      refine g_getA (q2 := 114) 109 (gd rfl) rfl rfl rfl rfl ?_
                      refine g_iload 111 (gd rfl) rfl rfl ?_
                      refine g_iaload 112 (gd rfl) rfl (n := 480) rfl (in_ix i60 rfl) (fun z111 e111 => ?_)
                      have q111 : z94 = z111 := (e94).trans e111.symm
                      subst q111
                      refine g_laload 113 (gd rfl) rfl (n := 32) rfl (in_ix i94 rfl) (fun z112 e112 => ?_)
                      refine g_ldc2_w 9000000000000000 116 (gd rfl) rfl rfl ?_
                      refine g_lcmp 117 (gd rfl) rfl (fun z116 e116 => ?_)
                      have i116 := lc_in e116
                      refine g_if_ge 120 219 (gd rfl) rfl rfl (fun c117 => ?_) (fun c117 => ?_)
                      · skip
                        have i117 := z_ge 0 1 c117 i116 rfl
                        have c117a := lc_ge e116 c117
                        have i117a := lr_le2 9000000000000000 9223372036854775807 c117a (l_c 9000000000000000 rfl) (l_rng z112) rfl
                        refine g_iinc 222 (gd rfl) rfl rfl (Nat.le_of_ble_eq_true rfl) (fun z219 e219 => ?_)
                        have i219 := in_add 1 320 e219 i60 (in_c 1 rfl) rfl rfl
                        refine g_goto 50 (gd rfl) rfl ?_
                        have n50 : (u_109_19).toInt ≤ (z219).toInt := by (first | have a0 := oa6 j50_3 h1 ro_109_20 ro_109_19 i60 i219 | ((first | have a0 := in_u j50_3 | (have a0 := j50_3; unfold In at a0)); (first | have a1 := in_u h1 | (have a1 := h1; unfold In at a1)); (first | have a2 := in_u ro_109_20 | (have a2 := ro_109_20; unfold In at a2)); (first | have a3 := in_u ro_109_19 | (have a3 := ro_109_19; unfold In at a3)); (first | have a4 := in_u i60 | (have a4 := i60; unfold In at a4)); (first | have a5 := in_u i219 | (have a5 := i219; unfold In at a5)))); have a6 := t_add e219 i60 (in_c 1 rfl) rfl; (first | have a7 := oa2 ((in_c 1 rfl)) i59 | ((first | have a7 := in_u ((in_c 1 rfl)) | (have a7 := (in_c 1 rfl); unfold In at a7)); (first | have a8 := in_u i59 | (have a8 := i59; unfold In at a8)))); have a9 := t_add e59 ro_109_19 (in_c 160 rfl) rfl; (first | have a10 := in_u ((in_c 160 rfl)) | (have a10 := (in_c 160 rfl); unfold In at a10)); omega
                        have n50a : (z219).toInt ≤ (u_109_19).toInt + 160 := by (first | have a0 := oa6 j50_3 h1 ro_109_20 ro_109_19 i60 i219 | ((first | have a0 := in_u j50_3 | (have a0 := j50_3; unfold In at a0)); (first | have a1 := in_u h1 | (have a1 := h1; unfold In at a1)); (first | have a2 := in_u ro_109_20 | (have a2 := ro_109_20; unfold In at a2)); (first | have a3 := in_u ro_109_19 | (have a3 := ro_109_19; unfold In at a3)); (first | have a4 := in_u i60 | (have a4 := i60; unfold In at a4)); (first | have a5 := in_u i219 | (have a5 := i219; unfold In at a5)))); have a6 := t_add e219 i60 (in_c 1 rfl) rfl; (first | have a7 := oa2 ((in_c 1 rfl)) i59 | ((first | have a7 := in_u ((in_c 1 rfl)) | (have a7 := (in_c 1 rfl); unfold In at a7)); (first | have a8 := in_u i59 | (have a8 := i59; unfold In at a8)))); have a9 := t_add e59 ro_109_19 (in_c 160 rfl) rfl; (first | have a10 := in_u ((in_c 160 rfl)) | (have a10 := (in_c 160 rfl); unfold In at a10)); omega
                        have n50b : FQI s (x1).toNatClampNeg (x2) (sc50.1 131) (y36_3).toNatClampNeg ((z219).toInt - u_109_19.toInt).toNat := by rw [show ((z219).toInt - u_109_19.toInt).toNat = ((y50_4).toInt - u_109_19.toInt).toNat + 1 from (by (first | have a0 := oa6 j50_3 h1 ro_109_20 ro_109_19 i60 i219 | ((first | have a0 := in_u j50_3 | (have a0 := j50_3; unfold In at a0)); (first | have a1 := in_u h1 | (have a1 := h1; unfold In at a1)); (first | have a2 := in_u ro_109_20 | (have a2 := ro_109_20; unfold In at a2)); (first | have a3 := in_u ro_109_19 | (have a3 := ro_109_19; unfold In at a3)); (first | have a4 := in_u i60 | (have a4 := i60; unfold In at a4)); (first | have a5 := in_u i219 | (have a5 := i219; unfold In at a5)))); have a6 := t_add e219 i60 (in_c 1 rfl) rfl; (first | have a7 := oa2 ((in_c 1 rfl)) i59 | ((first | have a7 := in_u ((in_c 1 rfl)) | (have a7 := (in_c 1 rfl); unfold In at a7)); (first | have a8 := in_u i59 | (have a8 := i59; unfold In at a8)))); have a9 := t_add e59 ro_109_19 (in_c 160 rfl) rfl; (first | have a10 := in_u ((in_c 160 rfl)) | (have a10 := (in_c 160 rfl); unfold In at a10)); omega)]; exact fqi_no g50_0 (fun t1 t2 t3 t4 t5 => by exfalso; rw [(ix_k (y := y50_4) e_109_19 (by (first | have a0 := oa6 j50_3 h1 ro_109_20 ro_109_19 i60 i219 | ((first | have a0 := in_u j50_3 | (have a0 := j50_3; unfold In at a0)); (first | have a1 := in_u h1 | (have a1 := h1; unfold In at a1)); (first | have a2 := in_u ro_109_20 | (have a2 := ro_109_20; unfold In at a2)); (first | have a3 := in_u ro_109_19 | (have a3 := ro_109_19; unfold In at a3)); (first | have a4 := in_u i60 | (have a4 := i60; unfold In at a4)); (first | have a5 := in_u i219 | (have a5 := i219; unfold In at a5)))); have a6 := t_add e219 i60 (in_c 1 rfl) rfl; (first | have a7 := oa2 ((in_c 1 rfl)) i59 | ((first | have a7 := in_u ((in_c 1 rfl)) | (have a7 := (in_c 1 rfl); unfold In at a7)); (first | have a8 := in_u i59 | (have a8 := i59; unfold In at a8)))); have a9 := t_add e59 ro_109_19 (in_c 160 rfl) rfl; (first | have a10 := in_u ((in_c 160 rfl)) | (have a10 := (in_c 160 rfl); unfold In at a10)); omega) (by (first | have a0 := oa6 j50_3 h1 ro_109_20 ro_109_19 i60 i219 | ((first | have a0 := in_u j50_3 | (have a0 := j50_3; unfold In at a0)); (first | have a1 := in_u h1 | (have a1 := h1; unfold In at a1)); (first | have a2 := in_u ro_109_20 | (have a2 := ro_109_20; unfold In at a2)); (first | have a3 := in_u ro_109_19 | (have a3 := ro_109_19; unfold In at a3)); (first | have a4 := in_u i60 | (have a4 := i60; unfold In at a4)); (first | have a5 := in_u i219 | (have a5 := i219; unfold In at a5)))); have a6 := t_add e219 i60 (in_c 1 rfl) rfl; (first | have a7 := oa2 ((in_c 1 rfl)) i59 | ((first | have a7 := in_u ((in_c 1 rfl)) | (have a7 := (in_c 1 rfl); unfold In at a7)); (first | have a8 := in_u i59 | (have a8 := i59; unfold In at a8)))); have a9 := t_add e59 ro_109_19 (in_c 160 rfl) rfl; (first | have a10 := in_u ((in_c 160 rfl)) | (have a10 := (in_c 160 rfl); unfold In at a10)); omega)), ← hFc50.1 114 rfl, ← e94, ← hFc50.2.1 130 rfl, ← e112] at t4; have h := i117a.1; omega)
                        exact gg_w (by first | exact Nat.le_add_right _ _ | exact gw2 | exact gw3 | exact gwe rfl | exact gwf rfl | exact gwg rfl | exact gwh rfl | omega) (gg_f (gf_cons rfl (gf_cons rfl (gf_cons rfl (gf_cons rfl (gf_cons rfl gf_nil))))) (ih50 sc50 z219 hIc50 hFc50 (in_w 0 31 j50_3 rfl) (in_w 0 400 i219 rfl) n50 n50a n50b (m_up mm50 (t_add e219 i60 (in_c 1 rfl) rfl) (in_w 1 1 (in_c 1 rfl) rfl))))
                      · skip
                        have i117 := z_lt (-1) (-1) c117 i116 rfl
                        have c117a := lc_lt e116 c117
                        have i117a := lr_lt1 (-9223372036854775808) 8999999999999999 c117a (l_rng z112) (l_c 9000000000000000 rfl) rfl
                        refine g_aload_n 121 (gd rfl) rfl rfl ?_
                        refine g_getA (q2 := 130) 124 (gd rfl) rfl rfl rfl rfl ?_
                        refine g_aload_n 125 (gd rfl) rfl rfl ?_
                        refine g_getA (q2 := 113) 128 (gd rfl) rfl rfl rfl rfl ?_
                        refine g_iload 130 (gd rfl) rfl rfl ?_
                        refine g_iaload 131 (gd rfl) rfl (n := 480) rfl (in_ix i60 rfl) (fun z130 e130 => ?_)
                        have q130 : z80 = z130 := (e80).trans e130.symm
                        subst q130
                        refine g_laload 132 (gd rfl) rfl (n := 32) rfl (in_ix i80 rfl) (fun z131 e131 => ?_)
                        refine g_aload_n 133 (gd rfl) rfl rfl ?_
                        refine g_getA (q2 := 130) 136 (gd rfl) rfl rfl rfl rfl ?_
                        refine g_aload_n 137 (gd rfl) rfl rfl ?_
                        refine g_getA (q2 := 114) 140 (gd rfl) rfl rfl rfl rfl ?_
                        refine g_iload 142 (gd rfl) rfl rfl ?_
                        refine g_iaload 143 (gd rfl) rfl (n := 480) rfl (in_ix i60 rfl) (fun z142 e142 => ?_)
                        have q142 : z94 = z142 := (e94).trans e142.symm
                        subst q142
                        refine g_laload 144 (gd rfl) rfl (n := 32) rfl (in_ix i94 rfl) (fun z143 e143 => ?_)
                        refine g_aload_n 145 (gd rfl) rfl rfl ?_
                        refine g_getA (q2 := 115) 148 (gd rfl) rfl rfl rfl rfl ?_
                        refine g_iload 150 (gd rfl) rfl rfl ?_
                        refine g_iaload 151 (gd rfl) rfl (n := 480) rfl (in_ix i60 rfl) (fun z150 e150 => ?_)
                        have i150 := inv_I hIc50 (n := 480) (t := 0) (-1000000) 1000000 rfl (in_ix i60 rfl) rfl e150
                        refine g_i2l 152 (gd rfl) rfl (fun z151 e151 => ?_)
                        have i151 := l_i e151 i150
                        refine g_ladd 153 (gd rfl) rfl (fun z152 e152 => ?_)
                        refine g_lcmp 154 (gd rfl) rfl (fun z153 e153 => ?_)
                        have i153 := lc_in e153
                        refine g_if_ne 157 219 (gd rfl) rfl rfl (fun c154 => ?_) (fun c154 => ?_)
                        · skip
                          have c154a := lc_ne e153 c154
                          refine g_iinc 222 (gd rfl) rfl rfl (Nat.le_of_ble_eq_true rfl) (fun z219 e219 => ?_)
                          have i219 := in_add 1 320 e219 i60 (in_c 1 rfl) rfl rfl
                          refine g_goto 50 (gd rfl) rfl ?_
                          have n50 : (u_109_19).toInt ≤ (z219).toInt := by (first | have a0 := oa6 j50_3 h1 ro_109_20 ro_109_19 i60 i219 | ((first | have a0 := in_u j50_3 | (have a0 := j50_3; unfold In at a0)); (first | have a1 := in_u h1 | (have a1 := h1; unfold In at a1)); (first | have a2 := in_u ro_109_20 | (have a2 := ro_109_20; unfold In at a2)); (first | have a3 := in_u ro_109_19 | (have a3 := ro_109_19; unfold In at a3)); (first | have a4 := in_u i60 | (have a4 := i60; unfold In at a4)); (first | have a5 := in_u i219 | (have a5 := i219; unfold In at a5)))); have a6 := t_add e219 i60 (in_c 1 rfl) rfl; (first | have a7 := in_u ((in_c 1 rfl)) | (have a7 := (in_c 1 rfl); unfold In at a7)); have a8 := tx_i2l e151; (first | have a9 := oa2 i150 i59 | ((first | have a9 := in_u i150 | (have a9 := i150; unfold In at a9)); (first | have a10 := in_u i59 | (have a10 := i59; unfold In at a10)))); have a11 := t_add e59 ro_109_19 (in_c 160 rfl) rfl; (first | have a12 := in_u ((in_c 160 rfl)) | (have a12 := (in_c 160 rfl); unfold In at a12)); omega
                          have n50a : (z219).toInt ≤ (u_109_19).toInt + 160 := by (first | have a0 := oa6 j50_3 h1 ro_109_20 ro_109_19 i60 i219 | ((first | have a0 := in_u j50_3 | (have a0 := j50_3; unfold In at a0)); (first | have a1 := in_u h1 | (have a1 := h1; unfold In at a1)); (first | have a2 := in_u ro_109_20 | (have a2 := ro_109_20; unfold In at a2)); (first | have a3 := in_u ro_109_19 | (have a3 := ro_109_19; unfold In at a3)); (first | have a4 := in_u i60 | (have a4 := i60; unfold In at a4)); (first | have a5 := in_u i219 | (have a5 := i219; unfold In at a5)))); have a6 := t_add e219 i60 (in_c 1 rfl) rfl; (first | have a7 := in_u ((in_c 1 rfl)) | (have a7 := (in_c 1 rfl); unfold In at a7)); have a8 := tx_i2l e151; (first | have a9 := oa2 i150 i59 | ((first | have a9 := in_u i150 | (have a9 := i150; unfold In at a9)); (first | have a10 := in_u i59 | (have a10 := i59; unfold In at a10)))); have a11 := t_add e59 ro_109_19 (in_c 160 rfl) rfl; (first | have a12 := in_u ((in_c 160 rfl)) | (have a12 := (in_c 160 rfl); unfold In at a12)); omega
                          have n50b : FQI s (x1).toNatClampNeg (x2) (sc50.1 131) (y36_3).toNatClampNeg ((z219).toInt - u_109_19.toInt).toNat := by rw [show ((z219).toInt - u_109_19.toInt).toNat = ((y50_4).toInt - u_109_19.toInt).toNat + 1 from (by (first | have a0 := oa6 j50_3 h1 ro_109_20 ro_109_19 i60 i219 | ((first | have a0 := in_u j50_3 | (have a0 := j50_3; unfold In at a0)); (first | have a1 := in_u h1 | (have a1 := h1; unfold In at a1)); (first | have a2 := in_u ro_109_20 | (have a2 := ro_109_20; unfold In at a2)); (first | have a3 := in_u ro_109_19 | (have a3 := ro_109_19; unfold In at a3)); (first | have a4 := in_u i60 | (have a4 := i60; unfold In at a4)); (first | have a5 := in_u i219 | (have a5 := i219; unfold In at a5)))); have a6 := t_add e219 i60 (in_c 1 rfl) rfl; (first | have a7 := in_u ((in_c 1 rfl)) | (have a7 := (in_c 1 rfl); unfold In at a7)); have a8 := tx_i2l e151; (first | have a9 := oa2 i150 i59 | ((first | have a9 := in_u i150 | (have a9 := i150; unfold In at a9)); (first | have a10 := in_u i59 | (have a10 := i59; unfold In at a10)))); have a11 := t_add e59 ro_109_19 (in_c 160 rfl) rfl; (first | have a12 := in_u ((in_c 160 rfl)) | (have a12 := (in_c 160 rfl); unfold In at a12)); omega)]; exact fqi_no g50_0 (fun t1 t2 t3 t4 t5 => by exfalso; have hbd := (q_0.2.1 z94.toNatClampNeg (bt_yes e95x2 e95x4 i94 c95x6)).2.2; rw [← hFc50.2.1 130 rfl, ← e143] at hbd; have hz152 : z152.toInt = z143.toInt + z150.toInt := (by have hw := i150; unfold In at hw; rw [ladd_t e152 (by rw [tx_i2l e151]; omega) (by rw [tx_i2l e151]; omega), tx_i2l e151]); rw [(ix_k (y := y50_4) e_109_19 (by (first | have a0 := oa6 j50_3 h1 ro_109_20 ro_109_19 i60 i219 | ((first | have a0 := in_u j50_3 | (have a0 := j50_3; unfold In at a0)); (first | have a1 := in_u h1 | (have a1 := h1; unfold In at a1)); (first | have a2 := in_u ro_109_20 | (have a2 := ro_109_20; unfold In at a2)); (first | have a3 := in_u ro_109_19 | (have a3 := ro_109_19; unfold In at a3)); (first | have a4 := in_u i60 | (have a4 := i60; unfold In at a4)); (first | have a5 := in_u i219 | (have a5 := i219; unfold In at a5)))); have a6 := t_add e219 i60 (in_c 1 rfl) rfl; (first | have a7 := in_u ((in_c 1 rfl)) | (have a7 := (in_c 1 rfl); unfold In at a7)); have a8 := tx_i2l e151; (first | have a9 := oa2 i150 i59 | ((first | have a9 := in_u i150 | (have a9 := i150; unfold In at a9)); (first | have a10 := in_u i59 | (have a10 := i59; unfold In at a10)))); have a11 := t_add e59 ro_109_19 (in_c 160 rfl) rfl; (first | have a12 := in_u ((in_c 160 rfl)) | (have a12 := (in_c 160 rfl); unfold In at a12)); omega) (by (first | have a0 := oa6 j50_3 h1 ro_109_20 ro_109_19 i60 i219 | ((first | have a0 := in_u j50_3 | (have a0 := j50_3; unfold In at a0)); (first | have a1 := in_u h1 | (have a1 := h1; unfold In at a1)); (first | have a2 := in_u ro_109_20 | (have a2 := ro_109_20; unfold In at a2)); (first | have a3 := in_u ro_109_19 | (have a3 := ro_109_19; unfold In at a3)); (first | have a4 := in_u i60 | (have a4 := i60; unfold In at a4)); (first | have a5 := in_u i219 | (have a5 := i219; unfold In at a5)))); have a6 := t_add e219 i60 (in_c 1 rfl) rfl; (first | have a7 := in_u ((in_c 1 rfl)) | (have a7 := (in_c 1 rfl); unfold In at a7)); have a8 := tx_i2l e151; (first | have a9 := oa2 i150 i59 | ((first | have a9 := in_u i150 | (have a9 := i150; unfold In at a9)); (first | have a10 := in_u i59 | (have a10 := i59; unfold In at a10)))); have a11 := t_add e59 ro_109_19 (in_c 160 rfl) rfl; (first | have a12 := in_u ((in_c 160 rfl)) | (have a12 := (in_c 160 rfl); unfold In at a12)); omega)), ← hFc50.1 113 rfl, ← e80, ← hFc50.1 114 rfl, ← e94, ← hFc50.1 115 rfl, ← e150, ← hFc50.2.1 130 rfl] at t5; rw [← e131, ← e143] at t5; have h := c154a; omega)
                          exact gg_w (by first | exact Nat.le_add_right _ _ | exact gw2 | exact gw3 | exact gwe rfl | exact gwf rfl | exact gwg rfl | exact gwh rfl | omega) (gg_f (gf_cons rfl (gf_cons rfl (gf_cons rfl (gf_cons rfl (gf_cons rfl gf_nil))))) (ih50 sc50 z219 hIc50 hFc50 (in_w 0 31 j50_3 rfl) (in_w 0 400 i219 rfl) n50 n50a n50b (m_up mm50 (t_add e219 i60 (in_c 1 rfl) rfl) (in_w 1 1 (in_c 1 rfl) rfl))))
                        · skip
                          have i154 := z_eq 0 0 c154 i153 rfl
                          have c154a := lc_eq e153 c154
                          refine g_aload_n 158 (gd rfl) rfl rfl ?_
                          refine g_getA (q2 := 131) 161 (gd rfl) rfl rfl rfl rfl ?_
                          refine g_aload_n 162 (gd rfl) rfl rfl ?_
                          refine g_getA (q2 := 114) 165 (gd rfl) rfl rfl rfl rfl ?_
                          refine g_iload 167 (gd rfl) rfl rfl ?_
                          refine g_iaload 168 (gd rfl) rfl (n := 480) rfl (in_ix i60 rfl) (fun z167 e167 => ?_)
                          have q167 : z94 = z167 := (e94).trans e167.symm
                          subst q167
                          refine g_iaload 169 (gd rfl) rfl (n := 32) rfl (in_ix i94 rfl) (fun z168 e168 => ?_)
                          refine g_iconst 1 170 (gd rfl) rfl rfl ?_
                          refine g_iadd 171 (gd rfl) rfl (fun z170 e170 => ?_)
                          refine g_istore 173 (gd rfl) rfl (Nat.le_of_ble_eq_true rfl) ?_
                          refine g_aload_n 174 (gd rfl) rfl rfl ?_
                          refine g_getA (q2 := 131) 177 (gd rfl) rfl rfl rfl rfl ?_
                          refine g_aload_n 178 (gd rfl) rfl rfl ?_
                          refine g_getA (q2 := 113) 181 (gd rfl) rfl rfl rfl rfl ?_
                          refine g_iload 183 (gd rfl) rfl rfl ?_
                          refine g_iaload 184 (gd rfl) rfl (n := 480) rfl (in_ix i60 rfl) (fun z183 e183 => ?_)
                          have q183 : z80 = z183 := (e80).trans e183.symm
                          subst q183
                          refine g_iload 186 (gd rfl) rfl rfl ?_
                          refine g_aload_n 187 (gd rfl) rfl rfl ?_
                          refine g_getA (q2 := 131) 190 (gd rfl) rfl rfl rfl rfl ?_
                          refine g_aload_n 191 (gd rfl) rfl rfl ?_
                          refine g_getA (q2 := 113) 194 (gd rfl) rfl rfl rfl rfl ?_
                          refine g_iload 196 (gd rfl) rfl rfl ?_
                          refine g_iaload 197 (gd rfl) rfl (n := 480) rfl (in_ix i60 rfl) (fun z196 e196 => ?_)
                          have q196 : z80 = z196 := (e80).trans e196.symm
                          subst q196
                          refine g_iaload 198 (gd rfl) rfl (n := 32) rfl (in_ix i80 rfl) (fun z197 e197 => ?_)
                          refine g_cmp_ge 201 206 (gd rfl) rfl rfl (fun c198 => ?_) (fun c198 => ?_)
                          · skip
                            refine g_aload_n 207 (gd rfl) rfl rfl ?_
                            refine g_getA (q2 := 131) 210 (gd rfl) rfl rfl rfl rfl ?_
                            refine g_aload_n 211 (gd rfl) rfl rfl ?_
                            refine g_getA (q2 := 113) 214 (gd rfl) rfl rfl rfl rfl ?_
                            refine g_iload 216 (gd rfl) rfl rfl ?_
                            refine g_iaload 217 (gd rfl) rfl (n := 480) rfl (in_ix i60 rfl) (fun z216 e216 => ?_)
                            have q216 : z80 = z216 := (e80).trans e216.symm
                            subst q216
                            refine g_iaload 218 (gd rfl) rfl (n := 32) rfl (in_ix i80 rfl) (fun z217 e217 => ?_)
                            have q217 : z197 = z217 := (e197).trans e217.symm
                            subst q217
                            refine g_iastore 219 (gd rfl) rfl (n := 32) rfl (in_ix i80 rfl) ?_
                            have hI218 := inv_sI (q := 131) (j := z80.toNatClampNeg) hIc50 rfl (in_w (-2147483648) 2147483647 (i_rng z197) rfl)
                            refine g_iinc 222 (gd rfl) rfl rfl (Nat.le_of_ble_eq_true rfl) (fun z219 e219 => ?_)
                            have i219 := in_add 1 320 e219 i60 (in_c 1 rfl) rfl rfl
                            refine g_goto 50 (gd rfl) rfl ?_
                            have n50 : (u_109_19).toInt ≤ (z219).toInt := by (first | have a0 := oa6 j50_3 h1 ro_109_20 ro_109_19 i60 i219 | ((first | have a0 := in_u j50_3 | (have a0 := j50_3; unfold In at a0)); (first | have a1 := in_u h1 | (have a1 := h1; unfold In at a1)); (first | have a2 := in_u ro_109_20 | (have a2 := ro_109_20; unfold In at a2)); (first | have a3 := in_u ro_109_19 | (have a3 := ro_109_19; unfold In at a3)); (first | have a4 := in_u i60 | (have a4 := i60; unfold In at a4)); (first | have a5 := in_u i219 | (have a5 := i219; unfold In at a5)))); have a6 := t_add e219 i60 (in_c 1 rfl) rfl; (first | have a7 := in_u ((in_c 1 rfl)) | (have a7 := (in_c 1 rfl); unfold In at a7)); have a8 := tx_i2l e151; (first | have a9 := oa2 i150 i59 | ((first | have a9 := in_u i150 | (have a9 := i150; unfold In at a9)); (first | have a10 := in_u i59 | (have a10 := i59; unfold In at a10)))); have a11 := t_add e59 ro_109_19 (in_c 160 rfl) rfl; (first | have a12 := in_u ((in_c 160 rfl)) | (have a12 := (in_c 160 rfl); unfold In at a12)); omega
                            have n50a : (z219).toInt ≤ (u_109_19).toInt + 160 := by (first | have a0 := oa6 j50_3 h1 ro_109_20 ro_109_19 i60 i219 | ((first | have a0 := in_u j50_3 | (have a0 := j50_3; unfold In at a0)); (first | have a1 := in_u h1 | (have a1 := h1; unfold In at a1)); (first | have a2 := in_u ro_109_20 | (have a2 := ro_109_20; unfold In at a2)); (first | have a3 := in_u ro_109_19 | (have a3 := ro_109_19; unfold In at a3)); (first | have a4 := in_u i60 | (have a4 := i60; unfold In at a4)); (first | have a5 := in_u i219 | (have a5 := i219; unfold In at a5)))); have a6 := t_add e219 i60 (in_c 1 rfl) rfl; (first | have a7 := in_u ((in_c 1 rfl)) | (have a7 := (in_c 1 rfl); unfold In at a7)); have a8 := tx_i2l e151; (first | have a9 := oa2 i150 i59 | ((first | have a9 := in_u i150 | (have a9 := i150; unfold In at a9)); (first | have a10 := in_u i59 | (have a10 := i59; unfold In at a10)))); have a11 := t_add e59 ro_109_19 (in_c 160 rfl) rfl; (first | have a12 := in_u ((in_c 160 rfl)) | (have a12 := (in_c 160 rfl); unfold In at a12)); omega
                            have n50b : FQI s (x1).toNatClampNeg (x2) ((sI sc50 131 z80.toNatClampNeg z197).1 131) (y36_3).toNatClampNeg ((z219).toInt - u_109_19.toInt).toNat := by have hn94 : z94.toInt < nmx s := (by have hk := q_0.2.1 z94.toNatClampNeg (bt_yes e95x2 e95x4 i94 c95x6); have hk1 := hk.1; have r94 := i94; unfold In at r94; have e94n : z94.toNatClampNeg = z94.toInt.toNat := rfl; omega); have hbd := (q_0.2.1 z94.toNatClampNeg (bt_yes e95x2 e95x4 i94 c95x6)).2.2; rw [← hFc50.2.1 130 rfl, ← e143] at hbd; have hz152 : z152.toInt = z143.toInt + z150.toInt := (by have hw := i150; unfold In at hw; rw [ladd_t e152 (by rw [tx_i2l e151]; omega) (by rw [tx_i2l e151]; omega), tx_i2l e151]); have hfq := g50_0.1.1 z94.toNatClampNeg (nat_jn i94 hn94).1 (nat_jn i94 hn94).2; rw [← e168] at hfq; rw [show ((z219).toInt - u_109_19.toInt).toNat = ((y50_4).toInt - u_109_19.toInt).toNat + 1 from (by (first | have a0 := oa6 j50_3 h1 ro_109_20 ro_109_19 i60 i219 | ((first | have a0 := in_u j50_3 | (have a0 := j50_3; unfold In at a0)); (first | have a1 := in_u h1 | (have a1 := h1; unfold In at a1)); (first | have a2 := in_u ro_109_20 | (have a2 := ro_109_20; unfold In at a2)); (first | have a3 := in_u ro_109_19 | (have a3 := ro_109_19; unfold In at a3)); (first | have a4 := in_u i60 | (have a4 := i60; unfold In at a4)); (first | have a5 := in_u i219 | (have a5 := i219; unfold In at a5)))); have a6 := t_add e219 i60 (in_c 1 rfl) rfl; (first | have a7 := in_u ((in_c 1 rfl)) | (have a7 := (in_c 1 rfl); unfold In at a7)); have a8 := tx_i2l e151; (first | have a9 := oa2 i150 i59 | ((first | have a9 := in_u i150 | (have a9 := i150; unfold In at a9)); (first | have a10 := in_u i59 | (have a10 := i59; unfold In at a10)))); have a11 := t_add e59 ro_109_19 (in_c 160 rfl) rfl; (first | have a12 := in_u ((in_c 160 rfl)) | (have a12 := (in_c 160 rfl); unfold In at a12)); omega), sI_q]; exact fqi_st hI g50_0 (by (first | have a0 := oa6 j50_3 h1 ro_109_20 ro_109_19 i60 i219 | ((first | have a0 := in_u j50_3 | (have a0 := j50_3; unfold In at a0)); (first | have a1 := in_u h1 | (have a1 := h1; unfold In at a1)); (first | have a2 := in_u ro_109_20 | (have a2 := ro_109_20; unfold In at a2)); (first | have a3 := in_u ro_109_19 | (have a3 := ro_109_19; unfold In at a3)); (first | have a4 := in_u i60 | (have a4 := i60; unfold In at a4)); (first | have a5 := in_u i219 | (have a5 := i219; unfold In at a5)))); have a6 := t_add e219 i60 (in_c 1 rfl) rfl; (first | have a7 := in_u ((in_c 1 rfl)) | (have a7 := (in_c 1 rfl); unfold In at a7)); have a8 := tx_i2l e151; (first | have a9 := oa2 i150 i59 | ((first | have a9 := in_u i150 | (have a9 := i150; unfold In at a9)); (first | have a10 := in_u i59 | (have a10 := i59; unfold In at a10)))); have a11 := t_add e59 ro_109_19 (in_c 160 rfl) rfl; (first | have a12 := in_u ((in_c 160 rfl)) | (have a12 := (in_c 160 rfl); unfold In at a12)); omega) (by rw [(ix_k (y := y50_4) e_109_19 (by (first | have a0 := oa6 j50_3 h1 ro_109_20 ro_109_19 i60 i219 | ((first | have a0 := in_u j50_3 | (have a0 := j50_3; unfold In at a0)); (first | have a1 := in_u h1 | (have a1 := h1; unfold In at a1)); (first | have a2 := in_u ro_109_20 | (have a2 := ro_109_20; unfold In at a2)); (first | have a3 := in_u ro_109_19 | (have a3 := ro_109_19; unfold In at a3)); (first | have a4 := in_u i60 | (have a4 := i60; unfold In at a4)); (first | have a5 := in_u i219 | (have a5 := i219; unfold In at a5)))); have a6 := t_add e219 i60 (in_c 1 rfl) rfl; (first | have a7 := in_u ((in_c 1 rfl)) | (have a7 := (in_c 1 rfl); unfold In at a7)); have a8 := tx_i2l e151; (first | have a9 := oa2 i150 i59 | ((first | have a9 := in_u i150 | (have a9 := i150; unfold In at a9)); (first | have a10 := in_u i59 | (have a10 := i59; unfold In at a10)))); have a11 := t_add e59 ro_109_19 (in_c 160 rfl) rfl; (first | have a12 := in_u ((in_c 160 rfl)) | (have a12 := (in_c 160 rfl); unfold In at a12)); omega) (by (first | have a0 := oa6 j50_3 h1 ro_109_20 ro_109_19 i60 i219 | ((first | have a0 := in_u j50_3 | (have a0 := j50_3; unfold In at a0)); (first | have a1 := in_u h1 | (have a1 := h1; unfold In at a1)); (first | have a2 := in_u ro_109_20 | (have a2 := ro_109_20; unfold In at a2)); (first | have a3 := in_u ro_109_19 | (have a3 := ro_109_19; unfold In at a3)); (first | have a4 := in_u i60 | (have a4 := i60; unfold In at a4)); (first | have a5 := in_u i219 | (have a5 := i219; unfold In at a5)))); have a6 := t_add e219 i60 (in_c 1 rfl) rfl; (first | have a7 := in_u ((in_c 1 rfl)) | (have a7 := (in_c 1 rfl); unfold In at a7)); have a8 := tx_i2l e151; (first | have a9 := oa2 i150 i59 | ((first | have a9 := in_u i150 | (have a9 := i150; unfold In at a9)); (first | have a10 := in_u i59 | (have a10 := i59; unfold In at a10)))); have a11 := t_add e59 ro_109_19 (in_c 160 rfl) rfl; (first | have a12 := in_u ((in_c 160 rfl)) | (have a12 := (in_c 160 rfl); unfold In at a12)); omega)), ← hFc50.1 112 rfl, ← e69]; exact c70) (by rw [(ix_k (y := y50_4) e_109_19 (by (first | have a0 := oa6 j50_3 h1 ro_109_20 ro_109_19 i60 i219 | ((first | have a0 := in_u j50_3 | (have a0 := j50_3; unfold In at a0)); (first | have a1 := in_u h1 | (have a1 := h1; unfold In at a1)); (first | have a2 := in_u ro_109_20 | (have a2 := ro_109_20; unfold In at a2)); (first | have a3 := in_u ro_109_19 | (have a3 := ro_109_19; unfold In at a3)); (first | have a4 := in_u i60 | (have a4 := i60; unfold In at a4)); (first | have a5 := in_u i219 | (have a5 := i219; unfold In at a5)))); have a6 := t_add e219 i60 (in_c 1 rfl) rfl; (first | have a7 := in_u ((in_c 1 rfl)) | (have a7 := (in_c 1 rfl); unfold In at a7)); have a8 := tx_i2l e151; (first | have a9 := oa2 i150 i59 | ((first | have a9 := in_u i150 | (have a9 := i150; unfold In at a9)); (first | have a10 := in_u i59 | (have a10 := i59; unfold In at a10)))); have a11 := t_add e59 ro_109_19 (in_c 160 rfl) rfl; (first | have a12 := in_u ((in_c 160 rfl)) | (have a12 := (in_c 160 rfl); unfold In at a12)); omega) (by (first | have a0 := oa6 j50_3 h1 ro_109_20 ro_109_19 i60 i219 | ((first | have a0 := in_u j50_3 | (have a0 := j50_3; unfold In at a0)); (first | have a1 := in_u h1 | (have a1 := h1; unfold In at a1)); (first | have a2 := in_u ro_109_20 | (have a2 := ro_109_20; unfold In at a2)); (first | have a3 := in_u ro_109_19 | (have a3 := ro_109_19; unfold In at a3)); (first | have a4 := in_u i60 | (have a4 := i60; unfold In at a4)); (first | have a5 := in_u i219 | (have a5 := i219; unfold In at a5)))); have a6 := t_add e219 i60 (in_c 1 rfl) rfl; (first | have a7 := in_u ((in_c 1 rfl)) | (have a7 := (in_c 1 rfl); unfold In at a7)); have a8 := tx_i2l e151; (first | have a9 := oa2 i150 i59 | ((first | have a9 := in_u i150 | (have a9 := i150; unfold In at a9)); (first | have a10 := in_u i59 | (have a10 := i59; unfold In at a10)))); have a11 := t_add e59 ro_109_19 (in_c 160 rfl) rfl; (first | have a12 := in_u ((in_c 160 rfl)) | (have a12 := (in_c 160 rfl); unfold In at a12)); omega)), ← hFc50.1 113 rfl]; exact e80) (by rw [(ix_k (y := y50_4) e_109_19 (by (first | have a0 := oa6 j50_3 h1 ro_109_20 ro_109_19 i60 i219 | ((first | have a0 := in_u j50_3 | (have a0 := j50_3; unfold In at a0)); (first | have a1 := in_u h1 | (have a1 := h1; unfold In at a1)); (first | have a2 := in_u ro_109_20 | (have a2 := ro_109_20; unfold In at a2)); (first | have a3 := in_u ro_109_19 | (have a3 := ro_109_19; unfold In at a3)); (first | have a4 := in_u i60 | (have a4 := i60; unfold In at a4)); (first | have a5 := in_u i219 | (have a5 := i219; unfold In at a5)))); have a6 := t_add e219 i60 (in_c 1 rfl) rfl; (first | have a7 := in_u ((in_c 1 rfl)) | (have a7 := (in_c 1 rfl); unfold In at a7)); have a8 := tx_i2l e151; (first | have a9 := oa2 i150 i59 | ((first | have a9 := in_u i150 | (have a9 := i150; unfold In at a9)); (first | have a10 := in_u i59 | (have a10 := i59; unfold In at a10)))); have a11 := t_add e59 ro_109_19 (in_c 160 rfl) rfl; (first | have a12 := in_u ((in_c 160 rfl)) | (have a12 := (in_c 160 rfl); unfold In at a12)); omega) (by (first | have a0 := oa6 j50_3 h1 ro_109_20 ro_109_19 i60 i219 | ((first | have a0 := in_u j50_3 | (have a0 := j50_3; unfold In at a0)); (first | have a1 := in_u h1 | (have a1 := h1; unfold In at a1)); (first | have a2 := in_u ro_109_20 | (have a2 := ro_109_20; unfold In at a2)); (first | have a3 := in_u ro_109_19 | (have a3 := ro_109_19; unfold In at a3)); (first | have a4 := in_u i60 | (have a4 := i60; unfold In at a4)); (first | have a5 := in_u i219 | (have a5 := i219; unfold In at a5)))); have a6 := t_add e219 i60 (in_c 1 rfl) rfl; (first | have a7 := in_u ((in_c 1 rfl)) | (have a7 := (in_c 1 rfl); unfold In at a7)); have a8 := tx_i2l e151; (first | have a9 := oa2 i150 i59 | ((first | have a9 := in_u i150 | (have a9 := i150; unfold In at a9)); (first | have a10 := in_u i59 | (have a10 := i59; unfold In at a10)))); have a11 := t_add e59 ro_109_19 (in_c 160 rfl) rfl; (first | have a12 := in_u ((in_c 160 rfl)) | (have a12 := (in_c 160 rfl); unfold In at a12)); omega)), ← hFc50.1 114 rfl]; exact e94) (bt_yes e81x2 e81x4 i80 c81x6) (bt_yes e95x2 e95x4 i94 c95x6) (by rw [← hFc50.2.1 130 rfl, ← e112]; have h := i117a.2; omega) (by rw [← hFc50.2.1 130 rfl, ← e131, ← e143, (ix_k (y := y50_4) e_109_19 (by (first | have a0 := oa6 j50_3 h1 ro_109_20 ro_109_19 i60 i219 | ((first | have a0 := in_u j50_3 | (have a0 := j50_3; unfold In at a0)); (first | have a1 := in_u h1 | (have a1 := h1; unfold In at a1)); (first | have a2 := in_u ro_109_20 | (have a2 := ro_109_20; unfold In at a2)); (first | have a3 := in_u ro_109_19 | (have a3 := ro_109_19; unfold In at a3)); (first | have a4 := in_u i60 | (have a4 := i60; unfold In at a4)); (first | have a5 := in_u i219 | (have a5 := i219; unfold In at a5)))); have a6 := t_add e219 i60 (in_c 1 rfl) rfl; (first | have a7 := in_u ((in_c 1 rfl)) | (have a7 := (in_c 1 rfl); unfold In at a7)); have a8 := tx_i2l e151; (first | have a9 := oa2 i150 i59 | ((first | have a9 := in_u i150 | (have a9 := i150; unfold In at a9)); (first | have a10 := in_u i59 | (have a10 := i59; unfold In at a10)))); have a11 := t_add e59 ro_109_19 (in_c 160 rfl) rfl; (first | have a12 := in_u ((in_c 160 rfl)) | (have a12 := (in_c 160 rfl); unfold In at a12)); omega) (by (first | have a0 := oa6 j50_3 h1 ro_109_20 ro_109_19 i60 i219 | ((first | have a0 := in_u j50_3 | (have a0 := j50_3; unfold In at a0)); (first | have a1 := in_u h1 | (have a1 := h1; unfold In at a1)); (first | have a2 := in_u ro_109_20 | (have a2 := ro_109_20; unfold In at a2)); (first | have a3 := in_u ro_109_19 | (have a3 := ro_109_19; unfold In at a3)); (first | have a4 := in_u i60 | (have a4 := i60; unfold In at a4)); (first | have a5 := in_u i219 | (have a5 := i219; unfold In at a5)))); have a6 := t_add e219 i60 (in_c 1 rfl) rfl; (first | have a7 := in_u ((in_c 1 rfl)) | (have a7 := (in_c 1 rfl); unfold In at a7)); have a8 := tx_i2l e151; (first | have a9 := oa2 i150 i59 | ((first | have a9 := in_u i150 | (have a9 := i150; unfold In at a9)); (first | have a10 := in_u i59 | (have a10 := i59; unfold In at a10)))); have a11 := t_add e59 ro_109_19 (in_c 160 rfl) rfl; (first | have a12 := in_u ((in_c 160 rfl)) | (have a12 := (in_c 160 rfl); unfold In at a12)); omega)), ← hFc50.1 115 rfl, ← e150]; have h := c154a; omega) (by rw [← e168]; exact t_add (a := 0) (b := 1000) e170 ⟨hfq.1, hfq.2⟩ (in_c 1 rfl) rfl) (Or.inr ⟨by rw [← e197]; have h := c198; omega, e197⟩)
                            exact gg_w (by first | exact Nat.le_add_right _ _ | exact gw2 | exact gw3 | exact gwe rfl | exact gwf rfl | exact gwg rfl | exact gwh rfl | omega) (gg_f (gf_cons rfl (gf_cons rfl (gf_cons rfl (gf_cons rfl (gf_cons rfl gf_nil))))) (ih50 (sI sc50 131 z80.toNatClampNeg z197) z219 hI218 (fr_sI rfl hFc50) (in_w 0 31 j50_3 rfl) (in_w 0 400 i219 rfl) n50 n50a n50b (m_up mm50 (t_add e219 i60 (in_c 1 rfl) rfl) (in_w 1 1 (in_c 1 rfl) rfl))))
                          · skip
                            have i198 := r_lt1 (-2147483648) 2147483646 c198 (i_rng z170) (i_rng z197) rfl
                            have i198a := r_lt2 (-2147483647) 2147483647 c198 (i_rng z170) (i_rng z197) rfl
                            refine g_iload 203 (gd rfl) rfl rfl ?_
                            refine g_goto 218 (gd rfl) rfl ?_
                            refine g_iastore 219 (gd rfl) rfl (n := 32) rfl (in_ix i80 rfl) ?_
                            have hI218 := inv_sI (q := 131) (j := z80.toNatClampNeg) hIc50 rfl (in_w (-2147483648) 2147483647 i198 rfl)
                            refine g_iinc 222 (gd rfl) rfl rfl (Nat.le_of_ble_eq_true rfl) (fun z219 e219 => ?_)
                            have i219 := in_add 1 320 e219 i60 (in_c 1 rfl) rfl rfl
                            refine g_goto 50 (gd rfl) rfl ?_
                            have n50 : (u_109_19).toInt ≤ (z219).toInt := by (first | have a0 := oa7 j50_3 h1 ro_109_20 ro_109_19 i60 i198 i219 | ((first | have a0 := in_u j50_3 | (have a0 := j50_3; unfold In at a0)); (first | have a1 := in_u h1 | (have a1 := h1; unfold In at a1)); (first | have a2 := in_u ro_109_20 | (have a2 := ro_109_20; unfold In at a2)); (first | have a3 := in_u ro_109_19 | (have a3 := ro_109_19; unfold In at a3)); (first | have a4 := in_u i60 | (have a4 := i60; unfold In at a4)); (first | have a5 := in_u i198 | (have a5 := i198; unfold In at a5)); (first | have a6 := in_u i219 | (have a6 := i219; unfold In at a6)))); have a7 := t_add e219 i60 (in_c 1 rfl) rfl; (first | have a8 := in_u ((in_c 1 rfl)) | (have a8 := (in_c 1 rfl); unfold In at a8)); have a9 := tx_i2l e151; (first | have a10 := oa2 i150 i59 | ((first | have a10 := in_u i150 | (have a10 := i150; unfold In at a10)); (first | have a11 := in_u i59 | (have a11 := i59; unfold In at a11)))); have a12 := t_add e59 ro_109_19 (in_c 160 rfl) rfl; (first | have a13 := in_u ((in_c 160 rfl)) | (have a13 := (in_c 160 rfl); unfold In at a13)); omega
                            have n50a : (z219).toInt ≤ (u_109_19).toInt + 160 := by (first | have a0 := oa7 j50_3 h1 ro_109_20 ro_109_19 i60 i198 i219 | ((first | have a0 := in_u j50_3 | (have a0 := j50_3; unfold In at a0)); (first | have a1 := in_u h1 | (have a1 := h1; unfold In at a1)); (first | have a2 := in_u ro_109_20 | (have a2 := ro_109_20; unfold In at a2)); (first | have a3 := in_u ro_109_19 | (have a3 := ro_109_19; unfold In at a3)); (first | have a4 := in_u i60 | (have a4 := i60; unfold In at a4)); (first | have a5 := in_u i198 | (have a5 := i198; unfold In at a5)); (first | have a6 := in_u i219 | (have a6 := i219; unfold In at a6)))); have a7 := t_add e219 i60 (in_c 1 rfl) rfl; (first | have a8 := in_u ((in_c 1 rfl)) | (have a8 := (in_c 1 rfl); unfold In at a8)); have a9 := tx_i2l e151; (first | have a10 := oa2 i150 i59 | ((first | have a10 := in_u i150 | (have a10 := i150; unfold In at a10)); (first | have a11 := in_u i59 | (have a11 := i59; unfold In at a11)))); have a12 := t_add e59 ro_109_19 (in_c 160 rfl) rfl; (first | have a13 := in_u ((in_c 160 rfl)) | (have a13 := (in_c 160 rfl); unfold In at a13)); omega
                            have n50b : FQI s (x1).toNatClampNeg (x2) ((sI sc50 131 z80.toNatClampNeg z170).1 131) (y36_3).toNatClampNeg ((z219).toInt - u_109_19.toInt).toNat := by have hn94 : z94.toInt < nmx s := (by have hk := q_0.2.1 z94.toNatClampNeg (bt_yes e95x2 e95x4 i94 c95x6); have hk1 := hk.1; have r94 := i94; unfold In at r94; have e94n : z94.toNatClampNeg = z94.toInt.toNat := rfl; omega); have hbd := (q_0.2.1 z94.toNatClampNeg (bt_yes e95x2 e95x4 i94 c95x6)).2.2; rw [← hFc50.2.1 130 rfl, ← e143] at hbd; have hz152 : z152.toInt = z143.toInt + z150.toInt := (by have hw := i150; unfold In at hw; rw [ladd_t e152 (by rw [tx_i2l e151]; omega) (by rw [tx_i2l e151]; omega), tx_i2l e151]); have hfq := g50_0.1.1 z94.toNatClampNeg (nat_jn i94 hn94).1 (nat_jn i94 hn94).2; rw [← e168] at hfq; rw [show ((z219).toInt - u_109_19.toInt).toNat = ((y50_4).toInt - u_109_19.toInt).toNat + 1 from (by (first | have a0 := oa7 j50_3 h1 ro_109_20 ro_109_19 i60 i198 i219 | ((first | have a0 := in_u j50_3 | (have a0 := j50_3; unfold In at a0)); (first | have a1 := in_u h1 | (have a1 := h1; unfold In at a1)); (first | have a2 := in_u ro_109_20 | (have a2 := ro_109_20; unfold In at a2)); (first | have a3 := in_u ro_109_19 | (have a3 := ro_109_19; unfold In at a3)); (first | have a4 := in_u i60 | (have a4 := i60; unfold In at a4)); (first | have a5 := in_u i198 | (have a5 := i198; unfold In at a5)); (first | have a6 := in_u i219 | (have a6 := i219; unfold In at a6)))); have a7 := t_add e219 i60 (in_c 1 rfl) rfl; (first | have a8 := in_u ((in_c 1 rfl)) | (have a8 := (in_c 1 rfl); unfold In at a8)); have a9 := tx_i2l e151; (first | have a10 := oa2 i150 i59 | ((first | have a10 := in_u i150 | (have a10 := i150; unfold In at a10)); (first | have a11 := in_u i59 | (have a11 := i59; unfold In at a11)))); have a12 := t_add e59 ro_109_19 (in_c 160 rfl) rfl; (first | have a13 := in_u ((in_c 160 rfl)) | (have a13 := (in_c 160 rfl); unfold In at a13)); omega), sI_q]; exact fqi_st hI g50_0 (by (first | have a0 := oa7 j50_3 h1 ro_109_20 ro_109_19 i60 i198 i219 | ((first | have a0 := in_u j50_3 | (have a0 := j50_3; unfold In at a0)); (first | have a1 := in_u h1 | (have a1 := h1; unfold In at a1)); (first | have a2 := in_u ro_109_20 | (have a2 := ro_109_20; unfold In at a2)); (first | have a3 := in_u ro_109_19 | (have a3 := ro_109_19; unfold In at a3)); (first | have a4 := in_u i60 | (have a4 := i60; unfold In at a4)); (first | have a5 := in_u i198 | (have a5 := i198; unfold In at a5)); (first | have a6 := in_u i219 | (have a6 := i219; unfold In at a6)))); have a7 := t_add e219 i60 (in_c 1 rfl) rfl; (first | have a8 := in_u ((in_c 1 rfl)) | (have a8 := (in_c 1 rfl); unfold In at a8)); have a9 := tx_i2l e151; (first | have a10 := oa2 i150 i59 | ((first | have a10 := in_u i150 | (have a10 := i150; unfold In at a10)); (first | have a11 := in_u i59 | (have a11 := i59; unfold In at a11)))); have a12 := t_add e59 ro_109_19 (in_c 160 rfl) rfl; (first | have a13 := in_u ((in_c 160 rfl)) | (have a13 := (in_c 160 rfl); unfold In at a13)); omega) (by rw [(ix_k (y := y50_4) e_109_19 (by (first | have a0 := oa7 j50_3 h1 ro_109_20 ro_109_19 i60 i198 i219 | ((first | have a0 := in_u j50_3 | (have a0 := j50_3; unfold In at a0)); (first | have a1 := in_u h1 | (have a1 := h1; unfold In at a1)); (first | have a2 := in_u ro_109_20 | (have a2 := ro_109_20; unfold In at a2)); (first | have a3 := in_u ro_109_19 | (have a3 := ro_109_19; unfold In at a3)); (first | have a4 := in_u i60 | (have a4 := i60; unfold In at a4)); (first | have a5 := in_u i198 | (have a5 := i198; unfold In at a5)); (first | have a6 := in_u i219 | (have a6 := i219; unfold In at a6)))); have a7 := t_add e219 i60 (in_c 1 rfl) rfl; (first | have a8 := in_u ((in_c 1 rfl)) | (have a8 := (in_c 1 rfl); unfold In at a8)); have a9 := tx_i2l e151; (first | have a10 := oa2 i150 i59 | ((first | have a10 := in_u i150 | (have a10 := i150; unfold In at a10)); (first | have a11 := in_u i59 | (have a11 := i59; unfold In at a11)))); have a12 := t_add e59 ro_109_19 (in_c 160 rfl) rfl; (first | have a13 := in_u ((in_c 160 rfl)) | (have a13 := (in_c 160 rfl); unfold In at a13)); omega) (by (first | have a0 := oa7 j50_3 h1 ro_109_20 ro_109_19 i60 i198 i219 | ((first | have a0 := in_u j50_3 | (have a0 := j50_3; unfold In at a0)); (first | have a1 := in_u h1 | (have a1 := h1; unfold In at a1)); (first | have a2 := in_u ro_109_20 | (have a2 := ro_109_20; unfold In at a2)); (first | have a3 := in_u ro_109_19 | (have a3 := ro_109_19; unfold In at a3)); (first | have a4 := in_u i60 | (have a4 := i60; unfold In at a4)); (first | have a5 := in_u i198 | (have a5 := i198; unfold In at a5)); (first | have a6 := in_u i219 | (have a6 := i219; unfold In at a6)))); have a7 := t_add e219 i60 (in_c 1 rfl) rfl; (first | have a8 := in_u ((in_c 1 rfl)) | (have a8 := (in_c 1 rfl); unfold In at a8)); have a9 := tx_i2l e151; (first | have a10 := oa2 i150 i59 | ((first | have a10 := in_u i150 | (have a10 := i150; unfold In at a10)); (first | have a11 := in_u i59 | (have a11 := i59; unfold In at a11)))); have a12 := t_add e59 ro_109_19 (in_c 160 rfl) rfl; (first | have a13 := in_u ((in_c 160 rfl)) | (have a13 := (in_c 160 rfl); unfold In at a13)); omega)), ← hFc50.1 112 rfl, ← e69]; exact c70) (by rw [(ix_k (y := y50_4) e_109_19 (by (first | have a0 := oa7 j50_3 h1 ro_109_20 ro_109_19 i60 i198 i219 | ((first | have a0 := in_u j50_3 | (have a0 := j50_3; unfold In at a0)); (first | have a1 := in_u h1 | (have a1 := h1; unfold In at a1)); (first | have a2 := in_u ro_109_20 | (have a2 := ro_109_20; unfold In at a2)); (first | have a3 := in_u ro_109_19 | (have a3 := ro_109_19; unfold In at a3)); (first | have a4 := in_u i60 | (have a4 := i60; unfold In at a4)); (first | have a5 := in_u i198 | (have a5 := i198; unfold In at a5)); (first | have a6 := in_u i219 | (have a6 := i219; unfold In at a6)))); have a7 := t_add e219 i60 (in_c 1 rfl) rfl; (first | have a8 := in_u ((in_c 1 rfl)) | (have a8 := (in_c 1 rfl); unfold In at a8)); have a9 := tx_i2l e151; (first | have a10 := oa2 i150 i59 | ((first | have a10 := in_u i150 | (have a10 := i150; unfold In at a10)); (first | have a11 := in_u i59 | (have a11 := i59; unfold In at a11)))); have a12 := t_add e59 ro_109_19 (in_c 160 rfl) rfl; (first | have a13 := in_u ((in_c 160 rfl)) | (have a13 := (in_c 160 rfl); unfold In at a13)); omega) (by (first | have a0 := oa7 j50_3 h1 ro_109_20 ro_109_19 i60 i198 i219 | ((first | have a0 := in_u j50_3 | (have a0 := j50_3; unfold In at a0)); (first | have a1 := in_u h1 | (have a1 := h1; unfold In at a1)); (first | have a2 := in_u ro_109_20 | (have a2 := ro_109_20; unfold In at a2)); (first | have a3 := in_u ro_109_19 | (have a3 := ro_109_19; unfold In at a3)); (first | have a4 := in_u i60 | (have a4 := i60; unfold In at a4)); (first | have a5 := in_u i198 | (have a5 := i198; unfold In at a5)); (first | have a6 := in_u i219 | (have a6 := i219; unfold In at a6)))); have a7 := t_add e219 i60 (in_c 1 rfl) rfl; (first | have a8 := in_u ((in_c 1 rfl)) | (have a8 := (in_c 1 rfl); unfold In at a8)); have a9 := tx_i2l e151; (first | have a10 := oa2 i150 i59 | ((first | have a10 := in_u i150 | (have a10 := i150; unfold In at a10)); (first | have a11 := in_u i59 | (have a11 := i59; unfold In at a11)))); have a12 := t_add e59 ro_109_19 (in_c 160 rfl) rfl; (first | have a13 := in_u ((in_c 160 rfl)) | (have a13 := (in_c 160 rfl); unfold In at a13)); omega)), ← hFc50.1 113 rfl]; exact e80) (by rw [(ix_k (y := y50_4) e_109_19 (by (first | have a0 := oa7 j50_3 h1 ro_109_20 ro_109_19 i60 i198 i219 | ((first | have a0 := in_u j50_3 | (have a0 := j50_3; unfold In at a0)); (first | have a1 := in_u h1 | (have a1 := h1; unfold In at a1)); (first | have a2 := in_u ro_109_20 | (have a2 := ro_109_20; unfold In at a2)); (first | have a3 := in_u ro_109_19 | (have a3 := ro_109_19; unfold In at a3)); (first | have a4 := in_u i60 | (have a4 := i60; unfold In at a4)); (first | have a5 := in_u i198 | (have a5 := i198; unfold In at a5)); (first | have a6 := in_u i219 | (have a6 := i219; unfold In at a6)))); have a7 := t_add e219 i60 (in_c 1 rfl) rfl; (first | have a8 := in_u ((in_c 1 rfl)) | (have a8 := (in_c 1 rfl); unfold In at a8)); have a9 := tx_i2l e151; (first | have a10 := oa2 i150 i59 | ((first | have a10 := in_u i150 | (have a10 := i150; unfold In at a10)); (first | have a11 := in_u i59 | (have a11 := i59; unfold In at a11)))); have a12 := t_add e59 ro_109_19 (in_c 160 rfl) rfl; (first | have a13 := in_u ((in_c 160 rfl)) | (have a13 := (in_c 160 rfl); unfold In at a13)); omega) (by (first | have a0 := oa7 j50_3 h1 ro_109_20 ro_109_19 i60 i198 i219 | ((first | have a0 := in_u j50_3 | (have a0 := j50_3; unfold In at a0)); (first | have a1 := in_u h1 | (have a1 := h1; unfold In at a1)); (first | have a2 := in_u ro_109_20 | (have a2 := ro_109_20; unfold In at a2)); (first | have a3 := in_u ro_109_19 | (have a3 := ro_109_19; unfold In at a3)); (first | have a4 := in_u i60 | (have a4 := i60; unfold In at a4)); (first | have a5 := in_u i198 | (have a5 := i198; unfold In at a5)); (first | have a6 := in_u i219 | (have a6 := i219; unfold In at a6)))); have a7 := t_add e219 i60 (in_c 1 rfl) rfl; (first | have a8 := in_u ((in_c 1 rfl)) | (have a8 := (in_c 1 rfl); unfold In at a8)); have a9 := tx_i2l e151; (first | have a10 := oa2 i150 i59 | ((first | have a10 := in_u i150 | (have a10 := i150; unfold In at a10)); (first | have a11 := in_u i59 | (have a11 := i59; unfold In at a11)))); have a12 := t_add e59 ro_109_19 (in_c 160 rfl) rfl; (first | have a13 := in_u ((in_c 160 rfl)) | (have a13 := (in_c 160 rfl); unfold In at a13)); omega)), ← hFc50.1 114 rfl]; exact e94) (bt_yes e81x2 e81x4 i80 c81x6) (bt_yes e95x2 e95x4 i94 c95x6) (by rw [← hFc50.2.1 130 rfl, ← e112]; have h := i117a.2; omega) (by rw [← hFc50.2.1 130 rfl, ← e131, ← e143, (ix_k (y := y50_4) e_109_19 (by (first | have a0 := oa7 j50_3 h1 ro_109_20 ro_109_19 i60 i198 i219 | ((first | have a0 := in_u j50_3 | (have a0 := j50_3; unfold In at a0)); (first | have a1 := in_u h1 | (have a1 := h1; unfold In at a1)); (first | have a2 := in_u ro_109_20 | (have a2 := ro_109_20; unfold In at a2)); (first | have a3 := in_u ro_109_19 | (have a3 := ro_109_19; unfold In at a3)); (first | have a4 := in_u i60 | (have a4 := i60; unfold In at a4)); (first | have a5 := in_u i198 | (have a5 := i198; unfold In at a5)); (first | have a6 := in_u i219 | (have a6 := i219; unfold In at a6)))); have a7 := t_add e219 i60 (in_c 1 rfl) rfl; (first | have a8 := in_u ((in_c 1 rfl)) | (have a8 := (in_c 1 rfl); unfold In at a8)); have a9 := tx_i2l e151; (first | have a10 := oa2 i150 i59 | ((first | have a10 := in_u i150 | (have a10 := i150; unfold In at a10)); (first | have a11 := in_u i59 | (have a11 := i59; unfold In at a11)))); have a12 := t_add e59 ro_109_19 (in_c 160 rfl) rfl; (first | have a13 := in_u ((in_c 160 rfl)) | (have a13 := (in_c 160 rfl); unfold In at a13)); omega) (by (first | have a0 := oa7 j50_3 h1 ro_109_20 ro_109_19 i60 i198 i219 | ((first | have a0 := in_u j50_3 | (have a0 := j50_3; unfold In at a0)); (first | have a1 := in_u h1 | (have a1 := h1; unfold In at a1)); (first | have a2 := in_u ro_109_20 | (have a2 := ro_109_20; unfold In at a2)); (first | have a3 := in_u ro_109_19 | (have a3 := ro_109_19; unfold In at a3)); (first | have a4 := in_u i60 | (have a4 := i60; unfold In at a4)); (first | have a5 := in_u i198 | (have a5 := i198; unfold In at a5)); (first | have a6 := in_u i219 | (have a6 := i219; unfold In at a6)))); have a7 := t_add e219 i60 (in_c 1 rfl) rfl; (first | have a8 := in_u ((in_c 1 rfl)) | (have a8 := (in_c 1 rfl); unfold In at a8)); have a9 := tx_i2l e151; (first | have a10 := oa2 i150 i59 | ((first | have a10 := in_u i150 | (have a10 := i150; unfold In at a10)); (first | have a11 := in_u i59 | (have a11 := i59; unfold In at a11)))); have a12 := t_add e59 ro_109_19 (in_c 160 rfl) rfl; (first | have a13 := in_u ((in_c 160 rfl)) | (have a13 := (in_c 160 rfl); unfold In at a13)); omega)), ← hFc50.1 115 rfl, ← e150]; have h := c154a; omega) (by rw [← e168]; exact t_add (a := 0) (b := 1000) e170 ⟨hfq.1, hfq.2⟩ (in_c 1 rfl) rfl) (Or.inl ⟨by rw [← e197]; have h := c198; omega, rfl⟩)
                            exact gg_w (by first | exact Nat.le_add_right _ _ | exact gw2 | exact gw3 | exact gwe rfl | exact gwf rfl | exact gwg rfl | exact gwh rfl | omega) (gg_f (gf_cons rfl (gf_cons rfl (gf_cons rfl (gf_cons rfl (gf_cons rfl gf_nil))))) (ih50 (sI sc50 131 z80.toNatClampNeg z170) z219 hI218 (fr_sI rfl hFc50) (in_w 0 31 j50_3 rfl) (in_w 0 400 i219 rfl) n50 n50a n50b (m_up mm50 (t_add e219 i60 (in_c 1 rfl) rfl) (in_w 1 1 (in_c 1 rfl) rfl))))
      refine g_iload_n 37 (gd rfl) rfl rfl ?_
      refine g_aload_n 38 (gd rfl) rfl rfl ?_
      refine g_getI 41 (gd rfl) rfl rfl rfl (fun z38 e38 => ?_)
      have q38 : u_109_20 = z38 := (fr_F e_109_20 hFc36 rfl).trans e38.symm
      subst q38
      refine g_cmp_ge 44 231 (gd rfl) rfl rfl (fun c41 => ?_) (fun c41 => ?_)
      · skip
        have n231 : WFN sc36 (x1).toNatClampNeg (x2) := by exact wfn_i (by unfold nmx; rw [← e_109_20]; (first | have a0 := oa4 h1 ro_109_20 ro_109_19 j36_3 | ((first | have a0 := in_u h1 | (have a0 := h1; unfold In at a0)); (first | have a1 := in_u ro_109_20 | (have a1 := ro_109_20; unfold In at a1)); (first | have a2 := in_u ro_109_19 | (have a2 := ro_109_19; unfold In at a2)); (first | have a3 := in_u j36_3 | (have a3 := j36_3; unfold In at a3)))); omega) (hFc36.1 112 rfl) (hFc36.1 113 rfl) (hFc36.1 114 rfl) (hFc36.1 115 rfl) (hFc36.2.1 130 rfl) (hFc36.2.2.1 109 19 rfl) (hFc36.2.2.1 109 20 rfl) q_0 g36_0 (by unfold nmx; rw [← e_109_20]; show _ ≤ ((y36_3.toInt.toNat : Nat) : Int); (first | have a0 := oa4 h1 ro_109_20 ro_109_19 j36_3 | ((first | have a0 := in_u h1 | (have a0 := h1; unfold In at a0)); (first | have a1 := in_u ro_109_20 | (have a1 := ro_109_20; unfold In at a1)); (first | have a2 := in_u ro_109_19 | (have a2 := ro_109_19; unfold In at a2)); (first | have a3 := in_u j36_3 | (have a3 := j36_3; unfold In at a3)))); omega)
        exact g_return (gd rfl) rfl (hP _ _ ⟨sc36, hIc36, hFc36, rfl, rfl, n231⟩)
      · skip
        have i41 := r_lt1 0 31 c41 j36_3 ro_109_20 rfl
        have i41a := r_lt2 1 32 c41 j36_3 ro_109_20 rfl
        refine g_aload_n 45 (gd rfl) rfl rfl ?_
        refine g_getI 48 (gd rfl) rfl rfl rfl (fun z45 e45 => ?_)
        have q45 : u_109_19 = z45 := (fr_F e_109_19 hFc36 rfl).trans e45.symm
        subst q45
        refine g_istore 50 (gd rfl) rfl (Nat.le_of_ble_eq_true rfl) ?_
        have n50 : (u_109_19).toInt ≤ (u_109_19).toInt := by exact Int.le_refl _
        have n50a : (u_109_19).toInt ≤ (u_109_19).toInt + 160 := by (first | have a0 := oa4 h1 i41a ro_109_19 i41 | ((first | have a0 := in_u h1 | (have a0 := h1; unfold In at a0)); (first | have a1 := in_u i41a | (have a1 := i41a; unfold In at a1)); (first | have a2 := in_u ro_109_19 | (have a2 := ro_109_19; unfold In at a2)); (first | have a3 := in_u i41 | (have a3 := i41; unfold In at a3)))); omega
        have n50b : FQI s (x1).toNatClampNeg (x2) (sc36.1 131) (y36_3).toNatClampNeg ((u_109_19).toInt - u_109_19.toInt).toNat := by rw [show (u_109_19.toInt - u_109_19.toInt).toNat = 0 from (by omega)]; exact fqi_0 g36_0
        exact gg_w (by first | exact Nat.le_add_right _ _ | exact gw2 | exact gw3 | exact gwe rfl | exact gwf rfl | exact gwg rfl | exact gwh rfl | omega) (gg_f (gf_cons rfl (gf_cons rfl (gf_cons rfl (gf_cons rfl (gf_cons rfl gf_nil))))) (ct50 401 sc36 u_109_19 hIc36 hFc36 (in_w 0 31 i41 rfl) (in_w 0 400 ro_109_19 rfl) n50 n50a n50b (m_in 401 (in_w 0 400 ro_109_19 rfl) rfl)))
  have ct2 : ∀ (k2 : Nat) (sc2 : GS) (y2_3 : Int32), Inv sc2 → Fr fm_313 s sc2 → (In y2_3 0 32) → (∀ k : Nat, (k : Int) < (y2_3).toInt → (sc2.1 131 k).toInt = if k = (x1).toNatClampNeg then 0 else 1000) → 32 - (y2_3).toInt < (k2 : Int) → GG Z (d - 1) 313 post (gx xp) (11998835 + k2 * 900) 2 (fun j => xlook j [(0, .ref (A 109)), (1, .int x1), (2, .int x2), (3, .int y2_3)]) [] (WW Z A sc2 ++ ex) 0 0 := by
    intro k2
    induction k2 with
    | zero => intro sc2 y2_3 hIc2 hFc2 j2_3 g2_0 mm2; exact m_no mm2 j2_3 rfl
    | succ k2 ih2 =>
      intro sc2 y2_3 hIc2 hFc2 j2_3 g2_0 mm2
      refine gg_w (M := 11998835 + k2 * 900 + 900) gws ?_
      refine g_iload_n 3 (gd rfl) rfl rfl ?_
      refine g_aload_n 4 (gd rfl) rfl rfl ?_
      refine g_getI 7 (gd rfl) rfl rfl rfl (fun z4 e4 => ?_)
      have q4 : u_109_20 = z4 := (fr_F e_109_20 hFc2 rfl).trans e4.symm
      subst q4
      refine g_cmp_ge 10 34 (gd rfl) rfl rfl (fun c7 => ?_) (fun c7 => ?_)
      · skip
        refine g_iconst 0 35 (gd rfl) rfl rfl ?_
        refine g_istore_n 36 (gd rfl) rfl (Nat.le_of_ble_eq_true rfl) ?_
        have n36 : FQ s (x1).toNatClampNeg (x2) (sc2.1 131) ((Int32.ofInt 0)).toNatClampNeg := by exact fq_0 (fun v hv => g2_0 v (by unfold nmx at hv; rw [← e_109_20] at hv; (first | have a0 := oa5 h1 ro_109_20 ro_109_19 j2_3 ((in_c 0 rfl)) | ((first | have a0 := in_u h1 | (have a0 := h1; unfold In at a0)); (first | have a1 := in_u ro_109_20 | (have a1 := ro_109_20; unfold In at a1)); (first | have a2 := in_u ro_109_19 | (have a2 := ro_109_19; unfold In at a2)); (first | have a3 := in_u j2_3 | (have a3 := j2_3; unfold In at a3)); (first | have a4 := in_u ((in_c 0 rfl)) | (have a4 := (in_c 0 rfl); unfold In at a4)))); omega))
        exact gg_w (by first | exact Nat.le_add_right _ _ | exact gw2 | exact gw3 | exact gwe rfl | exact gwf rfl | exact gwg rfl | exact gwh rfl | omega) (gg_f (gf_cons rfl (gf_cons rfl (gf_cons rfl (gf_cons rfl gf_nil)))) (ct36 33 sc2 (Int32.ofInt 0) hIc2 hFc2 (in_w 0 32 (in_c 0 rfl) rfl) n36 (m_in 33 (in_w 0 32 (in_c 0 rfl) rfl) rfl)))
      · skip
        have i7 := r_lt1 0 31 c7 j2_3 ro_109_20 rfl
        have i7a := r_lt2 1 32 c7 j2_3 ro_109_20 rfl
        refine g_aload_n 11 (gd rfl) rfl rfl ?_
        refine g_getA (q2 := 131) 14 (gd rfl) rfl rfl rfl rfl ?_
        refine g_iload_n 15 (gd rfl) rfl rfl ?_
        refine g_iload_n 16 (gd rfl) rfl rfl ?_
        refine g_iload_n 17 (gd rfl) rfl rfl ?_
        refine g_cmp_ne 20 24 (gd rfl) rfl rfl (fun c17 => ?_) (fun c17 => ?_)
        · skip
          refine g_sipush 1000 27 (gd rfl) rfl rfl ?_
          refine g_iastore 28 (gd rfl) rfl (n := 32) rfl (in_ix i7 rfl) ?_
          have hI27 := inv_sI (q := 131) (j := y2_3.toNatClampNeg) hIc2 rfl (in_w (-2147483648) 2147483647 (in_c 1000 rfl) rfl)
          refine g_iinc 31 (gd rfl) rfl rfl (Nat.le_of_ble_eq_true rfl) (fun z28 e28 => ?_)
          have i28 := in_add 1 32 e28 i7 (in_c 1 rfl) rfl rfl
          refine g_goto 2 (gd rfl) rfl ?_
          have n2 : ∀ k : Nat, (k : Int) < (z28).toInt → ((sI sc2 131 y2_3.toNatClampNeg (Int32.ofInt 1000)).1 131 k).toInt = if k = (x1).toNatClampNeg then 0 else 1000 := by (intro k hk; have e3 : y2_3.toNatClampNeg = y2_3.toInt.toNat := rfl; have e1 : x1.toNatClampNeg = x1.toInt.toNat := rfl; have hc := c17; rw [sI_q]; by_cases c : k = y2_3.toNatClampNeg; (rw [c, up_e]; first | (rw [if_neg (by (first | have a0 := oa5 h1 i7a ro_109_19 i7 i28 | ((first | have a0 := in_u h1 | (have a0 := h1; unfold In at a0)); (first | have a1 := in_u i7a | (have a1 := i7a; unfold In at a1)); (first | have a2 := in_u ro_109_19 | (have a2 := ro_109_19; unfold In at a2)); (first | have a3 := in_u i7 | (have a3 := i7; unfold In at a3)); (first | have a4 := in_u i28 | (have a4 := i28; unfold In at a4)))); have a5 := t_add e28 i7 (in_c 1 rfl) rfl; (first | have a6 := in_u ((in_c 1 rfl)) | (have a6 := (in_c 1 rfl); unfold In at a6)); omega)]; rfl) | (rw [if_pos (by (first | have a0 := oa5 h1 i7a ro_109_19 i7 i28 | ((first | have a0 := in_u h1 | (have a0 := h1; unfold In at a0)); (first | have a1 := in_u i7a | (have a1 := i7a; unfold In at a1)); (first | have a2 := in_u ro_109_19 | (have a2 := ro_109_19; unfold In at a2)); (first | have a3 := in_u i7 | (have a3 := i7; unfold In at a3)); (first | have a4 := in_u i28 | (have a4 := i28; unfold In at a4)))); have a5 := t_add e28 i7 (in_c 1 rfl) rfl; (first | have a6 := in_u ((in_c 1 rfl)) | (have a6 := (in_c 1 rfl); unfold In at a6)); omega)]; rfl)); (rw [up_n c]; exact g2_0 k (by (first | have a0 := oa5 h1 i7a ro_109_19 i7 i28 | ((first | have a0 := in_u h1 | (have a0 := h1; unfold In at a0)); (first | have a1 := in_u i7a | (have a1 := i7a; unfold In at a1)); (first | have a2 := in_u ro_109_19 | (have a2 := ro_109_19; unfold In at a2)); (first | have a3 := in_u i7 | (have a3 := i7; unfold In at a3)); (first | have a4 := in_u i28 | (have a4 := i28; unfold In at a4)))); have a5 := t_add e28 i7 (in_c 1 rfl) rfl; (first | have a6 := in_u ((in_c 1 rfl)) | (have a6 := (in_c 1 rfl); unfold In at a6)); omega)))
          exact gg_w (by first | exact Nat.le_add_right _ _ | exact gw2 | exact gw3 | exact gwe rfl | exact gwf rfl | exact gwg rfl | exact gwh rfl | omega) (gg_f (gf_cons rfl (gf_cons rfl (gf_cons rfl (gf_cons rfl gf_nil)))) (ih2 (sI sc2 131 y2_3.toNatClampNeg (Int32.ofInt 1000)) z28 hI27 (fr_sI rfl hFc2) (in_w 0 32 i28 rfl) n2 (m_up mm2 (t_add e28 i7 (in_c 1 rfl) rfl) (in_w 1 1 (in_c 1 rfl) rfl))))
        · skip
          refine g_iconst 0 21 (gd rfl) rfl rfl ?_
          refine g_goto 27 (gd rfl) rfl ?_
          refine g_iastore 28 (gd rfl) rfl (n := 32) rfl (in_ix i7 rfl) ?_
          have hI27 := inv_sI (q := 131) (j := y2_3.toNatClampNeg) hIc2 rfl (in_w (-2147483648) 2147483647 (in_c 0 rfl) rfl)
          refine g_iinc 31 (gd rfl) rfl rfl (Nat.le_of_ble_eq_true rfl) (fun z28 e28 => ?_)
          have i28 := in_add 1 32 e28 i7 (in_c 1 rfl) rfl rfl
          refine g_goto 2 (gd rfl) rfl ?_
          have n2 : ∀ k : Nat, (k : Int) < (z28).toInt → ((sI sc2 131 y2_3.toNatClampNeg (Int32.ofInt 0)).1 131 k).toInt = if k = (x1).toNatClampNeg then 0 else 1000 := by (intro k hk; have e3 : y2_3.toNatClampNeg = y2_3.toInt.toNat := rfl; have e1 : x1.toNatClampNeg = x1.toInt.toNat := rfl; have hc := c17; rw [sI_q]; by_cases c : k = y2_3.toNatClampNeg; (rw [c, up_e]; first | (rw [if_neg (by (first | have a0 := oa5 h1 i7a ro_109_19 i7 i28 | ((first | have a0 := in_u h1 | (have a0 := h1; unfold In at a0)); (first | have a1 := in_u i7a | (have a1 := i7a; unfold In at a1)); (first | have a2 := in_u ro_109_19 | (have a2 := ro_109_19; unfold In at a2)); (first | have a3 := in_u i7 | (have a3 := i7; unfold In at a3)); (first | have a4 := in_u i28 | (have a4 := i28; unfold In at a4)))); have a5 := t_add e28 i7 (in_c 1 rfl) rfl; (first | have a6 := in_u ((in_c 1 rfl)) | (have a6 := (in_c 1 rfl); unfold In at a6)); omega)]; rfl) | (rw [if_pos (by (first | have a0 := oa5 h1 i7a ro_109_19 i7 i28 | ((first | have a0 := in_u h1 | (have a0 := h1; unfold In at a0)); (first | have a1 := in_u i7a | (have a1 := i7a; unfold In at a1)); (first | have a2 := in_u ro_109_19 | (have a2 := ro_109_19; unfold In at a2)); (first | have a3 := in_u i7 | (have a3 := i7; unfold In at a3)); (first | have a4 := in_u i28 | (have a4 := i28; unfold In at a4)))); have a5 := t_add e28 i7 (in_c 1 rfl) rfl; (first | have a6 := in_u ((in_c 1 rfl)) | (have a6 := (in_c 1 rfl); unfold In at a6)); omega)]; rfl)); (rw [up_n c]; exact g2_0 k (by (first | have a0 := oa5 h1 i7a ro_109_19 i7 i28 | ((first | have a0 := in_u h1 | (have a0 := h1; unfold In at a0)); (first | have a1 := in_u i7a | (have a1 := i7a; unfold In at a1)); (first | have a2 := in_u ro_109_19 | (have a2 := ro_109_19; unfold In at a2)); (first | have a3 := in_u i7 | (have a3 := i7; unfold In at a3)); (first | have a4 := in_u i28 | (have a4 := i28; unfold In at a4)))); have a5 := t_add e28 i7 (in_c 1 rfl) rfl; (first | have a6 := in_u ((in_c 1 rfl)) | (have a6 := (in_c 1 rfl); unfold In at a6)); omega)))
          exact gg_w (by first | exact Nat.le_add_right _ _ | exact gw2 | exact gw3 | exact gwe rfl | exact gwf rfl | exact gwg rfl | exact gwh rfl | omega) (gg_f (gf_cons rfl (gf_cons rfl (gf_cons rfl (gf_cons rfl gf_nil)))) (ih2 (sI sc2 131 y2_3.toNatClampNeg (Int32.ofInt 0)) z28 hI27 (fr_sI rfl hFc2) (in_w 0 32 i28 rfl) n2 (m_up mm2 (t_add e28 i7 (in_c 1 rfl) rfl) (in_w 1 1 (in_c 1 rfl) rfl))))
  refine g_enter2 (k := 313) (N := 12029435) (by first | exact dq1 hd rfl | exact dq0 hd rfl | exact dq2 hd rfl | exact dq3 hd rfl | omega) rfl (Nat.le_of_ble_eq_true rfl) ?_
  refine g_iconst 0 1 (gd rfl) rfl rfl ?_
  refine g_istore_n 2 (gd rfl) rfl (Nat.le_of_ble_eq_true rfl) ?_
  have n2 : ∀ k : Nat, (k : Int) < ((Int32.ofInt 0)).toInt → (s.1 131 k).toInt = if k = (x1).toNatClampNeg then 0 else 1000 := by (intro k hk; exfalso; have h0 : (Int32.ofInt 0).toInt = 0 := rfl; omega)
  exact gg_w (by first | exact Nat.le_of_ble_eq_true rfl | omega) (gg_f (gf_cons rfl (gf_cons rfl (gf_cons rfl (gf_cons rfl gf_nil)))) (ct2 33 s (Int32.ofInt 0) hI fr_rf (in_w 0 32 (in_c 0 rfl) rfl) n2 (m_in 33 (in_w 0 32 (in_c 0 rfl) rfl) rfl)))

def fm_314 : FM := ([129], [], [], [])
/-- GraphHouseModel.between -/
theorem k_314 {Z : AmZ} {A : Nat → Nat} {s : GS} {ex : va_W} {d : Nat} {X : AmX} {x1 : Int32} {x2 : Int32} (hd : 3 ≤ d) (hI : Inv s) (h1 : In x1 0 31) (h2 : In x2 0 31) (q_0 : (x1).toInt < nmx s ∧ (x2).toInt < nmx s) : GC Z d 314 [.ref (A 109), .int x1, .int x2] (WW Z A s ++ ex) 0 0 (fun v u => ∃ t : GS, Inv t ∧ Fr fm_314 s t ∧ ∃ z : Int32, v = some (.int z) ∧ u = WW Z A t ++ ex ∧ In z (-2147483648) 2147483647 ∧ ((z).toInt ≠ 0 → BTS t (x2).toNatClampNeg (z) ∧ bt (z) (x1).toNatClampNeg = true)) X := by
  intro post xp hP hX
  obtain ⟨u_109_20, e_109_20⟩ : ∃ w, w = s.2.2.1 109 20 := ⟨_, rfl⟩
  have ro_109_20 := inv_F hI 0 32 rfl e_109_20
  have ct12 : ∀ (k12 : Nat) (sc12 : GS) (y12_3 : Int32) (y12_4 : Int32), Inv sc12 → Fr fm_314 s sc12 → (In y12_4 0 32) → ((y12_4).toInt ≤ (u_109_20).toInt) → (∀ j : Nat, (j : Int) < nmx sc12 → bt (sc12.1 129 j) j = true) → (RCH sc12 (sc12.1 129)) → (∀ v : Nat, (bt (y12_3) v = true ↔ ((v : Int) < (y12_4).toInt ∧ bt (sc12.1 129 (x1).toNatClampNeg) v = true ∧ bt (sc12.1 129 v) (x2).toNatClampNeg = true))) → 32 - (y12_4).toInt < (k12 : Int) → GG Z (d - 1) 314 post (gx xp) (1 + k12 * 900) 12 (fun j => xlook j [(0, .ref (A 109)), (1, .int x1), (2, .int x2), (3, .int y12_3), (4, .int y12_4)]) [] (WW Z A sc12 ++ ex) 0 0 := by
    intro k12
    induction k12 with
    | zero => intro sc12 y12_3 y12_4 hIc12 hFc12 j12_4 n12_0 g12_0 g12_1 g12_2 mm12; exact m_no mm12 j12_4 rfl
    | succ k12 ih12 =>
      intro sc12 y12_3 y12_4 hIc12 hFc12 j12_4 n12_0 g12_0 g12_1 g12_2 mm12
      refine gg_w (M := 1 + k12 * 900 + 900) gws ?_
      refine g_iload 14 (gd rfl) rfl rfl ?_
      refine g_aload_n 15 (gd rfl) rfl rfl ?_
      refine g_getI 18 (gd rfl) rfl rfl rfl (fun z15 e15 => ?_)
      have q15 : u_109_20 = z15 := (fr_F e_109_20 hFc12 rfl).trans e15.symm
      subst q15
      refine g_cmp_ge 21 66 (gd rfl) rfl rfl (fun c18 => ?_) (fun c18 => ?_)
      · skip
        refine g_iload_n 67 (gd rfl) rfl rfl ?_
        have n67 : (y12_3).toInt ≠ 0 → BTS sc12 (x2).toNatClampNeg (y12_3) ∧ bt (y12_3) (x1).toNatClampNeg = true := by intro hz; have en : nmx sc12 = nmx s := (by unfold nmx; rw [hFc12.2.2.1 109 20 rfl]); exact bts_i hIc12 (by rw [en]; show ((x1.toInt.toNat : Nat) : Int) < _; have h := q_0.1; (first | have a0 := oa4 h2 h1 ro_109_20 j12_4 | ((first | have a0 := in_u h2 | (have a0 := h2; unfold In at a0)); (first | have a1 := in_u h1 | (have a1 := h1; unfold In at a1)); (first | have a2 := in_u ro_109_20 | (have a2 := ro_109_20; unfold In at a2)); (first | have a3 := in_u j12_4 | (have a3 := j12_4; unfold In at a3)))); omega) (by rw [en]; show ((x2.toInt.toNat : Nat) : Int) < _; have h := q_0.2; (first | have a0 := oa4 h2 h1 ro_109_20 j12_4 | ((first | have a0 := in_u h2 | (have a0 := h2; unfold In at a0)); (first | have a1 := in_u h1 | (have a1 := h1; unfold In at a1)); (first | have a2 := in_u ro_109_20 | (have a2 := ro_109_20; unfold In at a2)); (first | have a3 := in_u j12_4 | (have a3 := j12_4; unfold In at a3)))); omega) g12_0 g12_1 (fun v => by rw [g12_2 v, show y12_4.toInt = nmx sc12 from (by rw [en]; unfold nmx; rw [← e_109_20]; (first | have a0 := oa4 h2 h1 ro_109_20 j12_4 | ((first | have a0 := in_u h2 | (have a0 := h2; unfold In at a0)); (first | have a1 := in_u h1 | (have a1 := h1; unfold In at a1)); (first | have a2 := in_u ro_109_20 | (have a2 := ro_109_20; unfold In at a2)); (first | have a3 := in_u j12_4 | (have a3 := j12_4; unfold In at a3)))); omega)]) hz
        exact g_ireturn (gd rfl) rfl rfl (hP _ _ ⟨sc12, hIc12, hFc12, y12_3, rfl, rfl, in_w (-2147483648) 2147483647 (i_rng y12_3) rfl, n67⟩)
      · skip
        have i18 := r_lt1 0 31 c18 j12_4 ro_109_20 rfl
        have i18a := r_lt2 1 32 c18 j12_4 ro_109_20 rfl
        refine g_iload_n 22 (gd rfl) rfl rfl ?_
        refine g_aload_n 23 (gd rfl) rfl rfl ?_
        refine g_getA (q2 := 129) 26 (gd rfl) rfl rfl rfl rfl ?_
        refine g_iload_n 27 (gd rfl) rfl rfl ?_
        refine g_iaload 28 (gd rfl) rfl (n := 32) rfl (in_ix h1 rfl) (fun z27 e27 => ?_)
        refine g_iload 30 (gd rfl) rfl rfl ?_
        refine g_calls (As := [.int z27, .int y12_4]) (r := [.int y12_3]) 33 (gd rfl) rfl rfl rfl rfl rfl (Nat.le_of_ble_eq_true rfl) (mc := 0) (ms := 0) (Nat.zero_le _) (Nat.zero_le _) (P := fun v u => _) ?_ (fun v u h => h)
        intro po30 xx30 hp30 hx30
        refine g_enter2 (k := 311) (N := 300) (by first | exact dq1 hd rfl | exact dq0 hd rfl | exact dq2 hd rfl | exact dq3 hd rfl | omega) rfl (Nat.le_of_ble_eq_true rfl) ?_
        refine g_iload_n 1 (gd rfl) rfl rfl ?_
        refine g_iload_n 2 (gd rfl) rfl rfl ?_
        refine g_ishr 3 (gd rfl) rfl (fun z30x2 e30x2 => ?_)
        refine g_iconst 1 4 (gd rfl) rfl rfl ?_
        refine g_iand 5 (gd rfl) rfl (fun z30x4 e30x4 => ?_)
        have i30x4 := in_and2 e30x4 (in_c 1 rfl) rfl
        refine g_iconst 1 6 (gd rfl) rfl rfl ?_
        refine g_cmp_ne 9 13 (gd rfl) rfl rfl (fun c30x6 => ?_) (fun c30x6 => ?_)
        · skip
          have i30x6 := r_ne1 0 0 c30x6 i30x4 (in_c 1 rfl) rfl
          refine g_iconst 0 14 (gd rfl) rfl rfl ?_
          refine g_ireturn (gd rfl) rfl (nb01 (in_w 0 1 (in_c 0 rfl) rfl)) (hp30 _ _ ?_)
          show GG _ _ _ _ _ _ _ _ [.int (Int32.ofInt 0), .int y12_3] _ _ _
          refine g_if_eq 36 57 (gd rfl) rfl rfl (fun c33 => ?_) (fun c33 => ?_)
          · skip
            refine g_iconst 0 58 (gd rfl) rfl rfl ?_
            refine g_ior 59 (gd rfl) rfl (fun z58 e58 => ?_)
            refine g_istore_n 60 (gd rfl) rfl (Nat.le_of_ble_eq_true rfl) ?_
            refine g_iinc 63 (gd rfl) rfl rfl (Nat.le_of_ble_eq_true rfl) (fun z60 e60 => ?_)
            have i60 := in_add 1 32 e60 i18 (in_c 1 rfl) rfl rfl
            refine g_goto 12 (gd rfl) rfl ?_
            have n12 : (z60).toInt ≤ (u_109_20).toInt := by (first | have a0 := oa5 h2 h1 i18a i18 i60 | ((first | have a0 := in_u h2 | (have a0 := h2; unfold In at a0)); (first | have a1 := in_u h1 | (have a1 := h1; unfold In at a1)); (first | have a2 := in_u i18a | (have a2 := i18a; unfold In at a2)); (first | have a3 := in_u i18 | (have a3 := i18; unfold In at a3)); (first | have a4 := in_u i60 | (have a4 := i60; unfold In at a4)))); have a5 := t_add e60 i18 (in_c 1 rfl) rfl; (first | have a6 := in_u ((in_c 1 rfl)) | (have a6 := (in_c 1 rfl); unfold In at a6)); omega
            have n12a : ∀ j : Nat, (j : Int) < nmx sc12 → bt (sc12.1 129 j) j = true := by first | exact g12_0 | (first | exact g12_0 | exact fun j hj => p4 j ⟨hj, by have h0 : (Int32.ofInt (-1)).toInt = -1 := rfl; rw [h0]; omega⟩)
            have n12b : RCH sc12 (sc12.1 129) := by first | exact g12_1 | exact p4a rfl rfl rfl
            have n12c : ∀ v : Nat, (bt (z58) v = true ↔ ((v : Int) < (z60).toInt ∧ bt (sc12.1 129 (x1).toNatClampNeg) v = true ∧ bt (sc12.1 129 v) (x2).toNatClampNeg = true)) := by exact bset_no g12_2 (by (first | have a0 := oa5 h2 h1 i18a i18 i60 | ((first | have a0 := in_u h2 | (have a0 := h2; unfold In at a0)); (first | have a1 := in_u h1 | (have a1 := h1; unfold In at a1)); (first | have a2 := in_u i18a | (have a2 := i18a; unfold In at a2)); (first | have a3 := in_u i18 | (have a3 := i18; unfold In at a3)); (first | have a4 := in_u i60 | (have a4 := i60; unfold In at a4)))); have a5 := t_add e60 i18 (in_c 1 rfl) rfl; (first | have a6 := in_u ((in_c 1 rfl)) | (have a6 := (in_c 1 rfl); unfold In at a6)); omega) (by (first | have a0 := oa5 h2 h1 i18a i18 i60 | ((first | have a0 := in_u h2 | (have a0 := h2; unfold In at a0)); (first | have a1 := in_u h1 | (have a1 := h1; unfold In at a1)); (first | have a2 := in_u i18a | (have a2 := i18a; unfold In at a2)); (first | have a3 := in_u i18 | (have a3 := i18; unfold In at a3)); (first | have a4 := in_u i60 | (have a4 := i60; unfold In at a4)))); have a5 := t_add e60 i18 (in_c 1 rfl) rfl; (first | have a6 := in_u ((in_c 1 rfl)) | (have a6 := (in_c 1 rfl); unfold In at a6)); omega) (fun h => by have hb := bt_no e30x2 e30x4 i18 c30x6; rw [e27, h.1] at hb; cases hb) e58
            exact gg_w (by first | exact Nat.le_add_right _ _ | exact gw2 | exact gw3 | exact gwe rfl | exact gwf rfl | exact gwg rfl | exact gwh rfl | omega) (gg_f (gf_cons rfl (gf_cons rfl (gf_cons rfl (gf_cons rfl (gf_cons rfl gf_nil))))) (ih12 sc12 z58 z60 hIc12 hFc12 (in_w 0 32 i60 rfl) n12 n12a n12b n12c (m_up mm12 (t_add e60 i18 (in_c 1 rfl) rfl) (in_w 1 1 (in_c 1 rfl) rfl))))
          · skip
            exact zn_ne c33 (in_c 0 rfl) rfl
        · skip
          have i30x6 := r_eq1 1 1 c30x6 i30x4 (in_c 1 rfl) rfl
          refine g_iconst 1 10 (gd rfl) rfl rfl ?_
          refine g_goto 14 (gd rfl) rfl ?_
          refine g_ireturn (gd rfl) rfl (nb01 (in_w 0 1 (in_c 1 rfl) rfl)) (hp30 _ _ ?_)
          show GG _ _ _ _ _ _ _ _ [.int (Int32.ofInt 1), .int y12_3] _ _ _
          refine g_if_eq 36 57 (gd rfl) rfl rfl (fun c33 => ?_) (fun c33 => ?_)
          · skip
            exact zn_eq c33 (in_c 1 rfl) rfl
          · skip
            refine g_aload_n 37 (gd rfl) rfl rfl ?_
            refine g_getA (q2 := 129) 40 (gd rfl) rfl rfl rfl rfl ?_
            refine g_iload 42 (gd rfl) rfl rfl ?_
            refine g_iaload 43 (gd rfl) rfl (n := 32) rfl (in_ix i18 rfl) (fun z42 e42 => ?_)
            refine g_iload_n 44 (gd rfl) rfl rfl ?_
            refine g_calls (As := [.int z42, .int x2]) (r := [.int y12_3]) 47 (gd rfl) rfl rfl rfl rfl rfl (Nat.le_of_ble_eq_true rfl) (mc := 0) (ms := 0) (Nat.zero_le _) (Nat.zero_le _) (P := fun v u => _) ?_ (fun v u h => h)
            intro po44 xx44 hp44 hx44
            refine g_enter2 (k := 311) (N := 300) (by first | exact dq1 hd rfl | exact dq0 hd rfl | exact dq2 hd rfl | exact dq3 hd rfl | omega) rfl (Nat.le_of_ble_eq_true rfl) ?_
            refine g_iload_n 1 (gd rfl) rfl rfl ?_
            refine g_iload_n 2 (gd rfl) rfl rfl ?_
            refine g_ishr 3 (gd rfl) rfl (fun z44x2 e44x2 => ?_)
            refine g_iconst 1 4 (gd rfl) rfl rfl ?_
            refine g_iand 5 (gd rfl) rfl (fun z44x4 e44x4 => ?_)
            have i44x4 := in_and2 e44x4 (in_c 1 rfl) rfl
            refine g_iconst 1 6 (gd rfl) rfl rfl ?_
            refine g_cmp_ne 9 13 (gd rfl) rfl rfl (fun c44x6 => ?_) (fun c44x6 => ?_)
            · skip
              have i44x6 := r_ne1 0 0 c44x6 i44x4 (in_c 1 rfl) rfl
              refine g_iconst 0 14 (gd rfl) rfl rfl ?_
              refine g_ireturn (gd rfl) rfl (nb01 (in_w 0 1 (in_c 0 rfl) rfl)) (hp44 _ _ ?_)
              show GG _ _ _ _ _ _ _ _ [.int (Int32.ofInt 0), .int y12_3] _ _ _
              refine g_if_eq 50 57 (gd rfl) rfl rfl (fun c47 => ?_) (fun c47 => ?_)
              · skip
                refine g_iconst 0 58 (gd rfl) rfl rfl ?_
                refine g_ior 59 (gd rfl) rfl (fun z58 e58 => ?_)
                refine g_istore_n 60 (gd rfl) rfl (Nat.le_of_ble_eq_true rfl) ?_
                refine g_iinc 63 (gd rfl) rfl rfl (Nat.le_of_ble_eq_true rfl) (fun z60 e60 => ?_)
                have i60 := in_add 1 32 e60 i18 (in_c 1 rfl) rfl rfl
                refine g_goto 12 (gd rfl) rfl ?_
                have n12 : (z60).toInt ≤ (u_109_20).toInt := by (first | have a0 := oa5 h2 h1 i18a i18 i60 | ((first | have a0 := in_u h2 | (have a0 := h2; unfold In at a0)); (first | have a1 := in_u h1 | (have a1 := h1; unfold In at a1)); (first | have a2 := in_u i18a | (have a2 := i18a; unfold In at a2)); (first | have a3 := in_u i18 | (have a3 := i18; unfold In at a3)); (first | have a4 := in_u i60 | (have a4 := i60; unfold In at a4)))); have a5 := t_add e60 i18 (in_c 1 rfl) rfl; (first | have a6 := in_u ((in_c 1 rfl)) | (have a6 := (in_c 1 rfl); unfold In at a6)); omega
                have n12a : ∀ j : Nat, (j : Int) < nmx sc12 → bt (sc12.1 129 j) j = true := by first | exact g12_0 | (first | exact g12_0 | exact fun j hj => p4 j ⟨hj, by have h0 : (Int32.ofInt (-1)).toInt = -1 := rfl; rw [h0]; omega⟩)
                have n12b : RCH sc12 (sc12.1 129) := by first | exact g12_1 | exact p4a rfl rfl rfl
                have n12c : ∀ v : Nat, (bt (z58) v = true ↔ ((v : Int) < (z60).toInt ∧ bt (sc12.1 129 (x1).toNatClampNeg) v = true ∧ bt (sc12.1 129 v) (x2).toNatClampNeg = true)) := by exact bset_no g12_2 (by (first | have a0 := oa5 h2 h1 i18a i18 i60 | ((first | have a0 := in_u h2 | (have a0 := h2; unfold In at a0)); (first | have a1 := in_u h1 | (have a1 := h1; unfold In at a1)); (first | have a2 := in_u i18a | (have a2 := i18a; unfold In at a2)); (first | have a3 := in_u i18 | (have a3 := i18; unfold In at a3)); (first | have a4 := in_u i60 | (have a4 := i60; unfold In at a4)))); have a5 := t_add e60 i18 (in_c 1 rfl) rfl; (first | have a6 := in_u ((in_c 1 rfl)) | (have a6 := (in_c 1 rfl); unfold In at a6)); omega) (by (first | have a0 := oa5 h2 h1 i18a i18 i60 | ((first | have a0 := in_u h2 | (have a0 := h2; unfold In at a0)); (first | have a1 := in_u h1 | (have a1 := h1; unfold In at a1)); (first | have a2 := in_u i18a | (have a2 := i18a; unfold In at a2)); (first | have a3 := in_u i18 | (have a3 := i18; unfold In at a3)); (first | have a4 := in_u i60 | (have a4 := i60; unfold In at a4)))); have a5 := t_add e60 i18 (in_c 1 rfl) rfl; (first | have a6 := in_u ((in_c 1 rfl)) | (have a6 := (in_c 1 rfl); unfold In at a6)); omega) (fun h => by have hb := bt_no e44x2 e44x4 h2 c44x6; rw [e42, h.2] at hb; cases hb) e58
                exact gg_w (by first | exact Nat.le_add_right _ _ | exact gw2 | exact gw3 | exact gwe rfl | exact gwf rfl | exact gwg rfl | exact gwh rfl | omega) (gg_f (gf_cons rfl (gf_cons rfl (gf_cons rfl (gf_cons rfl (gf_cons rfl gf_nil))))) (ih12 sc12 z58 z60 hIc12 hFc12 (in_w 0 32 i60 rfl) n12 n12a n12b n12c (m_up mm12 (t_add e60 i18 (in_c 1 rfl) rfl) (in_w 1 1 (in_c 1 rfl) rfl))))
              · skip
                exact zn_ne c47 (in_c 0 rfl) rfl
            · skip
              have i44x6 := r_eq1 1 1 c44x6 i44x4 (in_c 1 rfl) rfl
              refine g_iconst 1 10 (gd rfl) rfl rfl ?_
              refine g_goto 14 (gd rfl) rfl ?_
              refine g_ireturn (gd rfl) rfl (nb01 (in_w 0 1 (in_c 1 rfl) rfl)) (hp44 _ _ ?_)
              show GG _ _ _ _ _ _ _ _ [.int (Int32.ofInt 1), .int y12_3] _ _ _
              refine g_if_eq 50 57 (gd rfl) rfl rfl (fun c47 => ?_) (fun c47 => ?_)
              · skip
                exact zn_eq c47 (in_c 1 rfl) rfl
              · skip
                refine g_iconst 1 51 (gd rfl) rfl rfl ?_
                refine g_iload 53 (gd rfl) rfl rfl ?_
                refine g_ishl 54 (gd rfl) rfl (fun z53 e53 => ?_)
                refine g_goto 58 (gd rfl) rfl ?_
                refine g_ior 59 (gd rfl) rfl (fun z58 e58 => ?_)
                refine g_istore_n 60 (gd rfl) rfl (Nat.le_of_ble_eq_true rfl) ?_
                refine g_iinc 63 (gd rfl) rfl rfl (Nat.le_of_ble_eq_true rfl) (fun z60 e60 => ?_)
                have i60 := in_add 1 32 e60 i18 (in_c 1 rfl) rfl rfl
                refine g_goto 12 (gd rfl) rfl ?_
                have n12 : (z60).toInt ≤ (u_109_20).toInt := by (first | have a0 := oa5 h2 h1 i18a i18 i60 | ((first | have a0 := in_u h2 | (have a0 := h2; unfold In at a0)); (first | have a1 := in_u h1 | (have a1 := h1; unfold In at a1)); (first | have a2 := in_u i18a | (have a2 := i18a; unfold In at a2)); (first | have a3 := in_u i18 | (have a3 := i18; unfold In at a3)); (first | have a4 := in_u i60 | (have a4 := i60; unfold In at a4)))); have a5 := t_add e60 i18 (in_c 1 rfl) rfl; (first | have a6 := in_u ((in_c 1 rfl)) | (have a6 := (in_c 1 rfl); unfold In at a6)); omega
                have n12a : ∀ j : Nat, (j : Int) < nmx sc12 → bt (sc12.1 129 j) j = true := by first | exact g12_0 | (first | exact g12_0 | exact fun j hj => p4 j ⟨hj, by have h0 : (Int32.ofInt (-1)).toInt = -1 := rfl; rw [h0]; omega⟩)
                have n12b : RCH sc12 (sc12.1 129) := by first | exact g12_1 | exact p4a rfl rfl rfl
                have n12c : ∀ v : Nat, (bt (z58) v = true ↔ ((v : Int) < (z60).toInt ∧ bt (sc12.1 129 (x1).toNatClampNeg) v = true ∧ bt (sc12.1 129 v) (x2).toNatClampNeg = true)) := by exact bset_yes g12_2 (by (first | have a0 := oa5 h2 h1 i18a i18 i60 | ((first | have a0 := in_u h2 | (have a0 := h2; unfold In at a0)); (first | have a1 := in_u h1 | (have a1 := h1; unfold In at a1)); (first | have a2 := in_u i18a | (have a2 := i18a; unfold In at a2)); (first | have a3 := in_u i18 | (have a3 := i18; unfold In at a3)); (first | have a4 := in_u i60 | (have a4 := i60; unfold In at a4)))); have a5 := t_add e60 i18 (in_c 1 rfl) rfl; (first | have a6 := in_u ((in_c 1 rfl)) | (have a6 := (in_c 1 rfl); unfold In at a6)); omega) i18 (by rw [← e27]; exact bt_yes e30x2 e30x4 i18 c30x6) (by rw [← e42]; exact bt_yes e44x2 e44x4 h2 c44x6) e53 e58
                exact gg_w (by first | exact Nat.le_add_right _ _ | exact gw2 | exact gw3 | exact gwe rfl | exact gwf rfl | exact gwg rfl | exact gwh rfl | omega) (gg_f (gf_cons rfl (gf_cons rfl (gf_cons rfl (gf_cons rfl (gf_cons rfl gf_nil))))) (ih12 sc12 z58 z60 hIc12 hFc12 (in_w 0 32 i60 rfl) n12 n12a n12b n12c (m_up mm12 (t_add e60 i18 (in_c 1 rfl) rfl) (in_w 1 1 (in_c 1 rfl) rfl))))
  refine g_enter2 (k := 314) (N := 30601) (by first | exact dq1 hd rfl | exact dq0 hd rfl | exact dq2 hd rfl | exact dq3 hd rfl | omega) rfl (Nat.le_of_ble_eq_true rfl) ?_
  refine g_aload_n 1 (gd rfl) rfl rfl ?_
  refine g_iconst 0 2 (gd rfl) rfl rfl ?_
  refine g_iconst (-1) 3 (gd rfl) rfl rfl ?_
  refine g_iconst (-1) 4 (gd rfl) rfl rfl ?_
  refine g_callv (X := _) (As := [.int (Int32.ofInt 0), .int (Int32.ofInt (-1)), .int (Int32.ofInt (-1))]) (r := []) (b := A 109) (q := 109) 7 (gd rfl) rfl rfl rfl rfl rfl (ww_o rfl) (Nat.le_of_ble_eq_true rfl) (Nat.zero_le _) (Nat.zero_le _) (k_310 (by first | exact dq1 hd rfl | exact dq0 hd rfl | exact dq2 hd rfl | exact dq3 hd rfl | omega) hI (in_w 0 1 (in_c 0 rfl) rfl) (in_w (-1) 159 (in_c (-1) rfl) rfl) (in_w (-1) 31 (in_c (-1) rfl) rfl)) (fun e u h => h) (fun v u h => ?_)
  obtain ⟨s4, hI4, hF4, rfl, rfl, p4, p4a⟩ := h
  show GG _ _ _ _ _ _ _ _ [] _ _ _
  refine g_iconst 0 8 (gd rfl) rfl rfl ?_
  refine g_istore_n 9 (gd rfl) rfl (Nat.le_of_ble_eq_true rfl) ?_
  refine g_iconst 0 10 (gd rfl) rfl rfl ?_
  refine g_istore 12 (gd rfl) rfl (Nat.le_of_ble_eq_true rfl) ?_
  have n12 : ((Int32.ofInt 0)).toInt ≤ (u_109_20).toInt := by (first | have a0 := oa4 ro_109_20 h2 h1 ((in_c 0 rfl)) | ((first | have a0 := in_u ro_109_20 | (have a0 := ro_109_20; unfold In at a0)); (first | have a1 := in_u h2 | (have a1 := h2; unfold In at a1)); (first | have a2 := in_u h1 | (have a2 := h1; unfold In at a2)); (first | have a3 := in_u ((in_c 0 rfl)) | (have a3 := (in_c 0 rfl); unfold In at a3)))); omega
  have n12a : ∀ j : Nat, (j : Int) < nmx s4 → bt (s4.1 129 j) j = true := by first | exact g12_0 | exact fun j hj => p4 j ⟨hj, by have h0 : (Int32.ofInt (-1)).toInt = -1 := rfl; rw [h0]; omega⟩
  have n12b : RCH s4 (s4.1 129) := by first | exact g12_1 | exact p4a rfl rfl rfl
  have n12c : ∀ v : Nat, (bt ((Int32.ofInt 0)) v = true ↔ ((v : Int) < ((Int32.ofInt 0)).toInt ∧ bt (s4.1 129 (x1).toNatClampNeg) v = true ∧ bt (s4.1 129 v) (x2).toNatClampNeg = true)) := by (intro v; rw [show (Int32.ofInt 0) = (0 : Int32) from rfl, bt_z]; exact ⟨fun h => (by cases h), fun h => by exfalso; have h1 := h.1; have h0 : (0 : Int32).toInt = 0 := rfl; omega⟩)
  exact gg_w (by first | exact Nat.le_of_ble_eq_true rfl | omega) (gg_f (gf_cons rfl (gf_cons rfl (gf_cons rfl (gf_cons rfl (gf_cons rfl gf_nil))))) (ct12 33 s4 (Int32.ofInt 0) (Int32.ofInt 0) hI4 (fr_tr rfl fr_rf hF4) (in_w 0 32 (in_c 0 rfl) rfl) n12 n12a n12b n12c (m_in 33 (in_w 0 32 (in_c 0 rfl) rfl) rfl)))

def fm_317 : FM := ([133], [], [(109, 0)], [])
/-- GraphHouseModel.width -/
theorem k_317 {Z : AmZ} {A : Nat → Nat} {s : GS} {ex : va_W} {d : Nat} {X : AmX} {x1 : Int32} {x2 : Int32} (hd : 4 ≤ d) (hI : Inv s)  : GC Z d 317 [.ref (A 109), .int x1, .int x2] (WW Z A s ++ ex) 0 0 (fun v u => ∃ t : GS, Inv t ∧ Fr fm_317 s t ∧ ∃ z : Int32, v = some (.int z) ∧ u = WW Z A t ++ ex ∧ In z (-2147483648) 2147483647) X := by
  intro post xp hP hX
  obtain ⟨u_109_19, e_109_19⟩ : ∃ w, w = s.2.2.1 109 19 := ⟨_, rfl⟩
  have ro_109_19 := inv_F hI 0 160 rfl e_109_19
  obtain ⟨u_109_20, e_109_20⟩ : ∃ w, w = s.2.2.1 109 20 := ⟨_, rfl⟩
  have ro_109_20 := inv_F hI 0 32 rfl e_109_20
  have ct66 : ∀ (k66 : Nat) (sc66 : GS) (y66_3 : Int32), Inv sc66 → Fr fm_317 s sc66 → (In x1 0 31) → (In x2 0 31) → (In y66_3 0 32) → 32 - (y66_3).toInt < (k66 : Int) → GG Z (d - 1) 317 post (gx xp) (1 + k66 * 725803) 66 (fun j => xlook j [(0, .ref (A 109)), (1, .int x1), (2, .int x2), (3, .int y66_3)]) [] (WW Z A sc66 ++ ex) 0 0 := by
    intro k66
    induction k66 with
    | zero => intro sc66 y66_3 hIc66 hFc66 j66_1 j66_2 j66_3 mm66; exact m_no mm66 j66_3 rfl
    | succ k66 ih66 =>
      intro sc66 y66_3 hIc66 hFc66 j66_1 j66_2 j66_3 mm66
      refine gg_w (M := 1 + k66 * 725803 + 725803) gws ?_
      have ct80 : ∀ (k80 : Nat) (sc80 : GS) (y80_4 : Int32), Inv sc80 → Fr fm_317 s sc80 → (In y66_3 0 31) → (In y80_4 0 400) → 400 - (y80_4).toInt < (k80 : Int) → GG Z (d - 1) 317 post (gx xp) (1 + k66 * 725803 + 1 + k80 * 1801) 80 (fun j => xlook j [(0, .ref (A 109)), (1, .int x1), (2, .int x2), (3, .int y66_3), (4, .int y80_4)]) [] (WW Z A sc80 ++ ex) 0 0 := by
        intro k80
        induction k80 with
        | zero => intro sc80 y80_4 hIc80 hFc80 j80_3 j80_4 mm80; exact m_no mm80 j80_4 rfl
        | succ k80 ih80 =>
          intro sc80 y80_4 hIc80 hFc80 j80_3 j80_4 mm80
          refine gg_w (M := 1 + k66 * 725803 + 1 + k80 * 1801 + 1801) gws ?_
          have ct210 : ∀ (sc210 : GS) , Inv sc210 → Fr fm_317 s sc210 → (In y80_4 0 319) → GG Z (d - 1) 317 post (gx xp) (1 + k66 * 725803 + 1 + k80 * 1801 + 901) 210 (fun j => xlook j [(0, .ref (A 109)), (1, .int x1), (2, .int x2), (3, .int y66_3), (4, .int y80_4)]) [] (WW Z A sc210 ++ ex) 0 0 := by
            intro sc210  hIc210 hFc210 j210_4
            refine g_iinc 213 (gd rfl) rfl rfl (Nat.le_of_ble_eq_true rfl) (fun z210 e210 => ?_)
            have i210 := in_add 1 320 e210 j210_4 (in_c 1 rfl) rfl rfl
            refine g_goto 80 (gd rfl) rfl ?_
            exact gg_w (by first | exact Nat.le_add_right _ _ | exact gw2 | exact gw3 | exact gwe rfl | exact gwf rfl | exact gwg rfl | exact gwh rfl | omega) (gg_f (gf_cons rfl (gf_cons rfl (gf_cons rfl (gf_cons rfl (gf_cons rfl gf_nil))))) (ih80 sc210 z210 hIc210 hFc210 (in_w 0 31 j80_3 rfl) (in_w 0 400 i210 rfl) (m_up mm80 (t_add e210 j210_4 (in_c 1 rfl) rfl) (in_w 1 1 (in_c 1 rfl) rfl))))
          refine g_iload 82 (gd rfl) rfl rfl ?_
          refine g_aload_n 83 (gd rfl) rfl rfl ?_
          refine g_getI 86 (gd rfl) rfl rfl rfl (fun z83 e83 => ?_)
          have q83 : u_109_19 = z83 := (fr_F e_109_19 hFc80 rfl).trans e83.symm
          subst q83
          refine g_sipush 160 89 (gd rfl) rfl rfl ?_
          refine g_iadd 90 (gd rfl) rfl (fun z89 e89 => ?_)
          have i89 := in_add 160 320 e89 ro_109_19 (in_c 160 rfl) rfl rfl
          refine g_cmp_ge 93 216 (gd rfl) rfl rfl (fun c90 => ?_) (fun c90 => ?_)
          · skip
            have i90 := r_le2 160 400 c90 i89 j80_4 rfl
            refine g_iinc 219 (gd rfl) rfl rfl (Nat.le_of_ble_eq_true rfl) (fun z216 e216 => ?_)
            have i216 := in_add 1 32 e216 j80_3 (in_c 1 rfl) rfl rfl
            refine g_goto 66 (gd rfl) rfl ?_
            exact gg_w (by first | exact Nat.le_add_right _ _ | exact gw2 | exact gw3 | exact gwe rfl | exact gwf rfl | exact gwg rfl | exact gwh rfl | omega) (gg_f (gf_cons rfl (gf_cons rfl (gf_cons rfl (gf_cons rfl gf_nil)))) (ih66 sc80 z216 hIc80 hFc80 (in_w 0 31 j66_1 rfl) (in_w 0 31 j66_2 rfl) (in_w 0 32 i216 rfl) (m_up mm66 (t_add e216 j80_3 (in_c 1 rfl) rfl) (in_w 1 1 (in_c 1 rfl) rfl))))
          · skip
            have i90 := r_lt1 0 319 c90 j80_4 i89 rfl
            refine g_aload_n 94 (gd rfl) rfl rfl ?_
            refine g_getA (q2 := 112) 97 (gd rfl) rfl rfl rfl rfl ?_
            refine g_iload 99 (gd rfl) rfl rfl ?_
            refine g_baload 100 (gd rfl) rfl (n := 480) rfl (in_ix i90 rfl) (fun z99 e99 => ?_)
            have i99 := inv_I hIc80 (n := 480) (t := 3) 0 1 rfl (in_ix i90 rfl) rfl e99
            refine g_if_eq 103 210 (gd rfl) rfl rfl (fun c100 => ?_) (fun c100 => ?_)
            · skip
              have i100 := z_eq 0 0 c100 i99 rfl
              exact gg_w (by first | exact Nat.le_add_right _ _ | exact gw2 | exact gw3 | exact gwe rfl | exact gwf rfl | exact gwg rfl | exact gwh rfl | omega) (gg_f (gf_cons rfl (gf_cons rfl (gf_cons rfl (gf_cons rfl (gf_cons rfl gf_nil))))) (ct210 sc80  hIc80 hFc80 (in_w 0 319 i90 rfl)))
            · skip
              have i100 := z_ne 1 1 c100 i99 rfl
              refine g_aload_n 104 (gd rfl) rfl rfl ?_
              refine g_getA (q2 := 133) 107 (gd rfl) rfl rfl rfl rfl ?_
              refine g_aload_n 108 (gd rfl) rfl rfl ?_
              refine g_getA (q2 := 113) 111 (gd rfl) rfl rfl rfl rfl ?_
              refine g_iload 113 (gd rfl) rfl rfl ?_
              refine g_iaload 114 (gd rfl) rfl (n := 480) rfl (in_ix i90 rfl) (fun z113 e113 => ?_)
              have i113 := inv_I hIc80 (n := 480) (t := 0) 0 31 rfl (in_ix i90 rfl) rfl e113
              refine g_iaload 115 (gd rfl) rfl (n := 32) rfl (in_ix i113 rfl) (fun z114 e114 => ?_)
              refine g_if_lt 118 210 (gd rfl) rfl rfl (fun c115 => ?_) (fun c115 => ?_)
              · skip
                have i115 := z_lt (-2147483648) (-1) c115 (i_rng z114) rfl
                exact gg_w (by first | exact Nat.le_add_right _ _ | exact gw2 | exact gw3 | exact gwe rfl | exact gwf rfl | exact gwg rfl | exact gwh rfl | omega) (gg_f (gf_cons rfl (gf_cons rfl (gf_cons rfl (gf_cons rfl (gf_cons rfl gf_nil))))) (ct210 sc80  hIc80 hFc80 (in_w 0 319 i90 rfl)))
              · skip
                have i115 := z_ge 0 2147483647 c115 (i_rng z114) rfl
                refine g_aload_n 119 (gd rfl) rfl rfl ?_
                refine g_getA (q2 := 116) 122 (gd rfl) rfl rfl rfl rfl ?_
                refine g_iload 124 (gd rfl) rfl rfl ?_
                refine g_iaload 125 (gd rfl) rfl (n := 480) rfl (in_ix i90 rfl) (fun z124 e124 => ?_)
                have i124 := inv_I hIc80 (n := 480) (t := 0) 0 1000000 rfl (in_ix i90 rfl) rfl e124
                refine g_aload_n 126 (gd rfl) rfl rfl ?_
                refine g_getA (q2 := 133) 129 (gd rfl) rfl rfl rfl rfl ?_
                refine g_aload_n 130 (gd rfl) rfl rfl ?_
                refine g_getA (q2 := 113) 133 (gd rfl) rfl rfl rfl rfl ?_
                refine g_iload 135 (gd rfl) rfl rfl ?_
                refine g_iaload 136 (gd rfl) rfl (n := 480) rfl (in_ix i90 rfl) (fun z135 e135 => ?_)
                have q135 : z113 = z135 := (e113).trans e135.symm
                subst q135
                refine g_iaload 137 (gd rfl) rfl (n := 32) rfl (in_ix i113 rfl) (fun z136 e136 => ?_)
                have q136 : z114 = z136 := (e114).trans e136.symm
                subst q136
                refine g_cmp_ge 140 150 (gd rfl) rfl rfl (fun c137 => ?_) (fun c137 => ?_)
                · skip
                  have i137 := r_le1 0 1000000 c137 i115 i124 rfl
                  refine g_aload_n 151 (gd rfl) rfl rfl ?_
                  refine g_getA (q2 := 133) 154 (gd rfl) rfl rfl rfl rfl ?_
                  refine g_aload_n 155 (gd rfl) rfl rfl ?_
                  refine g_getA (q2 := 113) 158 (gd rfl) rfl rfl rfl rfl ?_
                  refine g_iload 160 (gd rfl) rfl rfl ?_
                  refine g_iaload 161 (gd rfl) rfl (n := 480) rfl (in_ix i90 rfl) (fun z160 e160 => ?_)
                  have q160 : z113 = z160 := (e113).trans e160.symm
                  subst q160
                  refine g_iaload 162 (gd rfl) rfl (n := 32) rfl (in_ix i113 rfl) (fun z161 e161 => ?_)
                  have q161 : z114 = z161 := (e114).trans e161.symm
                  subst q161
                  refine g_istore 164 (gd rfl) rfl (Nat.le_of_ble_eq_true rfl) ?_
                  refine g_aload_n 165 (gd rfl) rfl rfl ?_
                  refine g_getA (q2 := 133) 168 (gd rfl) rfl rfl rfl rfl ?_
                  refine g_aload_n 169 (gd rfl) rfl rfl ?_
                  refine g_getA (q2 := 114) 172 (gd rfl) rfl rfl rfl rfl ?_
                  refine g_iload 174 (gd rfl) rfl rfl ?_
                  refine g_iaload 175 (gd rfl) rfl (n := 480) rfl (in_ix i90 rfl) (fun z174 e174 => ?_)
                  have i174 := inv_I hIc80 (n := 480) (t := 0) 0 31 rfl (in_ix i90 rfl) rfl e174
                  refine g_iload 177 (gd rfl) rfl rfl ?_
                  refine g_aload_n 178 (gd rfl) rfl rfl ?_
                  refine g_getA (q2 := 133) 181 (gd rfl) rfl rfl rfl rfl ?_
                  refine g_aload_n 182 (gd rfl) rfl rfl ?_
                  refine g_getA (q2 := 114) 185 (gd rfl) rfl rfl rfl rfl ?_
                  refine g_iload 187 (gd rfl) rfl rfl ?_
                  refine g_iaload 188 (gd rfl) rfl (n := 480) rfl (in_ix i90 rfl) (fun z187 e187 => ?_)
                  have q187 : z174 = z187 := (e174).trans e187.symm
                  subst q187
                  refine g_iaload 189 (gd rfl) rfl (n := 32) rfl (in_ix i174 rfl) (fun z188 e188 => ?_)
                  refine g_cmp_le 192 197 (gd rfl) rfl rfl (fun c189 => ?_) (fun c189 => ?_)
                  · skip
                    have i189 := r_le2 0 2147483647 c189 i137 (i_rng z188) rfl
                    refine g_aload_n 198 (gd rfl) rfl rfl ?_
                    refine g_getA (q2 := 133) 201 (gd rfl) rfl rfl rfl rfl ?_
                    refine g_aload_n 202 (gd rfl) rfl rfl ?_
                    refine g_getA (q2 := 114) 205 (gd rfl) rfl rfl rfl rfl ?_
                    refine g_iload 207 (gd rfl) rfl rfl ?_
                    refine g_iaload 208 (gd rfl) rfl (n := 480) rfl (in_ix i90 rfl) (fun z207 e207 => ?_)
                    have q207 : z174 = z207 := (e174).trans e207.symm
                    subst q207
                    refine g_iaload 209 (gd rfl) rfl (n := 32) rfl (in_ix i174 rfl) (fun z208 e208 => ?_)
                    have q208 : z188 = z208 := (e188).trans e208.symm
                    subst q208
                    refine g_iastore 210 (gd rfl) rfl (n := 32) rfl (in_ix i174 rfl) ?_
                    have hI209 := inv_sI (q := 133) (j := z174.toNatClampNeg) hIc80 rfl (in_w (-2147483648) 2147483647 i189 rfl)
                    exact gg_w (by first | exact Nat.le_add_right _ _ | exact gw2 | exact gw3 | exact gwe rfl | exact gwf rfl | exact gwg rfl | exact gwh rfl | omega) (gg_f (gf_cons rfl (gf_cons rfl (gf_cons rfl (gf_cons rfl (gf_cons rfl gf_nil))))) (ct210 (sI sc80 133 z174.toNatClampNeg z188)  hI209 (fr_sI rfl hFc80) (in_w 0 319 i90 rfl)))
                  · skip
                    have i189 := r_lt1 (-2147483648) 999999 c189 (i_rng z188) i137 rfl
                    refine g_iload 194 (gd rfl) rfl rfl ?_
                    refine g_goto 209 (gd rfl) rfl ?_
                    refine g_iastore 210 (gd rfl) rfl (n := 32) rfl (in_ix i174 rfl) ?_
                    have hI209 := inv_sI (q := 133) (j := z174.toNatClampNeg) hIc80 rfl (in_w (-2147483648) 2147483647 i137 rfl)
                    exact gg_w (by first | exact Nat.le_add_right _ _ | exact gw2 | exact gw3 | exact gwe rfl | exact gwf rfl | exact gwg rfl | exact gwh rfl | omega) (gg_f (gf_cons rfl (gf_cons rfl (gf_cons rfl (gf_cons rfl (gf_cons rfl gf_nil))))) (ct210 (sI sc80 133 z174.toNatClampNeg z114)  hI209 (fr_sI rfl hFc80) (in_w 0 319 i90 rfl)))
                · skip
                  have i137 := r_lt2 1 2147483647 c137 i124 i115 rfl
                  refine g_aload_n 141 (gd rfl) rfl rfl ?_
                  refine g_getA (q2 := 116) 144 (gd rfl) rfl rfl rfl rfl ?_
                  refine g_iload 146 (gd rfl) rfl rfl ?_
                  refine g_iaload 147 (gd rfl) rfl (n := 480) rfl (in_ix i90 rfl) (fun z146 e146 => ?_)
                  have q146 : z124 = z146 := (e124).trans e146.symm
                  subst q146
                  refine g_goto 162 (gd rfl) rfl ?_
                  refine g_istore 164 (gd rfl) rfl (Nat.le_of_ble_eq_true rfl) ?_
                  refine g_aload_n 165 (gd rfl) rfl rfl ?_
                  refine g_getA (q2 := 133) 168 (gd rfl) rfl rfl rfl rfl ?_
                  refine g_aload_n 169 (gd rfl) rfl rfl ?_
                  refine g_getA (q2 := 114) 172 (gd rfl) rfl rfl rfl rfl ?_
                  refine g_iload 174 (gd rfl) rfl rfl ?_
                  refine g_iaload 175 (gd rfl) rfl (n := 480) rfl (in_ix i90 rfl) (fun z174 e174 => ?_)
                  have i174 := inv_I hIc80 (n := 480) (t := 0) 0 31 rfl (in_ix i90 rfl) rfl e174
                  refine g_iload 177 (gd rfl) rfl rfl ?_
                  refine g_aload_n 178 (gd rfl) rfl rfl ?_
                  refine g_getA (q2 := 133) 181 (gd rfl) rfl rfl rfl rfl ?_
                  refine g_aload_n 182 (gd rfl) rfl rfl ?_
                  refine g_getA (q2 := 114) 185 (gd rfl) rfl rfl rfl rfl ?_
                  refine g_iload 187 (gd rfl) rfl rfl ?_
                  refine g_iaload 188 (gd rfl) rfl (n := 480) rfl (in_ix i90 rfl) (fun z187 e187 => ?_)
                  have q187 : z174 = z187 := (e174).trans e187.symm
                  subst q187
                  refine g_iaload 189 (gd rfl) rfl (n := 32) rfl (in_ix i174 rfl) (fun z188 e188 => ?_)
                  refine g_cmp_le 192 197 (gd rfl) rfl rfl (fun c189 => ?_) (fun c189 => ?_)
                  · skip
                    have i189 := r_le2 0 2147483647 c189 i124 (i_rng z188) rfl
                    refine g_aload_n 198 (gd rfl) rfl rfl ?_
                    refine g_getA (q2 := 133) 201 (gd rfl) rfl rfl rfl rfl ?_
                    refine g_aload_n 202 (gd rfl) rfl rfl ?_
                    refine g_getA (q2 := 114) 205 (gd rfl) rfl rfl rfl rfl ?_
                    refine g_iload 207 (gd rfl) rfl rfl ?_
                    refine g_iaload 208 (gd rfl) rfl (n := 480) rfl (in_ix i90 rfl) (fun z207 e207 => ?_)
                    have q207 : z174 = z207 := (e174).trans e207.symm
                    subst q207
                    refine g_iaload 209 (gd rfl) rfl (n := 32) rfl (in_ix i174 rfl) (fun z208 e208 => ?_)
                    have q208 : z188 = z208 := (e188).trans e208.symm
                    subst q208
                    refine g_iastore 210 (gd rfl) rfl (n := 32) rfl (in_ix i174 rfl) ?_
                    have hI209 := inv_sI (q := 133) (j := z174.toNatClampNeg) hIc80 rfl (in_w (-2147483648) 2147483647 i189 rfl)
                    exact gg_w (by first | exact Nat.le_add_right _ _ | exact gw2 | exact gw3 | exact gwe rfl | exact gwf rfl | exact gwg rfl | exact gwh rfl | omega) (gg_f (gf_cons rfl (gf_cons rfl (gf_cons rfl (gf_cons rfl (gf_cons rfl gf_nil))))) (ct210 (sI sc80 133 z174.toNatClampNeg z188)  hI209 (fr_sI rfl hFc80) (in_w 0 319 i90 rfl)))
                  · skip
                    have i189 := r_lt1 (-2147483648) 999999 c189 (i_rng z188) i124 rfl
                    refine g_iload 194 (gd rfl) rfl rfl ?_
                    refine g_goto 209 (gd rfl) rfl ?_
                    refine g_iastore 210 (gd rfl) rfl (n := 32) rfl (in_ix i174 rfl) ?_
                    have hI209 := inv_sI (q := 133) (j := z174.toNatClampNeg) hIc80 rfl (in_w (-2147483648) 2147483647 i124 rfl)
                    exact gg_w (by first | exact Nat.le_add_right _ _ | exact gw2 | exact gw3 | exact gwe rfl | exact gwf rfl | exact gwg rfl | exact gwh rfl | omega) (gg_f (gf_cons rfl (gf_cons rfl (gf_cons rfl (gf_cons rfl (gf_cons rfl gf_nil))))) (ct210 (sI sc80 133 z174.toNatClampNeg z124)  hI209 (fr_sI rfl hFc80) (in_w 0 319 i90 rfl)))
      refine g_iload_n 67 (gd rfl) rfl rfl ?_
      refine g_aload_n 68 (gd rfl) rfl rfl ?_
      refine g_getI 71 (gd rfl) rfl rfl rfl (fun z68 e68 => ?_)
      have q68 : u_109_20 = z68 := (fr_F e_109_20 hFc66 rfl).trans e68.symm
      subst q68
      refine g_cmp_ge 74 222 (gd rfl) rfl rfl (fun c71 => ?_) (fun c71 => ?_)
      · skip
        refine g_aload_n 223 (gd rfl) rfl rfl ?_
        refine g_getA (q2 := 133) 226 (gd rfl) rfl rfl rfl rfl ?_
        refine g_iload_n 227 (gd rfl) rfl rfl ?_
        refine g_iaload 228 (gd rfl) rfl (n := 32) rfl (in_ix j66_2 rfl) (fun z227 e227 => ?_)
        exact g_ireturn (gd rfl) rfl rfl (hP _ _ ⟨sc66, hIc66, hFc66, z227, rfl, rfl, in_w (-2147483648) 2147483647 (i_rng z227) rfl⟩)
      · skip
        have i71 := r_lt1 0 31 c71 j66_3 ro_109_20 rfl
        have i71a := r_lt2 1 32 c71 j66_3 ro_109_20 rfl
        refine g_aload_n 75 (gd rfl) rfl rfl ?_
        refine g_getI 78 (gd rfl) rfl rfl rfl (fun z75 e75 => ?_)
        have q75 : u_109_19 = z75 := (fr_F e_109_19 hFc66 rfl).trans e75.symm
        subst q75
        refine g_istore 80 (gd rfl) rfl (Nat.le_of_ble_eq_true rfl) ?_
        exact gg_w (by first | exact Nat.le_add_right _ _ | exact gw2 | exact gw3 | exact gwe rfl | exact gwf rfl | exact gwg rfl | exact gwh rfl | omega) (gg_f (gf_cons rfl (gf_cons rfl (gf_cons rfl (gf_cons rfl (gf_cons rfl gf_nil))))) (ct80 401 sc66 u_109_19 hIc66 hFc66 (in_w 0 31 i71 rfl) (in_w 0 400 ro_109_19 rfl) (m_in 401 (in_w 0 400 ro_109_19 rfl) rfl)))
  have ct32 : ∀ (k32 : Nat) (sc32 : GS) (y32_3 : Int32), Inv sc32 → Fr fm_317 s sc32 → (In x1 0 31) → (In x2 0 31) → (In y32_3 0 32) → 32 - (y32_3).toInt < (k32 : Int) → GG Z (d - 1) 317 post (gx xp) (23951501 + k32 * 900) 32 (fun j => xlook j [(0, .ref (A 109)), (1, .int x1), (2, .int x2), (3, .int y32_3)]) [] (WW Z A sc32 ++ ex) 0 0 := by
    intro k32
    induction k32 with
    | zero => intro sc32 y32_3 hIc32 hFc32 j32_1 j32_2 j32_3 mm32; exact m_no mm32 j32_3 rfl
    | succ k32 ih32 =>
      intro sc32 y32_3 hIc32 hFc32 j32_1 j32_2 j32_3 mm32
      refine gg_w (M := 23951501 + k32 * 900 + 900) gws ?_
      refine g_iload_n 33 (gd rfl) rfl rfl ?_
      refine g_aload_n 34 (gd rfl) rfl rfl ?_
      refine g_getI 37 (gd rfl) rfl rfl rfl (fun z34 e34 => ?_)
      have q34 : u_109_20 = z34 := (fr_F e_109_20 hFc32 rfl).trans e34.symm
      subst q34
      refine g_cmp_ge 40 64 (gd rfl) rfl rfl (fun c37 => ?_) (fun c37 => ?_)
      · skip
        refine g_iconst 0 65 (gd rfl) rfl rfl ?_
        refine g_istore_n 66 (gd rfl) rfl (Nat.le_of_ble_eq_true rfl) ?_
        exact gg_w (by first | exact Nat.le_add_right _ _ | exact gw2 | exact gw3 | exact gwe rfl | exact gwf rfl | exact gwg rfl | exact gwh rfl | omega) (gg_f (gf_cons rfl (gf_cons rfl (gf_cons rfl (gf_cons rfl gf_nil)))) (ct66 33 sc32 (Int32.ofInt 0) hIc32 hFc32 (in_w 0 31 j32_1 rfl) (in_w 0 31 j32_2 rfl) (in_w 0 32 (in_c 0 rfl) rfl) (m_in 33 (in_w 0 32 (in_c 0 rfl) rfl) rfl)))
      · skip
        have i37 := r_lt1 0 31 c37 j32_3 ro_109_20 rfl
        have i37a := r_lt2 1 32 c37 j32_3 ro_109_20 rfl
        refine g_aload_n 41 (gd rfl) rfl rfl ?_
        refine g_getA (q2 := 133) 44 (gd rfl) rfl rfl rfl rfl ?_
        refine g_iload_n 45 (gd rfl) rfl rfl ?_
        refine g_iload_n 46 (gd rfl) rfl rfl ?_
        refine g_iload_n 47 (gd rfl) rfl rfl ?_
        refine g_cmp_ne 50 56 (gd rfl) rfl rfl (fun c47 => ?_) (fun c47 => ?_)
        · skip
          refine g_iconst (-1) 57 (gd rfl) rfl rfl ?_
          refine g_iastore 58 (gd rfl) rfl (n := 32) rfl (in_ix i37 rfl) ?_
          have hI57 := inv_sI (q := 133) (j := y32_3.toNatClampNeg) hIc32 rfl (in_w (-2147483648) 2147483647 (in_c (-1) rfl) rfl)
          refine g_iinc 61 (gd rfl) rfl rfl (Nat.le_of_ble_eq_true rfl) (fun z58 e58 => ?_)
          have i58 := in_add 1 32 e58 i37 (in_c 1 rfl) rfl rfl
          refine g_goto 32 (gd rfl) rfl ?_
          exact gg_w (by first | exact Nat.le_add_right _ _ | exact gw2 | exact gw3 | exact gwe rfl | exact gwf rfl | exact gwg rfl | exact gwh rfl | omega) (gg_f (gf_cons rfl (gf_cons rfl (gf_cons rfl (gf_cons rfl gf_nil)))) (ih32 (sI sc32 133 y32_3.toNatClampNeg (Int32.ofInt (-1))) z58 hI57 (fr_sI rfl hFc32) (in_w 0 31 j32_1 rfl) (in_w 0 31 j32_2 rfl) (in_w 0 32 i58 rfl) (m_up mm32 (t_add e58 i37 (in_c 1 rfl) rfl) (in_w 1 1 (in_c 1 rfl) rfl))))
        · skip
          refine g_ldc_w 1000001 53 (gd rfl) rfl rfl ?_
          refine g_goto 57 (gd rfl) rfl ?_
          refine g_iastore 58 (gd rfl) rfl (n := 32) rfl (in_ix i37 rfl) ?_
          have hI57 := inv_sI (q := 133) (j := y32_3.toNatClampNeg) hIc32 rfl (in_w (-2147483648) 2147483647 (in_c 1000001 rfl) rfl)
          refine g_iinc 61 (gd rfl) rfl rfl (Nat.le_of_ble_eq_true rfl) (fun z58 e58 => ?_)
          have i58 := in_add 1 32 e58 i37 (in_c 1 rfl) rfl rfl
          refine g_goto 32 (gd rfl) rfl ?_
          exact gg_w (by first | exact Nat.le_add_right _ _ | exact gw2 | exact gw3 | exact gwe rfl | exact gwf rfl | exact gwg rfl | exact gwh rfl | omega) (gg_f (gf_cons rfl (gf_cons rfl (gf_cons rfl (gf_cons rfl gf_nil)))) (ih32 (sI sc32 133 y32_3.toNatClampNeg (Int32.ofInt 1000001)) z58 hI57 (fr_sI rfl hFc32) (in_w 0 31 j32_1 rfl) (in_w 0 31 j32_2 rfl) (in_w 0 32 i58 rfl) (m_up mm32 (t_add e58 i37 (in_c 1 rfl) rfl) (in_w 1 1 (in_c 1 rfl) rfl))))
  refine g_enter2 (k := 317) (N := 23982101) (by first | exact dq1 hd rfl | exact dq0 hd rfl | exact dq2 hd rfl | exact dq3 hd rfl | omega) rfl (Nat.le_of_ble_eq_true rfl) ?_
  refine g_aload_n 1 (gd rfl) rfl rfl ?_
  refine g_aload_n 2 (gd rfl) rfl rfl ?_
  refine g_iload_n 3 (gd rfl) rfl rfl ?_
  refine g_callv (X := _) (As := [.int x1]) (r := [.ref (A 109)]) (b := A 109) (q := 109) 6 (gd rfl) rfl rfl rfl rfl rfl (ww_o rfl) (Nat.le_of_ble_eq_true rfl) (mc := 0) (ms := 0) (Nat.zero_le _) (Nat.zero_le _) (P := fun v u => _) ?_ (fun e u h => h) (fun v u h => h)
  intro po3 xx3 hp3 hx3
  refine g_enter2 (k := 272) (N := 300) (by first | exact dq1 hd rfl | exact dq0 hd rfl | exact dq2 hd rfl | exact dq3 hd rfl | omega) rfl (Nat.le_of_ble_eq_true rfl) ?_
  refine g_iload_n 1 (gd rfl) rfl rfl ?_
  refine g_if_lt 4 16 (gd rfl) rfl rfl (fun c3x1 => ?_) (fun c3x1 => ?_)
  · skip
    have i3x1 := z_lt (-2147483648) (-1) c3x1 (i_rng x1) rfl
    refine g_iconst 0 17 (gd rfl) rfl rfl ?_
    refine g_ireturn (gd rfl) rfl (nb01 (in_w 0 1 (in_c 0 rfl) rfl)) (hp3 _ _ ?_)
    show GG _ _ _ _ _ _ _ _ [.int (Int32.ofInt 0), .ref (A 109)] _ _ _
    refine g_if_eq 9 21 (gd rfl) rfl rfl (fun c6 => ?_) (fun c6 => ?_)
    · skip
      refine g_iconst 0 22 (gd rfl) rfl rfl ?_
      refine g_callv (X := _) (As := [.int (Int32.ofInt 0)]) (r := []) (b := A 109) (q := 109) 25 (gd rfl) rfl rfl rfl rfl rfl (ww_o rfl) (Nat.le_of_ble_eq_true rfl) (mc := 0) (ms := 0) (Nat.zero_le _) (Nat.zero_le _) (P := fun v u => _) ?_ (fun e u h => h) (fun v u h => h)
      intro po22 xx22 hp22 hx22
      refine g_enter2 (k := 271) (N := 300) (by first | exact dq1 hd rfl | exact dq0 hd rfl | exact dq2 hd rfl | exact dq3 hd rfl | omega) rfl (Nat.le_of_ble_eq_true rfl) ?_
      refine g_aload_n 1 (gd rfl) rfl rfl ?_
      refine g_iload_n 2 (gd rfl) rfl rfl ?_
      refine g_iconst 1 3 (gd rfl) rfl rfl ?_
      refine g_callv (X := _) (As := [.int (Int32.ofInt 0), .int (Int32.ofInt 1)]) (r := []) (b := A 109) (q := 109) 6 (gd rfl) rfl rfl rfl rfl rfl (ww_o rfl) (Nat.le_of_ble_eq_true rfl) (mc := 0) (ms := 0) (Nat.zero_le _) (Nat.zero_le _) (P := fun v u => _) ?_ (fun e u h => h) (fun v u h => h)
      intro po22x3 xx22x3 hp22x3 hx22x3
      refine g_enter2 (k := 270) (N := 300) (by first | exact dq1 hd rfl | exact dq0 hd rfl | exact dq2 hd rfl | exact dq3 hd rfl | omega) rfl (Nat.le_of_ble_eq_true rfl) ?_
      refine g_aload_n 1 (gd rfl) rfl rfl ?_
      refine g_iload_n 2 (gd rfl) rfl rfl ?_
      refine g_if_ne 5 9 (gd rfl) rfl rfl (fun c22x3x2 => ?_) (fun c22x3x2 => ?_)
      · skip
        exact zn_ne c22x3x2 (in_c 0 rfl) rfl
      · skip
        refine g_iconst 1 6 (gd rfl) rfl rfl ?_
        refine g_goto 18 (gd rfl) rfl ?_
        refine g_putI 21 (gd rfl) rfl rfl rfl rfl ?_
        have hI22x3x18 := inv_sF (q := 109) (j := 0) hI rfl (in_w 0 2 (in_c 1 rfl) rfl)
        refine g_aload_n 22 (gd rfl) rfl rfl ?_
        refine g_getI 25 (gd rfl) rfl rfl rfl (fun z22x3x22 e22x3x22 => ?_)
        have q22x3x22 : (Int32.ofInt 1) = z22x3x22 := (sF_get).trans e22x3x22.symm
        subst q22x3x22
        refine g_if_le 28 32 (gd rfl) rfl rfl (fun c22x3x25 => ?_) (fun c22x3x25 => ?_)
        · skip
          exact zn_le c22x3x25 (in_c 1 rfl) rfl
        · skip
          refine g_iconst 1 29 (gd rfl) rfl rfl ?_
          refine g_goto 33 (gd rfl) rfl ?_
          refine g_ireturn (gd rfl) rfl (nb01 (in_w 0 1 (in_c 1 rfl) rfl)) (hp22x3 _ _ ?_)
          show GG _ _ _ _ _ _ _ _ [.int (Int32.ofInt 1)] _ _ _
          refine g_ireturn (gd rfl) rfl (nb01 (in_w 0 1 (in_c 1 rfl) rfl)) (hp22 _ _ ?_)
          show GG _ _ _ _ _ _ _ _ [.int (Int32.ofInt 1)] _ _ _
          refine g_if_eq 28 30 (gd rfl) rfl rfl (fun c25 => ?_) (fun c25 => ?_)
          · skip
            exact zn_eq c25 (in_c 1 rfl) rfl
          · skip
            refine g_iconst 0 29 (gd rfl) rfl rfl ?_
            exact g_ireturn (gd rfl) rfl rfl (hP _ _ ⟨(sF s 109 0 (Int32.ofInt 1)), hI22x3x18, (fr_sF rfl fr_rf), (Int32.ofInt 0), rfl, rfl, in_w (-2147483648) 2147483647 (in_c 0 rfl) rfl⟩)
    · skip
      exact zn_ne c6 (in_c 0 rfl) rfl
  · skip
    have i3x1 := z_ge 0 2147483647 c3x1 (i_rng x1) rfl
    refine g_iload_n 5 (gd rfl) rfl rfl ?_
    refine g_aload_n 6 (gd rfl) rfl rfl ?_
    refine g_getI 9 (gd rfl) rfl rfl rfl (fun z3x6 e3x6 => ?_)
    have q3x6 : u_109_20 = z3x6 := (e_109_20).trans e3x6.symm
    subst q3x6
    refine g_cmp_ge 12 16 (gd rfl) rfl rfl (fun c3x9 => ?_) (fun c3x9 => ?_)
    · skip
      refine g_iconst 0 17 (gd rfl) rfl rfl ?_
      refine g_ireturn (gd rfl) rfl (nb01 (in_w 0 1 (in_c 0 rfl) rfl)) (hp3 _ _ ?_)
      show GG _ _ _ _ _ _ _ _ [.int (Int32.ofInt 0), .ref (A 109)] _ _ _
      refine g_if_eq 9 21 (gd rfl) rfl rfl (fun c6 => ?_) (fun c6 => ?_)
      · skip
        refine g_iconst 0 22 (gd rfl) rfl rfl ?_
        refine g_callv (X := _) (As := [.int (Int32.ofInt 0)]) (r := []) (b := A 109) (q := 109) 25 (gd rfl) rfl rfl rfl rfl rfl (ww_o rfl) (Nat.le_of_ble_eq_true rfl) (mc := 0) (ms := 0) (Nat.zero_le _) (Nat.zero_le _) (P := fun v u => _) ?_ (fun e u h => h) (fun v u h => h)
        intro po22 xx22 hp22 hx22
        refine g_enter2 (k := 271) (N := 300) (by first | exact dq1 hd rfl | exact dq0 hd rfl | exact dq2 hd rfl | exact dq3 hd rfl | omega) rfl (Nat.le_of_ble_eq_true rfl) ?_
        refine g_aload_n 1 (gd rfl) rfl rfl ?_
        refine g_iload_n 2 (gd rfl) rfl rfl ?_
        refine g_iconst 1 3 (gd rfl) rfl rfl ?_
        refine g_callv (X := _) (As := [.int (Int32.ofInt 0), .int (Int32.ofInt 1)]) (r := []) (b := A 109) (q := 109) 6 (gd rfl) rfl rfl rfl rfl rfl (ww_o rfl) (Nat.le_of_ble_eq_true rfl) (mc := 0) (ms := 0) (Nat.zero_le _) (Nat.zero_le _) (P := fun v u => _) ?_ (fun e u h => h) (fun v u h => h)
        intro po22x3 xx22x3 hp22x3 hx22x3
        refine g_enter2 (k := 270) (N := 300) (by first | exact dq1 hd rfl | exact dq0 hd rfl | exact dq2 hd rfl | exact dq3 hd rfl | omega) rfl (Nat.le_of_ble_eq_true rfl) ?_
        refine g_aload_n 1 (gd rfl) rfl rfl ?_
        refine g_iload_n 2 (gd rfl) rfl rfl ?_
        refine g_if_ne 5 9 (gd rfl) rfl rfl (fun c22x3x2 => ?_) (fun c22x3x2 => ?_)
        · skip
          exact zn_ne c22x3x2 (in_c 0 rfl) rfl
        · skip
          refine g_iconst 1 6 (gd rfl) rfl rfl ?_
          refine g_goto 18 (gd rfl) rfl ?_
          refine g_putI 21 (gd rfl) rfl rfl rfl rfl ?_
          have hI22x3x18 := inv_sF (q := 109) (j := 0) hI rfl (in_w 0 2 (in_c 1 rfl) rfl)
          refine g_aload_n 22 (gd rfl) rfl rfl ?_
          refine g_getI 25 (gd rfl) rfl rfl rfl (fun z22x3x22 e22x3x22 => ?_)
          have q22x3x22 : (Int32.ofInt 1) = z22x3x22 := (sF_get).trans e22x3x22.symm
          subst q22x3x22
          refine g_if_le 28 32 (gd rfl) rfl rfl (fun c22x3x25 => ?_) (fun c22x3x25 => ?_)
          · skip
            exact zn_le c22x3x25 (in_c 1 rfl) rfl
          · skip
            refine g_iconst 1 29 (gd rfl) rfl rfl ?_
            refine g_goto 33 (gd rfl) rfl ?_
            refine g_ireturn (gd rfl) rfl (nb01 (in_w 0 1 (in_c 1 rfl) rfl)) (hp22x3 _ _ ?_)
            show GG _ _ _ _ _ _ _ _ [.int (Int32.ofInt 1)] _ _ _
            refine g_ireturn (gd rfl) rfl (nb01 (in_w 0 1 (in_c 1 rfl) rfl)) (hp22 _ _ ?_)
            show GG _ _ _ _ _ _ _ _ [.int (Int32.ofInt 1)] _ _ _
            refine g_if_eq 28 30 (gd rfl) rfl rfl (fun c25 => ?_) (fun c25 => ?_)
            · skip
              exact zn_eq c25 (in_c 1 rfl) rfl
            · skip
              refine g_iconst 0 29 (gd rfl) rfl rfl ?_
              exact g_ireturn (gd rfl) rfl rfl (hP _ _ ⟨(sF s 109 0 (Int32.ofInt 1)), hI22x3x18, (fr_sF rfl fr_rf), (Int32.ofInt 0), rfl, rfl, in_w (-2147483648) 2147483647 (in_c 0 rfl) rfl⟩)
      · skip
        exact zn_ne c6 (in_c 0 rfl) rfl
    · skip
      have i3x9 := r_lt1 0 31 c3x9 i3x1 ro_109_20 rfl
      have i3x9a := r_lt2 1 32 c3x9 i3x1 ro_109_20 rfl
      refine g_iconst 1 13 (gd rfl) rfl rfl ?_
      refine g_goto 17 (gd rfl) rfl ?_
      refine g_ireturn (gd rfl) rfl (nb01 (in_w 0 1 (in_c 1 rfl) rfl)) (hp3 _ _ ?_)
      show GG _ _ _ _ _ _ _ _ [.int (Int32.ofInt 1), .ref (A 109)] _ _ _
      refine g_if_eq 9 21 (gd rfl) rfl rfl (fun c6 => ?_) (fun c6 => ?_)
      · skip
        exact zn_eq c6 (in_c 1 rfl) rfl
      · skip
        refine g_aload_n 10 (gd rfl) rfl rfl ?_
        refine g_iload_n 11 (gd rfl) rfl rfl ?_
        refine g_callv (X := _) (As := [.int x2]) (r := [.ref (A 109)]) (b := A 109) (q := 109) 14 (gd rfl) rfl rfl rfl rfl rfl (ww_o rfl) (Nat.le_of_ble_eq_true rfl) (mc := 0) (ms := 0) (Nat.zero_le _) (Nat.zero_le _) (P := fun v u => _) ?_ (fun e u h => h) (fun v u h => h)
        intro po11 xx11 hp11 hx11
        refine g_enter2 (k := 272) (N := 300) (by first | exact dq1 hd rfl | exact dq0 hd rfl | exact dq2 hd rfl | exact dq3 hd rfl | omega) rfl (Nat.le_of_ble_eq_true rfl) ?_
        refine g_iload_n 1 (gd rfl) rfl rfl ?_
        refine g_if_lt 4 16 (gd rfl) rfl rfl (fun c11x1 => ?_) (fun c11x1 => ?_)
        · skip
          have i11x1 := z_lt (-2147483648) (-1) c11x1 (i_rng x2) rfl
          refine g_iconst 0 17 (gd rfl) rfl rfl ?_
          refine g_ireturn (gd rfl) rfl (nb01 (in_w 0 1 (in_c 0 rfl) rfl)) (hp11 _ _ ?_)
          show GG _ _ _ _ _ _ _ _ [.int (Int32.ofInt 0), .ref (A 109)] _ _ _
          refine g_if_eq 17 21 (gd rfl) rfl rfl (fun c14 => ?_) (fun c14 => ?_)
          · skip
            refine g_iconst 0 22 (gd rfl) rfl rfl ?_
            refine g_callv (X := _) (As := [.int (Int32.ofInt 0)]) (r := []) (b := A 109) (q := 109) 25 (gd rfl) rfl rfl rfl rfl rfl (ww_o rfl) (Nat.le_of_ble_eq_true rfl) (mc := 0) (ms := 0) (Nat.zero_le _) (Nat.zero_le _) (P := fun v u => _) ?_ (fun e u h => h) (fun v u h => h)
            intro po22 xx22 hp22 hx22
            refine g_enter2 (k := 271) (N := 300) (by first | exact dq1 hd rfl | exact dq0 hd rfl | exact dq2 hd rfl | exact dq3 hd rfl | omega) rfl (Nat.le_of_ble_eq_true rfl) ?_
            refine g_aload_n 1 (gd rfl) rfl rfl ?_
            refine g_iload_n 2 (gd rfl) rfl rfl ?_
            refine g_iconst 1 3 (gd rfl) rfl rfl ?_
            refine g_callv (X := _) (As := [.int (Int32.ofInt 0), .int (Int32.ofInt 1)]) (r := []) (b := A 109) (q := 109) 6 (gd rfl) rfl rfl rfl rfl rfl (ww_o rfl) (Nat.le_of_ble_eq_true rfl) (mc := 0) (ms := 0) (Nat.zero_le _) (Nat.zero_le _) (P := fun v u => _) ?_ (fun e u h => h) (fun v u h => h)
            intro po22x3 xx22x3 hp22x3 hx22x3
            refine g_enter2 (k := 270) (N := 300) (by first | exact dq1 hd rfl | exact dq0 hd rfl | exact dq2 hd rfl | exact dq3 hd rfl | omega) rfl (Nat.le_of_ble_eq_true rfl) ?_
            refine g_aload_n 1 (gd rfl) rfl rfl ?_
            refine g_iload_n 2 (gd rfl) rfl rfl ?_
            refine g_if_ne 5 9 (gd rfl) rfl rfl (fun c22x3x2 => ?_) (fun c22x3x2 => ?_)
            · skip
              exact zn_ne c22x3x2 (in_c 0 rfl) rfl
            · skip
              refine g_iconst 1 6 (gd rfl) rfl rfl ?_
              refine g_goto 18 (gd rfl) rfl ?_
              refine g_putI 21 (gd rfl) rfl rfl rfl rfl ?_
              have hI22x3x18 := inv_sF (q := 109) (j := 0) hI rfl (in_w 0 2 (in_c 1 rfl) rfl)
              refine g_aload_n 22 (gd rfl) rfl rfl ?_
              refine g_getI 25 (gd rfl) rfl rfl rfl (fun z22x3x22 e22x3x22 => ?_)
              have q22x3x22 : (Int32.ofInt 1) = z22x3x22 := (sF_get).trans e22x3x22.symm
              subst q22x3x22
              refine g_if_le 28 32 (gd rfl) rfl rfl (fun c22x3x25 => ?_) (fun c22x3x25 => ?_)
              · skip
                exact zn_le c22x3x25 (in_c 1 rfl) rfl
              · skip
                refine g_iconst 1 29 (gd rfl) rfl rfl ?_
                refine g_goto 33 (gd rfl) rfl ?_
                refine g_ireturn (gd rfl) rfl (nb01 (in_w 0 1 (in_c 1 rfl) rfl)) (hp22x3 _ _ ?_)
                show GG _ _ _ _ _ _ _ _ [.int (Int32.ofInt 1)] _ _ _
                refine g_ireturn (gd rfl) rfl (nb01 (in_w 0 1 (in_c 1 rfl) rfl)) (hp22 _ _ ?_)
                show GG _ _ _ _ _ _ _ _ [.int (Int32.ofInt 1)] _ _ _
                refine g_if_eq 28 30 (gd rfl) rfl rfl (fun c25 => ?_) (fun c25 => ?_)
                · skip
                  exact zn_eq c25 (in_c 1 rfl) rfl
                · skip
                  refine g_iconst 0 29 (gd rfl) rfl rfl ?_
                  exact g_ireturn (gd rfl) rfl rfl (hP _ _ ⟨(sF s 109 0 (Int32.ofInt 1)), hI22x3x18, (fr_sF rfl fr_rf), (Int32.ofInt 0), rfl, rfl, in_w (-2147483648) 2147483647 (in_c 0 rfl) rfl⟩)
          · skip
            exact zn_ne c14 (in_c 0 rfl) rfl
        · skip
          have i11x1 := z_ge 0 2147483647 c11x1 (i_rng x2) rfl
          refine g_iload_n 5 (gd rfl) rfl rfl ?_
          refine g_aload_n 6 (gd rfl) rfl rfl ?_
          refine g_getI 9 (gd rfl) rfl rfl rfl (fun z11x6 e11x6 => ?_)
          have q11x6 : u_109_20 = z11x6 := (e_109_20).trans e11x6.symm
          subst q11x6
          refine g_cmp_ge 12 16 (gd rfl) rfl rfl (fun c11x9 => ?_) (fun c11x9 => ?_)
          · skip
            have i11x9 := r_le2 1 2147483647 c11x9 i3x9a i11x1 rfl
            refine g_iconst 0 17 (gd rfl) rfl rfl ?_
            refine g_ireturn (gd rfl) rfl (nb01 (in_w 0 1 (in_c 0 rfl) rfl)) (hp11 _ _ ?_)
            show GG _ _ _ _ _ _ _ _ [.int (Int32.ofInt 0), .ref (A 109)] _ _ _
            refine g_if_eq 17 21 (gd rfl) rfl rfl (fun c14 => ?_) (fun c14 => ?_)
            · skip
              refine g_iconst 0 22 (gd rfl) rfl rfl ?_
              refine g_callv (X := _) (As := [.int (Int32.ofInt 0)]) (r := []) (b := A 109) (q := 109) 25 (gd rfl) rfl rfl rfl rfl rfl (ww_o rfl) (Nat.le_of_ble_eq_true rfl) (mc := 0) (ms := 0) (Nat.zero_le _) (Nat.zero_le _) (P := fun v u => _) ?_ (fun e u h => h) (fun v u h => h)
              intro po22 xx22 hp22 hx22
              refine g_enter2 (k := 271) (N := 300) (by first | exact dq1 hd rfl | exact dq0 hd rfl | exact dq2 hd rfl | exact dq3 hd rfl | omega) rfl (Nat.le_of_ble_eq_true rfl) ?_
              refine g_aload_n 1 (gd rfl) rfl rfl ?_
              refine g_iload_n 2 (gd rfl) rfl rfl ?_
              refine g_iconst 1 3 (gd rfl) rfl rfl ?_
              refine g_callv (X := _) (As := [.int (Int32.ofInt 0), .int (Int32.ofInt 1)]) (r := []) (b := A 109) (q := 109) 6 (gd rfl) rfl rfl rfl rfl rfl (ww_o rfl) (Nat.le_of_ble_eq_true rfl) (mc := 0) (ms := 0) (Nat.zero_le _) (Nat.zero_le _) (P := fun v u => _) ?_ (fun e u h => h) (fun v u h => h)
              intro po22x3 xx22x3 hp22x3 hx22x3
              refine g_enter2 (k := 270) (N := 300) (by first | exact dq1 hd rfl | exact dq0 hd rfl | exact dq2 hd rfl | exact dq3 hd rfl | omega) rfl (Nat.le_of_ble_eq_true rfl) ?_
              refine g_aload_n 1 (gd rfl) rfl rfl ?_
              refine g_iload_n 2 (gd rfl) rfl rfl ?_
              refine g_if_ne 5 9 (gd rfl) rfl rfl (fun c22x3x2 => ?_) (fun c22x3x2 => ?_)
              · skip
                exact zn_ne c22x3x2 (in_c 0 rfl) rfl
              · skip
                refine g_iconst 1 6 (gd rfl) rfl rfl ?_
                refine g_goto 18 (gd rfl) rfl ?_
                refine g_putI 21 (gd rfl) rfl rfl rfl rfl ?_
                have hI22x3x18 := inv_sF (q := 109) (j := 0) hI rfl (in_w 0 2 (in_c 1 rfl) rfl)
                refine g_aload_n 22 (gd rfl) rfl rfl ?_
                refine g_getI 25 (gd rfl) rfl rfl rfl (fun z22x3x22 e22x3x22 => ?_)
                have q22x3x22 : (Int32.ofInt 1) = z22x3x22 := (sF_get).trans e22x3x22.symm
                subst q22x3x22
                refine g_if_le 28 32 (gd rfl) rfl rfl (fun c22x3x25 => ?_) (fun c22x3x25 => ?_)
                · skip
                  exact zn_le c22x3x25 (in_c 1 rfl) rfl
                · skip
                  refine g_iconst 1 29 (gd rfl) rfl rfl ?_
                  refine g_goto 33 (gd rfl) rfl ?_
                  refine g_ireturn (gd rfl) rfl (nb01 (in_w 0 1 (in_c 1 rfl) rfl)) (hp22x3 _ _ ?_)
                  show GG _ _ _ _ _ _ _ _ [.int (Int32.ofInt 1)] _ _ _
                  refine g_ireturn (gd rfl) rfl (nb01 (in_w 0 1 (in_c 1 rfl) rfl)) (hp22 _ _ ?_)
                  show GG _ _ _ _ _ _ _ _ [.int (Int32.ofInt 1)] _ _ _
                  refine g_if_eq 28 30 (gd rfl) rfl rfl (fun c25 => ?_) (fun c25 => ?_)
                  · skip
                    exact zn_eq c25 (in_c 1 rfl) rfl
                  · skip
                    refine g_iconst 0 29 (gd rfl) rfl rfl ?_
                    exact g_ireturn (gd rfl) rfl rfl (hP _ _ ⟨(sF s 109 0 (Int32.ofInt 1)), hI22x3x18, (fr_sF rfl fr_rf), (Int32.ofInt 0), rfl, rfl, in_w (-2147483648) 2147483647 (in_c 0 rfl) rfl⟩)
            · skip
              exact zn_ne c14 (in_c 0 rfl) rfl
          · skip
            have i11x9 := r_lt1 0 31 c11x9 i11x1 i3x9a rfl
            refine g_iconst 1 13 (gd rfl) rfl rfl ?_
            refine g_goto 17 (gd rfl) rfl ?_
            refine g_ireturn (gd rfl) rfl (nb01 (in_w 0 1 (in_c 1 rfl) rfl)) (hp11 _ _ ?_)
            show GG _ _ _ _ _ _ _ _ [.int (Int32.ofInt 1), .ref (A 109)] _ _ _
            refine g_if_eq 17 21 (gd rfl) rfl rfl (fun c14 => ?_) (fun c14 => ?_)
            · skip
              exact zn_eq c14 (in_c 1 rfl) rfl
            · skip
              refine g_iconst 1 18 (gd rfl) rfl rfl ?_
              refine g_goto 22 (gd rfl) rfl ?_
              refine g_callv (X := _) (As := [.int (Int32.ofInt 1)]) (r := []) (b := A 109) (q := 109) 25 (gd rfl) rfl rfl rfl rfl rfl (ww_o rfl) (Nat.le_of_ble_eq_true rfl) (mc := 0) (ms := 0) (Nat.zero_le _) (Nat.zero_le _) (P := fun v u => _) ?_ (fun e u h => h) (fun v u h => h)
              intro po22 xx22 hp22 hx22
              refine g_enter2 (k := 271) (N := 300) (by first | exact dq1 hd rfl | exact dq0 hd rfl | exact dq2 hd rfl | exact dq3 hd rfl | omega) rfl (Nat.le_of_ble_eq_true rfl) ?_
              refine g_aload_n 1 (gd rfl) rfl rfl ?_
              refine g_iload_n 2 (gd rfl) rfl rfl ?_
              refine g_iconst 1 3 (gd rfl) rfl rfl ?_
              refine g_callv (X := _) (As := [.int (Int32.ofInt 1), .int (Int32.ofInt 1)]) (r := []) (b := A 109) (q := 109) 6 (gd rfl) rfl rfl rfl rfl rfl (ww_o rfl) (Nat.le_of_ble_eq_true rfl) (mc := 0) (ms := 0) (Nat.zero_le _) (Nat.zero_le _) (P := fun v u => _) ?_ (fun e u h => h) (fun v u h => h)
              intro po22x3 xx22x3 hp22x3 hx22x3
              refine g_enter2 (k := 270) (N := 300) (by first | exact dq1 hd rfl | exact dq0 hd rfl | exact dq2 hd rfl | exact dq3 hd rfl | omega) rfl (Nat.le_of_ble_eq_true rfl) ?_
              refine g_aload_n 1 (gd rfl) rfl rfl ?_
              refine g_iload_n 2 (gd rfl) rfl rfl ?_
              refine g_if_ne 5 9 (gd rfl) rfl rfl (fun c22x3x2 => ?_) (fun c22x3x2 => ?_)
              · skip
                refine g_iload_n 10 (gd rfl) rfl rfl ?_
                refine g_if_ne 13 17 (gd rfl) rfl rfl (fun c22x3x10 => ?_) (fun c22x3x10 => ?_)
                · skip
                  refine g_iconst 0 18 (gd rfl) rfl rfl ?_
                  refine g_putI 21 (gd rfl) rfl rfl rfl rfl ?_
                  have hI22x3x18 := inv_sF (q := 109) (j := 0) hI rfl (in_w 0 2 (in_c 0 rfl) rfl)
                  refine g_aload_n 22 (gd rfl) rfl rfl ?_
                  refine g_getI 25 (gd rfl) rfl rfl rfl (fun z22x3x22 e22x3x22 => ?_)
                  have q22x3x22 : (Int32.ofInt 0) = z22x3x22 := (sF_get).trans e22x3x22.symm
                  subst q22x3x22
                  refine g_if_le 28 32 (gd rfl) rfl rfl (fun c22x3x25 => ?_) (fun c22x3x25 => ?_)
                  · skip
                    refine g_iconst 0 33 (gd rfl) rfl rfl ?_
                    refine g_ireturn (gd rfl) rfl (nb01 (in_w 0 1 (in_c 0 rfl) rfl)) (hp22x3 _ _ ?_)
                    show GG _ _ _ _ _ _ _ _ [.int (Int32.ofInt 0)] _ _ _
                    refine g_ireturn (gd rfl) rfl (nb01 (in_w 0 1 (in_c 0 rfl) rfl)) (hp22 _ _ ?_)
                    show GG _ _ _ _ _ _ _ _ [.int (Int32.ofInt 0)] _ _ _
                    refine g_if_eq 28 30 (gd rfl) rfl rfl (fun c25 => ?_) (fun c25 => ?_)
                    · skip
                      refine g_iconst 0 31 (gd rfl) rfl rfl ?_
                      refine g_istore_n 32 (gd rfl) rfl (Nat.le_of_ble_eq_true rfl) ?_
                      exact gg_w (by first | exact Nat.le_of_ble_eq_true rfl | omega) (gg_f (gf_cons rfl (gf_cons rfl (gf_cons rfl (gf_cons rfl gf_nil)))) (ct32 33 (sF s 109 0 (Int32.ofInt 0)) (Int32.ofInt 0) hI22x3x18 (fr_sF rfl fr_rf) (in_w 0 31 i3x9 rfl) (in_w 0 31 i11x9 rfl) (in_w 0 32 (in_c 0 rfl) rfl) (m_in 33 (in_w 0 32 (in_c 0 rfl) rfl) rfl)))
                    · skip
                      exact zn_ne c25 (in_c 0 rfl) rfl
                  · skip
                    exact zn_gt c22x3x25 (in_c 0 rfl) rfl
                · skip
                  exact zn_eq c22x3x10 (in_c 1 rfl) rfl
              · skip
                exact zn_eq c22x3x2 (in_c 1 rfl) rfl
end
