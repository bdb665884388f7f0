/-! methods, by vc.py -/
def fm_204_49_2 : FM := ([9, 10, 11, 12, 13, 14, 15, 52, 54], [53], [(2, 4)], [])
/-- GraphHouse$Ways.spread -/
theorem k_204_49_2 {Z : AmZ} {A : Nat → Nat} {s : GS} {ex : va_W} {d : Nat} {X : AmX} {x2 : Int32} (hd : 4 ≤ d) (hI : Inv s) (h2 : In x2 0 31) : GC Z d 204 [.ref (A 49), .ref (A 2), .int x2] (WW Z A s ++ ex) 0 0 (fun v u => ∃ t : GS, Inv t ∧ Fr fm_204_49_2 s t ∧ v = none ∧ u = WW Z A t ++ ex) X := by
  intro post xp hP hX
  have ct46 : ∀ (k46 : Nat) (sc46 : GS) (y46_3 : Int32) (y46_4 : Int32), Inv sc46 → Fr fm_204_49_2 s sc46 → (In y46_3 1 32) → (In y46_4 0 32) → 32 - (y46_4).toInt < (k46 : Int) → GG Z (d - 1) 204 post (gx xp) (1 + k46 * 147601) 46 (fun j => xlook j [(0, .ref (A 49)), (1, .ref (A 2)), (2, .int x2), (3, .int y46_3), (4, .int y46_4)]) [] (WW Z A sc46 ++ ex) 0 0 := by
    intro k46
    induction k46 with
    | zero => intro sc46 y46_3 y46_4 hIc46 hFc46 j46_3 j46_4 mm46; exact m_no mm46 j46_4 rfl
    | succ k46 ih46 =>
      intro sc46 y46_3 y46_4 hIc46 hFc46 j46_3 j46_4 mm46
      refine gg_w (M := 1 + k46 * 147601 + 147601) (by omega) ?_
      have ct70 : ∀ (k70 : Nat) (sc70 : GS) (y70_3 : Int32) (y70_5 : Int32) (y70_6 : Int32), Inv sc70 → Fr fm_204_49_2 s sc70 → (In y70_3 1 32) → (In y46_4 0 31) → (In y70_5 0 31) → (In y70_6 0 160) → 160 - (y70_6).toInt < (k70 : Int) → GG Z (d - 1) 204 post (gx xp) (1 + k46 * 147601 + 1 + k70 * 900) 70 (fun j => xlook j [(0, .ref (A 49)), (1, .ref (A 2)), (2, .int x2), (3, .int y70_3), (4, .int y46_4), (5, .int y70_5), (6, .int y70_6)]) [] (WW Z A sc70 ++ ex) 0 0 := by
        intro k70
        induction k70 with
        | zero => intro sc70 y70_3 y70_5 y70_6 hIc70 hFc70 j70_3 j70_4 j70_5 j70_6 mm70; exact m_no mm70 j70_6 rfl
        | succ k70 ih70 =>
          intro sc70 y70_3 y70_5 y70_6 hIc70 hFc70 j70_3 j70_4 j70_5 j70_6 mm70
          refine gg_w (M := 1 + k46 * 147601 + 1 + k70 * 900 + 900) (by omega) ?_
          refine g_iload 72 (gd rfl) rfl rfl ?_
          refine g_aload_n 73 (gd rfl) rfl rfl ?_
          refine g_getA (q2 := 12) 76 (gd rfl) rfl rfl rfl rfl ?_
          refine g_iload 78 (gd rfl) rfl rfl ?_
          refine g_iconst 1 79 (gd rfl) rfl rfl ?_
          refine g_iadd 80 (gd rfl) rfl (fun z79 e79 => ?_)
          have i79 := in_add 1 32 e79 j70_5 (in_c 1 rfl) rfl rfl
          refine g_iaload 81 (gd rfl) rfl (n := 33) rfl (in_ix i79 rfl) (fun z80 e80 => ?_)
          have i80 := inv_I hIc70 (n := 33) (t := 0) 0 160 rfl (in_ix i79 rfl) rfl e80
          refine g_cmp_ge 84 193 (gd rfl) rfl rfl (fun c81 => ?_) (fun c81 => ?_)
          · skip
            refine g_iinc 196 (gd rfl) rfl rfl (Nat.le_of_ble_eq_true rfl) (fun z193 e193 => ?_)
            have i193 := in_add 1 32 e193 j70_4 (in_c 1 rfl) rfl rfl
            refine g_goto 46 (gd rfl) rfl ?_
            exact gg_w (by omega) (gg_f (gf_cons rfl (gf_cons rfl (gf_cons rfl (gf_cons rfl (gf_cons rfl gf_nil))))) (ih46 sc70 y70_3 z193 hIc70 hFc70 (in_w 1 32 j70_3 rfl) (in_w 0 32 i193 rfl) (m_up mm46 (t_add e193 j70_4 (in_c 1 rfl) rfl) (in_w 1 1 (in_c 1 rfl) rfl))))
          · skip
            have i81 := r_lt1 0 159 c81 j70_6 i80 rfl
            have i81a := r_lt2 1 160 c81 j70_6 i80 rfl
            refine g_aload_n 85 (gd rfl) rfl rfl ?_
            refine g_getA (q2 := 5) 88 (gd rfl) rfl rfl rfl rfl ?_
            refine g_aload_n 89 (gd rfl) rfl rfl ?_
            refine g_getA (q2 := 13) 92 (gd rfl) rfl rfl rfl rfl ?_
            refine g_iload 94 (gd rfl) rfl rfl ?_
            refine g_iaload 95 (gd rfl) rfl (n := 160) rfl (in_ix i81 rfl) (fun z94 e94 => ?_)
            have i94 := inv_I hIc70 (n := 160) (t := 0) 0 159 rfl (in_ix i81 rfl) rfl e94
            refine g_iaload 96 (gd rfl) rfl (n := 160) rfl (in_ix i94 rfl) (fun z95 e95 => ?_)
            have i95 := inv_I hIc70 (n := 160) (t := 0) 0 31 rfl (in_ix i94 rfl) rfl e95
            refine g_istore 98 (gd rfl) rfl (Nat.le_of_ble_eq_true rfl) ?_
            refine g_aload_n 99 (gd rfl) rfl rfl ?_
            refine g_getA (q2 := 52) 102 (gd rfl) rfl rfl rfl rfl ?_
            refine g_iload 104 (gd rfl) rfl rfl ?_
            refine g_iaload 105 (gd rfl) rfl (n := 32) rfl (in_ix i95 rfl) (fun z104 e104 => ?_)
            refine g_iconst (-1) 106 (gd rfl) rfl rfl ?_
            refine g_cmp_ne 109 142 (gd rfl) rfl rfl (fun c106 => ?_) (fun c106 => ?_)
            · skip
              refine g_aload_n 143 (gd rfl) rfl rfl ?_
              refine g_getA (q2 := 52) 146 (gd rfl) rfl rfl rfl rfl ?_
              refine g_iload 148 (gd rfl) rfl rfl ?_
              refine g_iaload 149 (gd rfl) rfl (n := 32) rfl (in_ix i95 rfl) (fun z148 e148 => ?_)
              have q148 : z104 = z148 := (e104).trans e148.symm
              subst q148
              refine g_aload_n 150 (gd rfl) rfl rfl ?_
              refine g_getA (q2 := 52) 153 (gd rfl) rfl rfl rfl rfl ?_
              refine g_iload 155 (gd rfl) rfl rfl ?_
              refine g_iaload 156 (gd rfl) rfl (n := 32) rfl (in_ix j70_5 rfl) (fun z155 e155 => ?_)
              refine g_iconst 1 157 (gd rfl) rfl rfl ?_
              refine g_iadd 158 (gd rfl) rfl (fun z157 e157 => ?_)
              refine g_cmp_ne 161 187 (gd rfl) rfl rfl (fun c158 => ?_) (fun c158 => ?_)
              · skip
                refine g_iinc 190 (gd rfl) rfl rfl (Nat.le_of_ble_eq_true rfl) (fun z187 e187 => ?_)
                have i187 := in_add 1 160 e187 i81 (in_c 1 rfl) rfl rfl
                refine g_goto 70 (gd rfl) rfl ?_
                exact gg_w (by omega) (gg_f (gf_cons rfl (gf_cons rfl (gf_cons rfl (gf_cons rfl (gf_cons rfl (gf_cons rfl (gf_cons rfl gf_nil))))))) (ih70 sc70 y70_3 y70_5 z187 hIc70 hFc70 (in_w 1 32 j70_3 rfl) (in_w 0 31 j70_4 rfl) (in_w 0 31 j70_5 rfl) (in_w 0 160 i187 rfl) (m_up mm70 (t_add e187 i81 (in_c 1 rfl) rfl) (in_w 1 1 (in_c 1 rfl) rfl))))
              · skip
                refine g_aload_n 162 (gd rfl) rfl rfl ?_
                refine g_getA (q2 := 53) 165 (gd rfl) rfl rfl rfl rfl ?_
                refine g_iload 167 (gd rfl) rfl rfl ?_
                refine g_aload_n 168 (gd rfl) rfl rfl ?_
                refine g_getA (q2 := 53) 171 (gd rfl) rfl rfl rfl rfl ?_
                refine g_iload 173 (gd rfl) rfl rfl ?_
                refine g_laload 174 (gd rfl) rfl (n := 32) rfl (in_ix i95 rfl) (fun z173 e173 => ?_)
                refine g_aload_n 175 (gd rfl) rfl rfl ?_
                refine g_getA (q2 := 53) 178 (gd rfl) rfl rfl rfl rfl ?_
                refine g_iload 180 (gd rfl) rfl rfl ?_
                refine g_laload 181 (gd rfl) rfl (n := 32) rfl (in_ix j70_5 rfl) (fun z180 e180 => ?_)
                refine g_ladd 182 (gd rfl) rfl (fun z181 e181 => ?_)
                refine g_ldc2_w 1000000007 185 (gd rfl) rfl rfl ?_
                refine g_lrem 186 (gd rfl) rfl (by decide) (fun z185 e185 => ?_)
                have i185 := l_rem (-1000000006) 1000000006 e185 rfl
                refine g_lastore 187 (gd rfl) rfl (n := 32) rfl (in_ix i95 rfl) ?_
                have hI186 := inv_sL (q := 53) (j := z95.toNatClampNeg) (x := z185) hIc70 rfl (l_rng z185)
                refine g_iinc 190 (gd rfl) rfl rfl (Nat.le_of_ble_eq_true rfl) (fun z187 e187 => ?_)
                have i187 := in_add 1 160 e187 i81 (in_c 1 rfl) rfl rfl
                refine g_goto 70 (gd rfl) rfl ?_
                exact gg_w (by omega) (gg_f (gf_cons rfl (gf_cons rfl (gf_cons rfl (gf_cons rfl (gf_cons rfl (gf_cons rfl (gf_cons rfl gf_nil))))))) (ih70 (sL sc70 53 z95.toNatClampNeg z185) y70_3 y70_5 z187 hI186 (fr_sL rfl hFc70) (in_w 1 32 j70_3 rfl) (in_w 0 31 j70_4 rfl) (in_w 0 31 j70_5 rfl) (in_w 0 160 i187 rfl) (m_up mm70 (t_add e187 i81 (in_c 1 rfl) rfl) (in_w 1 1 (in_c 1 rfl) rfl))))
            · skip
              have i106 := r_eq1 (-1) (-1) c106 (i_rng z104) (in_c (-1) rfl) rfl
              refine g_iload_n 110 (gd rfl) rfl rfl ?_
              refine g_bipush 32 112 (gd rfl) rfl rfl ?_
              refine g_cmp_ge 115 142 (gd rfl) rfl rfl (fun c112 => ?_) (fun c112 => ?_)
              · skip
                have i112 := r_le2 32 32 c112 (in_c 32 rfl) j70_3 rfl
                refine g_aload_n 143 (gd rfl) rfl rfl ?_
                refine g_getA (q2 := 52) 146 (gd rfl) rfl rfl rfl rfl ?_
                refine g_iload 148 (gd rfl) rfl rfl ?_
                refine g_iaload 149 (gd rfl) rfl (n := 32) rfl (in_ix i95 rfl) (fun z148 e148 => ?_)
                have q148 : z104 = z148 := (e104).trans e148.symm
                subst q148
                refine g_aload_n 150 (gd rfl) rfl rfl ?_
                refine g_getA (q2 := 52) 153 (gd rfl) rfl rfl rfl rfl ?_
                refine g_iload 155 (gd rfl) rfl rfl ?_
                refine g_iaload 156 (gd rfl) rfl (n := 32) rfl (in_ix j70_5 rfl) (fun z155 e155 => ?_)
                refine g_iconst 1 157 (gd rfl) rfl rfl ?_
                refine g_iadd 158 (gd rfl) rfl (fun z157 e157 => ?_)
                refine g_cmp_ne 161 187 (gd rfl) rfl rfl (fun c158 => ?_) (fun c158 => ?_)
                · skip
                  refine g_iinc 190 (gd rfl) rfl rfl (Nat.le_of_ble_eq_true rfl) (fun z187 e187 => ?_)
                  have i187 := in_add 1 160 e187 i81 (in_c 1 rfl) rfl rfl
                  refine g_goto 70 (gd rfl) rfl ?_
                  exact gg_w (by omega) (gg_f (gf_cons rfl (gf_cons rfl (gf_cons rfl (gf_cons rfl (gf_cons rfl (gf_cons rfl (gf_cons rfl gf_nil))))))) (ih70 sc70 y70_3 y70_5 z187 hIc70 hFc70 (in_w 1 32 i112 rfl) (in_w 0 31 j70_4 rfl) (in_w 0 31 j70_5 rfl) (in_w 0 160 i187 rfl) (m_up mm70 (t_add e187 i81 (in_c 1 rfl) rfl) (in_w 1 1 (in_c 1 rfl) rfl))))
                · skip
                  have i158 := r_eq2 (-1) (-1) c158 i106 (i_rng z157) rfl
                  refine g_aload_n 162 (gd rfl) rfl rfl ?_
                  refine g_getA (q2 := 53) 165 (gd rfl) rfl rfl rfl rfl ?_
                  refine g_iload 167 (gd rfl) rfl rfl ?_
                  refine g_aload_n 168 (gd rfl) rfl rfl ?_
                  refine g_getA (q2 := 53) 171 (gd rfl) rfl rfl rfl rfl ?_
                  refine g_iload 173 (gd rfl) rfl rfl ?_
                  refine g_laload 174 (gd rfl) rfl (n := 32) rfl (in_ix i95 rfl) (fun z173 e173 => ?_)
                  refine g_aload_n 175 (gd rfl) rfl rfl ?_
                  refine g_getA (q2 := 53) 178 (gd rfl) rfl rfl rfl rfl ?_
                  refine g_iload 180 (gd rfl) rfl rfl ?_
                  refine g_laload 181 (gd rfl) rfl (n := 32) rfl (in_ix j70_5 rfl) (fun z180 e180 => ?_)
                  refine g_ladd 182 (gd rfl) rfl (fun z181 e181 => ?_)
                  refine g_ldc2_w 1000000007 185 (gd rfl) rfl rfl ?_
                  refine g_lrem 186 (gd rfl) rfl (by decide) (fun z185 e185 => ?_)
                  have i185 := l_rem (-1000000006) 1000000006 e185 rfl
                  refine g_lastore 187 (gd rfl) rfl (n := 32) rfl (in_ix i95 rfl) ?_
                  have hI186 := inv_sL (q := 53) (j := z95.toNatClampNeg) (x := z185) hIc70 rfl (l_rng z185)
                  refine g_iinc 190 (gd rfl) rfl rfl (Nat.le_of_ble_eq_true rfl) (fun z187 e187 => ?_)
                  have i187 := in_add 1 160 e187 i81 (in_c 1 rfl) rfl rfl
                  refine g_goto 70 (gd rfl) rfl ?_
                  exact gg_w (by omega) (gg_f (gf_cons rfl (gf_cons rfl (gf_cons rfl (gf_cons rfl (gf_cons rfl (gf_cons rfl (gf_cons rfl gf_nil))))))) (ih70 (sL sc70 53 z95.toNatClampNeg z185) y70_3 y70_5 z187 hI186 (fr_sL rfl hFc70) (in_w 1 32 i112 rfl) (in_w 0 31 j70_4 rfl) (in_w 0 31 j70_5 rfl) (in_w 0 160 i187 rfl) (m_up mm70 (t_add e187 i81 (in_c 1 rfl) rfl) (in_w 1 1 (in_c 1 rfl) rfl))))
              · skip
                have i112 := r_lt1 1 31 c112 j70_3 (in_c 32 rfl) rfl
                refine g_aload_n 116 (gd rfl) rfl rfl ?_
                refine g_getA (q2 := 52) 119 (gd rfl) rfl rfl rfl rfl ?_
                refine g_iload 121 (gd rfl) rfl rfl ?_
                refine g_aload_n 122 (gd rfl) rfl rfl ?_
                refine g_getA (q2 := 52) 125 (gd rfl) rfl rfl rfl rfl ?_
                refine g_iload 127 (gd rfl) rfl rfl ?_
                refine g_iaload 128 (gd rfl) rfl (n := 32) rfl (in_ix j70_5 rfl) (fun z127 e127 => ?_)
                refine g_iconst 1 129 (gd rfl) rfl rfl ?_
                refine g_iadd 130 (gd rfl) rfl (fun z129 e129 => ?_)
                refine g_iastore 131 (gd rfl) rfl (n := 32) rfl (in_ix i95 rfl) ?_
                have hI130 := inv_sI (q := 52) (j := z95.toNatClampNeg) hIc70 rfl (in_w (-2147483648) 2147483647 (i_rng z129) rfl)
                refine g_aload_n 132 (gd rfl) rfl rfl ?_
                refine g_getA (q2 := 54) 135 (gd rfl) rfl rfl rfl rfl ?_
                refine g_iload_n 136 (gd rfl) rfl rfl ?_
                refine g_iload 138 (gd rfl) rfl rfl ?_
                refine g_iastore 139 (gd rfl) rfl (n := 32) rfl (in_ix i112 rfl) ?_
                have hI138 := inv_sI (q := 54) (j := y70_3.toNatClampNeg) hI130 rfl (in_w 0 31 i95 rfl)
                refine g_iinc 142 (gd rfl) rfl rfl (Nat.le_of_ble_eq_true rfl) (fun z139 e139 => ?_)
                have i139 := in_add 2 32 e139 i112 (in_c 1 rfl) rfl rfl
                refine g_aload_n 143 (gd rfl) rfl rfl ?_
                refine g_getA (q2 := 52) 146 (gd rfl) rfl rfl rfl rfl ?_
                refine g_iload 148 (gd rfl) rfl rfl ?_
                refine g_iaload 149 (gd rfl) rfl (n := 32) rfl (in_ix i95 rfl) (fun z148 e148 => ?_)
                have q148 : z129 = z148 := (sI_ne rfl (sI_get)).trans e148.symm
                subst q148
                refine g_aload_n 150 (gd rfl) rfl rfl ?_
                refine g_getA (q2 := 52) 153 (gd rfl) rfl rfl rfl rfl ?_
                refine g_iload 155 (gd rfl) rfl rfl ?_
                refine g_iaload 156 (gd rfl) rfl (n := 32) rfl (in_ix j70_5 rfl) (fun z155 e155 => ?_)
                refine g_iconst 1 157 (gd rfl) rfl rfl ?_
                refine g_iadd 158 (gd rfl) rfl (fun z157 e157 => ?_)
                refine g_cmp_ne 161 187 (gd rfl) rfl rfl (fun c158 => ?_) (fun c158 => ?_)
                · skip
                  refine g_iinc 190 (gd rfl) rfl rfl (Nat.le_of_ble_eq_true rfl) (fun z187 e187 => ?_)
                  have i187 := in_add 1 160 e187 i81 (in_c 1 rfl) rfl rfl
                  refine g_goto 70 (gd rfl) rfl ?_
                  exact gg_w (by omega) (gg_f (gf_cons rfl (gf_cons rfl (gf_cons rfl (gf_cons rfl (gf_cons rfl (gf_cons rfl (gf_cons rfl gf_nil))))))) (ih70 (sI (sI sc70 52 z95.toNatClampNeg z129) 54 y70_3.toNatClampNeg z95) z139 y70_5 z187 hI138 (fr_sI rfl (fr_sI rfl hFc70)) (in_w 1 32 i139 rfl) (in_w 0 31 j70_4 rfl) (in_w 0 31 j70_5 rfl) (in_w 0 160 i187 rfl) (m_up mm70 (t_add e187 i81 (in_c 1 rfl) rfl) (in_w 1 1 (in_c 1 rfl) rfl))))
                · skip
                  refine g_aload_n 162 (gd rfl) rfl rfl ?_
                  refine g_getA (q2 := 53) 165 (gd rfl) rfl rfl rfl rfl ?_
                  refine g_iload 167 (gd rfl) rfl rfl ?_
                  refine g_aload_n 168 (gd rfl) rfl rfl ?_
                  refine g_getA (q2 := 53) 171 (gd rfl) rfl rfl rfl rfl ?_
                  refine g_iload 173 (gd rfl) rfl rfl ?_
                  refine g_laload 174 (gd rfl) rfl (n := 32) rfl (in_ix i95 rfl) (fun z173 e173 => ?_)
                  refine g_aload_n 175 (gd rfl) rfl rfl ?_
                  refine g_getA (q2 := 53) 178 (gd rfl) rfl rfl rfl rfl ?_
                  refine g_iload 180 (gd rfl) rfl rfl ?_
                  refine g_laload 181 (gd rfl) rfl (n := 32) rfl (in_ix j70_5 rfl) (fun z180 e180 => ?_)
                  refine g_ladd 182 (gd rfl) rfl (fun z181 e181 => ?_)
                  refine g_ldc2_w 1000000007 185 (gd rfl) rfl rfl ?_
                  refine g_lrem 186 (gd rfl) rfl (by decide) (fun z185 e185 => ?_)
                  have i185 := l_rem (-1000000006) 1000000006 e185 rfl
                  refine g_lastore 187 (gd rfl) rfl (n := 32) rfl (in_ix i95 rfl) ?_
                  have hI186 := inv_sL (q := 53) (j := z95.toNatClampNeg) (x := z185) hI138 rfl (l_rng z185)
                  refine g_iinc 190 (gd rfl) rfl rfl (Nat.le_of_ble_eq_true rfl) (fun z187 e187 => ?_)
                  have i187 := in_add 1 160 e187 i81 (in_c 1 rfl) rfl rfl
                  refine g_goto 70 (gd rfl) rfl ?_
                  exact gg_w (by omega) (gg_f (gf_cons rfl (gf_cons rfl (gf_cons rfl (gf_cons rfl (gf_cons rfl (gf_cons rfl (gf_cons rfl gf_nil))))))) (ih70 (sL (sI (sI sc70 52 z95.toNatClampNeg z129) 54 y70_3.toNatClampNeg z95) 53 z95.toNatClampNeg z185) z139 y70_5 z187 hI186 (fr_sL rfl (fr_sI rfl (fr_sI rfl hFc70))) (in_w 1 32 i139 rfl) (in_w 0 31 j70_4 rfl) (in_w 0 31 j70_5 rfl) (in_w 0 160 i187 rfl) (m_up mm70 (t_add e187 i81 (in_c 1 rfl) rfl) (in_w 1 1 (in_c 1 rfl) rfl))))
      refine g_iload 48 (gd rfl) rfl rfl ?_
      refine g_iload_n 49 (gd rfl) rfl rfl ?_
      refine g_cmp_ge 52 199 (gd rfl) rfl rfl (fun c49 => ?_) (fun c49 => ?_)
      · skip
        have i49 := r_le2 1 32 c49 j46_3 j46_4 rfl
        exact g_return (gd rfl) rfl (hP _ _ ⟨sc46, hIc46, hFc46, rfl, rfl⟩)
      · skip
        have i49 := r_lt1 0 31 c49 j46_4 j46_3 rfl
        refine g_aload_n 53 (gd rfl) rfl rfl ?_
        refine g_getA (q2 := 54) 56 (gd rfl) rfl rfl rfl rfl ?_
        refine g_iload 58 (gd rfl) rfl rfl ?_
        refine g_iaload 59 (gd rfl) rfl (n := 32) rfl (in_ix i49 rfl) (fun z58 e58 => ?_)
        have i58 := inv_I hIc46 (n := 32) (t := 0) 0 31 rfl (in_ix i49 rfl) rfl e58
        refine g_istore 61 (gd rfl) rfl (Nat.le_of_ble_eq_true rfl) ?_
        refine g_aload_n 62 (gd rfl) rfl rfl ?_
        refine g_getA (q2 := 12) 65 (gd rfl) rfl rfl rfl rfl ?_
        refine g_iload 67 (gd rfl) rfl rfl ?_
        refine g_iaload 68 (gd rfl) rfl (n := 33) rfl (in_ix i58 rfl) (fun z67 e67 => ?_)
        have i67 := inv_I hIc46 (n := 33) (t := 0) 0 160 rfl (in_ix i58 rfl) rfl e67
        refine g_istore 70 (gd rfl) rfl (Nat.le_of_ble_eq_true rfl) ?_
        exact gg_w (by omega) (gg_f (gf_cons rfl (gf_cons rfl (gf_cons rfl (gf_cons rfl (gf_cons rfl (gf_cons rfl (gf_cons rfl gf_nil))))))) (ct70 161 sc46 y46_3 z58 z67 hIc46 hFc46 (in_w 1 32 j46_3 rfl) (in_w 0 31 i49 rfl) (in_w 0 31 i58 rfl) (in_w 0 160 i67 rfl) (m_in 161 (in_w 0 160 i67 rfl) rfl)))
  refine g_enter2 (k := 204) (N := 4871734) (by omega) rfl (Nat.le_of_ble_eq_true rfl) ?_
  refine g_aload_n 1 (gd rfl) rfl rfl ?_
  refine g_callv (X := _) (As := []) (r := []) (b := A 2) (q := 2) 4 (gd rfl) rfl rfl rfl rfl rfl (ww_o rfl) (Nat.le_of_ble_eq_true rfl) (Nat.zero_le _) (Nat.zero_le _) (k_106_2 (by omega) hI ) (fun e u h => h) (fun v u h => ?_)
  obtain ⟨s1, hI1, hF1, n1, rfl, rfl⟩ := h
  obtain ⟨z1a, e1⟩ : ∃ w, w = s1.2.2.1 2 4 := ⟨_, rfl⟩
  have i1a := inv_F hI1 (-1) 4000 rfl e1
  obtain ⟨z1b, e1a⟩ : ∃ w, w = s1.2.2.1 2 0 := ⟨_, rfl⟩
  have i1b := inv_F hI1 0 4000 rfl e1a
  rw [← (show z1a = s1.2.2.1 2 4 from e1)] at n1
  rw [← (show z1b = s1.2.2.1 2 0 from e1a)] at n1
  show GG _ _ _ _ _ _ _ _ [] _ _ _
  refine g_aload_n 5 (gd rfl) rfl rfl ?_
  refine g_getA (q2 := 52) 8 (gd rfl) rfl rfl rfl rfl ?_
  refine g_iconst (-1) 9 (gd rfl) rfl rfl ?_
  refine g_calls (As := [.ref (A 52), .int (Int32.ofInt (-1))]) (r := []) 12 (gd rfl) rfl rfl rfl rfl rfl (Nat.le_of_ble_eq_true rfl) (Nat.zero_le _) (Nat.zero_le _) (k_fillI 52 (by omega) hI1 (in_c (-1) rfl) (n := 32) rfl rfl rfl rfl) (fun v u h => ?_)
  obtain ⟨s9, hI9, hF9, rfl, rfl, fl9⟩ := h
  show GG _ _ _ _ _ _ _ _ [] _ _ _
  refine g_aload_n 13 (gd rfl) rfl rfl ?_
  refine g_getA (q2 := 53) 16 (gd rfl) rfl rfl rfl rfl ?_
  refine g_lconst 0 17 (gd rfl) rfl rfl ?_
  refine g_calls (As := [.ref (A 53), .long (Int64.ofInt 0)]) (r := []) 20 (gd rfl) rfl rfl rfl rfl rfl (Nat.le_of_ble_eq_true rfl) (Nat.zero_le _) (Nat.zero_le _) (k_fillL 53 (by omega) hI9 (n := 32) rfl rfl rfl (l_rng (Int64.ofInt 0))) (fun v u h => ?_)
  obtain ⟨s17, hI17, hF17, rfl, rfl, fl17⟩ := h
  show GG _ _ _ _ _ _ _ _ [] _ _ _
  refine g_aload_n 21 (gd rfl) rfl rfl ?_
  refine g_getA (q2 := 52) 24 (gd rfl) rfl rfl rfl rfl ?_
  refine g_iload_n 25 (gd rfl) rfl rfl ?_
  refine g_iconst 0 26 (gd rfl) rfl rfl ?_
  refine g_iastore 27 (gd rfl) rfl (n := 32) rfl (in_ix h2 rfl) ?_
  have hI26 := inv_sI (q := 52) (j := x2.toNatClampNeg) hI17 rfl (in_w (-2147483648) 2147483647 (in_c 0 rfl) rfl)
  refine g_aload_n 28 (gd rfl) rfl rfl ?_
  refine g_getA (q2 := 53) 31 (gd rfl) rfl rfl rfl rfl ?_
  refine g_iload_n 32 (gd rfl) rfl rfl ?_
  refine g_lconst 1 33 (gd rfl) rfl rfl ?_
  refine g_lastore 34 (gd rfl) rfl (n := 32) rfl (in_ix h2 rfl) ?_
  have hI33 := inv_sL (q := 53) (j := x2.toNatClampNeg) (x := (Int64.ofInt 1)) hI26 rfl (l_rng (Int64.ofInt 1))
  refine g_aload_n 35 (gd rfl) rfl rfl ?_
  refine g_getA (q2 := 54) 38 (gd rfl) rfl rfl rfl rfl ?_
  refine g_iconst 0 39 (gd rfl) rfl rfl ?_
  refine g_iload_n 40 (gd rfl) rfl rfl ?_
  refine g_iastore 41 (gd rfl) rfl (n := 32) rfl (in_ix (in_c 0 rfl) rfl) ?_
  have hI40 := inv_sI (q := 54) (j := (Int32.ofInt 0).toNatClampNeg) hI33 rfl (in_w 0 31 h2 rfl)
  refine g_iconst 1 42 (gd rfl) rfl rfl ?_
  refine g_istore_n 43 (gd rfl) rfl (Nat.le_of_ble_eq_true rfl) ?_
  refine g_iconst 0 44 (gd rfl) rfl rfl ?_
  refine g_istore 46 (gd rfl) rfl (Nat.le_of_ble_eq_true rfl) ?_
  exact gg_w (by omega) (gg_f (gf_cons rfl (gf_cons rfl (gf_cons rfl (gf_cons rfl (gf_cons rfl gf_nil))))) (ct46 33 (sI (sL (sI s17 52 x2.toNatClampNeg (Int32.ofInt 0)) 53 x2.toNatClampNeg (Int64.ofInt 1)) 54 (Int32.ofInt 0).toNatClampNeg x2) (Int32.ofInt 1) (Int32.ofInt 0) hI40 (fr_sI rfl (fr_sL rfl (fr_sI rfl (fr_tr rfl (fr_tr rfl (fr_tr rfl fr_rf hF1) hF9) hF17)))) (in_w 1 32 (in_c 1 rfl) rfl) (in_w 0 32 (in_c 0 rfl) rfl) (m_in 33 (in_w 0 32 (in_c 0 rfl) rfl) rfl)))

def fm_204_49_32 : FM := ([39, 40, 41, 42, 43, 44, 45, 52, 54], [53], [(32, 4)], [])
/-- GraphHouse$Ways.spread -/
theorem k_204_49_32 {Z : AmZ} {A : Nat → Nat} {s : GS} {ex : va_W} {d : Nat} {X : AmX} {x2 : Int32} (hd : 4 ≤ d) (hI : Inv s) (h2 : In x2 0 31) : GC Z d 204 [.ref (A 49), .ref (A 32), .int x2] (WW Z A s ++ ex) 0 0 (fun v u => ∃ t : GS, Inv t ∧ Fr fm_204_49_32 s t ∧ v = none ∧ u = WW Z A t ++ ex) X := by
  intro post xp hP hX
  have ct46 : ∀ (k46 : Nat) (sc46 : GS) (y46_3 : Int32) (y46_4 : Int32), Inv sc46 → Fr fm_204_49_32 s sc46 → (In y46_3 1 32) → (In y46_4 0 32) → 32 - (y46_4).toInt < (k46 : Int) → GG Z (d - 1) 204 post (gx xp) (1 + k46 * 147601) 46 (fun j => xlook j [(0, .ref (A 49)), (1, .ref (A 32)), (2, .int x2), (3, .int y46_3), (4, .int y46_4)]) [] (WW Z A sc46 ++ ex) 0 0 := by
    intro k46
    induction k46 with
    | zero => intro sc46 y46_3 y46_4 hIc46 hFc46 j46_3 j46_4 mm46; exact m_no mm46 j46_4 rfl
    | succ k46 ih46 =>
      intro sc46 y46_3 y46_4 hIc46 hFc46 j46_3 j46_4 mm46
      refine gg_w (M := 1 + k46 * 147601 + 147601) (by omega) ?_
      have ct70 : ∀ (k70 : Nat) (sc70 : GS) (y70_3 : Int32) (y70_5 : Int32) (y70_6 : Int32), Inv sc70 → Fr fm_204_49_32 s sc70 → (In y70_3 1 32) → (In y46_4 0 31) → (In y70_5 0 31) → (In y70_6 0 160) → 160 - (y70_6).toInt < (k70 : Int) → GG Z (d - 1) 204 post (gx xp) (1 + k46 * 147601 + 1 + k70 * 900) 70 (fun j => xlook j [(0, .ref (A 49)), (1, .ref (A 32)), (2, .int x2), (3, .int y70_3), (4, .int y46_4), (5, .int y70_5), (6, .int y70_6)]) [] (WW Z A sc70 ++ ex) 0 0 := by
        intro k70
        induction k70 with
        | zero => intro sc70 y70_3 y70_5 y70_6 hIc70 hFc70 j70_3 j70_4 j70_5 j70_6 mm70; exact m_no mm70 j70_6 rfl
        | succ k70 ih70 =>
          intro sc70 y70_3 y70_5 y70_6 hIc70 hFc70 j70_3 j70_4 j70_5 j70_6 mm70
          refine gg_w (M := 1 + k46 * 147601 + 1 + k70 * 900 + 900) (by omega) ?_
          refine g_iload 72 (gd rfl) rfl rfl ?_
          refine g_aload_n 73 (gd rfl) rfl rfl ?_
          refine g_getA (q2 := 42) 76 (gd rfl) rfl rfl rfl rfl ?_
          refine g_iload 78 (gd rfl) rfl rfl ?_
          refine g_iconst 1 79 (gd rfl) rfl rfl ?_
          refine g_iadd 80 (gd rfl) rfl (fun z79 e79 => ?_)
          have i79 := in_add 1 32 e79 j70_5 (in_c 1 rfl) rfl rfl
          refine g_iaload 81 (gd rfl) rfl (n := 33) rfl (in_ix i79 rfl) (fun z80 e80 => ?_)
          have i80 := inv_I hIc70 (n := 33) (t := 0) 0 160 rfl (in_ix i79 rfl) rfl e80
          refine g_cmp_ge 84 193 (gd rfl) rfl rfl (fun c81 => ?_) (fun c81 => ?_)
          · skip
            refine g_iinc 196 (gd rfl) rfl rfl (Nat.le_of_ble_eq_true rfl) (fun z193 e193 => ?_)
            have i193 := in_add 1 32 e193 j70_4 (in_c 1 rfl) rfl rfl
            refine g_goto 46 (gd rfl) rfl ?_
            exact gg_w (by omega) (gg_f (gf_cons rfl (gf_cons rfl (gf_cons rfl (gf_cons rfl (gf_cons rfl gf_nil))))) (ih46 sc70 y70_3 z193 hIc70 hFc70 (in_w 1 32 j70_3 rfl) (in_w 0 32 i193 rfl) (m_up mm46 (t_add e193 j70_4 (in_c 1 rfl) rfl) (in_w 1 1 (in_c 1 rfl) rfl))))
          · skip
            have i81 := r_lt1 0 159 c81 j70_6 i80 rfl
            have i81a := r_lt2 1 160 c81 j70_6 i80 rfl
            refine g_aload_n 85 (gd rfl) rfl rfl ?_
            refine g_getA (q2 := 35) 88 (gd rfl) rfl rfl rfl rfl ?_
            refine g_aload_n 89 (gd rfl) rfl rfl ?_
            refine g_getA (q2 := 43) 92 (gd rfl) rfl rfl rfl rfl ?_
            refine g_iload 94 (gd rfl) rfl rfl ?_
            refine g_iaload 95 (gd rfl) rfl (n := 160) rfl (in_ix i81 rfl) (fun z94 e94 => ?_)
            have i94 := inv_I hIc70 (n := 160) (t := 0) 0 159 rfl (in_ix i81 rfl) rfl e94
            refine g_iaload 96 (gd rfl) rfl (n := 160) rfl (in_ix i94 rfl) (fun z95 e95 => ?_)
            have i95 := inv_I hIc70 (n := 160) (t := 0) 0 31 rfl (in_ix i94 rfl) rfl e95
            refine g_istore 98 (gd rfl) rfl (Nat.le_of_ble_eq_true rfl) ?_
            refine g_aload_n 99 (gd rfl) rfl rfl ?_
            refine g_getA (q2 := 52) 102 (gd rfl) rfl rfl rfl rfl ?_
            refine g_iload 104 (gd rfl) rfl rfl ?_
            refine g_iaload 105 (gd rfl) rfl (n := 32) rfl (in_ix i95 rfl) (fun z104 e104 => ?_)
            refine g_iconst (-1) 106 (gd rfl) rfl rfl ?_
            refine g_cmp_ne 109 142 (gd rfl) rfl rfl (fun c106 => ?_) (fun c106 => ?_)
            · skip
              refine g_aload_n 143 (gd rfl) rfl rfl ?_
              refine g_getA (q2 := 52) 146 (gd rfl) rfl rfl rfl rfl ?_
              refine g_iload 148 (gd rfl) rfl rfl ?_
              refine g_iaload 149 (gd rfl) rfl (n := 32) rfl (in_ix i95 rfl) (fun z148 e148 => ?_)
              have q148 : z104 = z148 := (e104).trans e148.symm
              subst q148
              refine g_aload_n 150 (gd rfl) rfl rfl ?_
              refine g_getA (q2 := 52) 153 (gd rfl) rfl rfl rfl rfl ?_
              refine g_iload 155 (gd rfl) rfl rfl ?_
              refine g_iaload 156 (gd rfl) rfl (n := 32) rfl (in_ix j70_5 rfl) (fun z155 e155 => ?_)
              refine g_iconst 1 157 (gd rfl) rfl rfl ?_
              refine g_iadd 158 (gd rfl) rfl (fun z157 e157 => ?_)
              refine g_cmp_ne 161 187 (gd rfl) rfl rfl (fun c158 => ?_) (fun c158 => ?_)
              · skip
                refine g_iinc 190 (gd rfl) rfl rfl (Nat.le_of_ble_eq_true rfl) (fun z187 e187 => ?_)
                have i187 := in_add 1 160 e187 i81 (in_c 1 rfl) rfl rfl
                refine g_goto 70 (gd rfl) rfl ?_
                exact gg_w (by omega) (gg_f (gf_cons rfl (gf_cons rfl (gf_cons rfl (gf_cons rfl (gf_cons rfl (gf_cons rfl (gf_cons rfl gf_nil))))))) (ih70 sc70 y70_3 y70_5 z187 hIc70 hFc70 (in_w 1 32 j70_3 rfl) (in_w 0 31 j70_4 rfl) (in_w 0 31 j70_5 rfl) (in_w 0 160 i187 rfl) (m_up mm70 (t_add e187 i81 (in_c 1 rfl) rfl) (in_w 1 1 (in_c 1 rfl) rfl))))
              · skip
                refine g_aload_n 162 (gd rfl) rfl rfl ?_
                refine g_getA (q2 := 53) 165 (gd rfl) rfl rfl rfl rfl ?_
                refine g_iload 167 (gd rfl) rfl rfl ?_
                refine g_aload_n 168 (gd rfl) rfl rfl ?_
                refine g_getA (q2 := 53) 171 (gd rfl) rfl rfl rfl rfl ?_
                refine g_iload 173 (gd rfl) rfl rfl ?_
                refine g_laload 174 (gd rfl) rfl (n := 32) rfl (in_ix i95 rfl) (fun z173 e173 => ?_)
                refine g_aload_n 175 (gd rfl) rfl rfl ?_
                refine g_getA (q2 := 53) 178 (gd rfl) rfl rfl rfl rfl ?_
                refine g_iload 180 (gd rfl) rfl rfl ?_
                refine g_laload 181 (gd rfl) rfl (n := 32) rfl (in_ix j70_5 rfl) (fun z180 e180 => ?_)
                refine g_ladd 182 (gd rfl) rfl (fun z181 e181 => ?_)
                refine g_ldc2_w 1000000007 185 (gd rfl) rfl rfl ?_
                refine g_lrem 186 (gd rfl) rfl (by decide) (fun z185 e185 => ?_)
                have i185 := l_rem (-1000000006) 1000000006 e185 rfl
                refine g_lastore 187 (gd rfl) rfl (n := 32) rfl (in_ix i95 rfl) ?_
                have hI186 := inv_sL (q := 53) (j := z95.toNatClampNeg) (x := z185) hIc70 rfl (l_rng z185)
                refine g_iinc 190 (gd rfl) rfl rfl (Nat.le_of_ble_eq_true rfl) (fun z187 e187 => ?_)
                have i187 := in_add 1 160 e187 i81 (in_c 1 rfl) rfl rfl
                refine g_goto 70 (gd rfl) rfl ?_
                exact gg_w (by omega) (gg_f (gf_cons rfl (gf_cons rfl (gf_cons rfl (gf_cons rfl (gf_cons rfl (gf_cons rfl (gf_cons rfl gf_nil))))))) (ih70 (sL sc70 53 z95.toNatClampNeg z185) y70_3 y70_5 z187 hI186 (fr_sL rfl hFc70) (in_w 1 32 j70_3 rfl) (in_w 0 31 j70_4 rfl) (in_w 0 31 j70_5 rfl) (in_w 0 160 i187 rfl) (m_up mm70 (t_add e187 i81 (in_c 1 rfl) rfl) (in_w 1 1 (in_c 1 rfl) rfl))))
            · skip
              have i106 := r_eq1 (-1) (-1) c106 (i_rng z104) (in_c (-1) rfl) rfl
              refine g_iload_n 110 (gd rfl) rfl rfl ?_
              refine g_bipush 32 112 (gd rfl) rfl rfl ?_
              refine g_cmp_ge 115 142 (gd rfl) rfl rfl (fun c112 => ?_) (fun c112 => ?_)
              · skip
                have i112 := r_le2 32 32 c112 (in_c 32 rfl) j70_3 rfl
                refine g_aload_n 143 (gd rfl) rfl rfl ?_
                refine g_getA (q2 := 52) 146 (gd rfl) rfl rfl rfl rfl ?_
                refine g_iload 148 (gd rfl) rfl rfl ?_
                refine g_iaload 149 (gd rfl) rfl (n := 32) rfl (in_ix i95 rfl) (fun z148 e148 => ?_)
                have q148 : z104 = z148 := (e104).trans e148.symm
                subst q148
                refine g_aload_n 150 (gd rfl) rfl rfl ?_
                refine g_getA (q2 := 52) 153 (gd rfl) rfl rfl rfl rfl ?_
                refine g_iload 155 (gd rfl) rfl rfl ?_
                refine g_iaload 156 (gd rfl) rfl (n := 32) rfl (in_ix j70_5 rfl) (fun z155 e155 => ?_)
                refine g_iconst 1 157 (gd rfl) rfl rfl ?_
                refine g_iadd 158 (gd rfl) rfl (fun z157 e157 => ?_)
                refine g_cmp_ne 161 187 (gd rfl) rfl rfl (fun c158 => ?_) (fun c158 => ?_)
                · skip
                  refine g_iinc 190 (gd rfl) rfl rfl (Nat.le_of_ble_eq_true rfl) (fun z187 e187 => ?_)
                  have i187 := in_add 1 160 e187 i81 (in_c 1 rfl) rfl rfl
                  refine g_goto 70 (gd rfl) rfl ?_
                  exact gg_w (by omega) (gg_f (gf_cons rfl (gf_cons rfl (gf_cons rfl (gf_cons rfl (gf_cons rfl (gf_cons rfl (gf_cons rfl gf_nil))))))) (ih70 sc70 y70_3 y70_5 z187 hIc70 hFc70 (in_w 1 32 i112 rfl) (in_w 0 31 j70_4 rfl) (in_w 0 31 j70_5 rfl) (in_w 0 160 i187 rfl) (m_up mm70 (t_add e187 i81 (in_c 1 rfl) rfl) (in_w 1 1 (in_c 1 rfl) rfl))))
                · skip
                  have i158 := r_eq2 (-1) (-1) c158 i106 (i_rng z157) rfl
                  refine g_aload_n 162 (gd rfl) rfl rfl ?_
                  refine g_getA (q2 := 53) 165 (gd rfl) rfl rfl rfl rfl ?_
                  refine g_iload 167 (gd rfl) rfl rfl ?_
                  refine g_aload_n 168 (gd rfl) rfl rfl ?_
                  refine g_getA (q2 := 53) 171 (gd rfl) rfl rfl rfl rfl ?_
                  refine g_iload 173 (gd rfl) rfl rfl ?_
                  refine g_laload 174 (gd rfl) rfl (n := 32) rfl (in_ix i95 rfl) (fun z173 e173 => ?_)
                  refine g_aload_n 175 (gd rfl) rfl rfl ?_
                  refine g_getA (q2 := 53) 178 (gd rfl) rfl rfl rfl rfl ?_
                  refine g_iload 180 (gd rfl) rfl rfl ?_
                  refine g_laload 181 (gd rfl) rfl (n := 32) rfl (in_ix j70_5 rfl) (fun z180 e180 => ?_)
                  refine g_ladd 182 (gd rfl) rfl (fun z181 e181 => ?_)
                  refine g_ldc2_w 1000000007 185 (gd rfl) rfl rfl ?_
                  refine g_lrem 186 (gd rfl) rfl (by decide) (fun z185 e185 => ?_)
                  have i185 := l_rem (-1000000006) 1000000006 e185 rfl
                  refine g_lastore 187 (gd rfl) rfl (n := 32) rfl (in_ix i95 rfl) ?_
                  have hI186 := inv_sL (q := 53) (j := z95.toNatClampNeg) (x := z185) hIc70 rfl (l_rng z185)
                  refine g_iinc 190 (gd rfl) rfl rfl (Nat.le_of_ble_eq_true rfl) (fun z187 e187 => ?_)
                  have i187 := in_add 1 160 e187 i81 (in_c 1 rfl) rfl rfl
                  refine g_goto 70 (gd rfl) rfl ?_
                  exact gg_w (by omega) (gg_f (gf_cons rfl (gf_cons rfl (gf_cons rfl (gf_cons rfl (gf_cons rfl (gf_cons rfl (gf_cons rfl gf_nil))))))) (ih70 (sL sc70 53 z95.toNatClampNeg z185) y70_3 y70_5 z187 hI186 (fr_sL rfl hFc70) (in_w 1 32 i112 rfl) (in_w 0 31 j70_4 rfl) (in_w 0 31 j70_5 rfl) (in_w 0 160 i187 rfl) (m_up mm70 (t_add e187 i81 (in_c 1 rfl) rfl) (in_w 1 1 (in_c 1 rfl) rfl))))
              · skip
                have i112 := r_lt1 1 31 c112 j70_3 (in_c 32 rfl) rfl
                refine g_aload_n 116 (gd rfl) rfl rfl ?_
                refine g_getA (q2 := 52) 119 (gd rfl) rfl rfl rfl rfl ?_
                refine g_iload 121 (gd rfl) rfl rfl ?_
                refine g_aload_n 122 (gd rfl) rfl rfl ?_
                refine g_getA (q2 := 52) 125 (gd rfl) rfl rfl rfl rfl ?_
                refine g_iload 127 (gd rfl) rfl rfl ?_
                refine g_iaload 128 (gd rfl) rfl (n := 32) rfl (in_ix j70_5 rfl) (fun z127 e127 => ?_)
                refine g_iconst 1 129 (gd rfl) rfl rfl ?_
                refine g_iadd 130 (gd rfl) rfl (fun z129 e129 => ?_)
                refine g_iastore 131 (gd rfl) rfl (n := 32) rfl (in_ix i95 rfl) ?_
                have hI130 := inv_sI (q := 52) (j := z95.toNatClampNeg) hIc70 rfl (in_w (-2147483648) 2147483647 (i_rng z129) rfl)
                refine g_aload_n 132 (gd rfl) rfl rfl ?_
                refine g_getA (q2 := 54) 135 (gd rfl) rfl rfl rfl rfl ?_
                refine g_iload_n 136 (gd rfl) rfl rfl ?_
                refine g_iload 138 (gd rfl) rfl rfl ?_
                refine g_iastore 139 (gd rfl) rfl (n := 32) rfl (in_ix i112 rfl) ?_
                have hI138 := inv_sI (q := 54) (j := y70_3.toNatClampNeg) hI130 rfl (in_w 0 31 i95 rfl)
                refine g_iinc 142 (gd rfl) rfl rfl (Nat.le_of_ble_eq_true rfl) (fun z139 e139 => ?_)
                have i139 := in_add 2 32 e139 i112 (in_c 1 rfl) rfl rfl
                refine g_aload_n 143 (gd rfl) rfl rfl ?_
                refine g_getA (q2 := 52) 146 (gd rfl) rfl rfl rfl rfl ?_
                refine g_iload 148 (gd rfl) rfl rfl ?_
                refine g_iaload 149 (gd rfl) rfl (n := 32) rfl (in_ix i95 rfl) (fun z148 e148 => ?_)
                have q148 : z129 = z148 := (sI_ne rfl (sI_get)).trans e148.symm
                subst q148
                refine g_aload_n 150 (gd rfl) rfl rfl ?_
                refine g_getA (q2 := 52) 153 (gd rfl) rfl rfl rfl rfl ?_
                refine g_iload 155 (gd rfl) rfl rfl ?_
                refine g_iaload 156 (gd rfl) rfl (n := 32) rfl (in_ix j70_5 rfl) (fun z155 e155 => ?_)
                refine g_iconst 1 157 (gd rfl) rfl rfl ?_
                refine g_iadd 158 (gd rfl) rfl (fun z157 e157 => ?_)
                refine g_cmp_ne 161 187 (gd rfl) rfl rfl (fun c158 => ?_) (fun c158 => ?_)
                · skip
                  refine g_iinc 190 (gd rfl) rfl rfl (Nat.le_of_ble_eq_true rfl) (fun z187 e187 => ?_)
                  have i187 := in_add 1 160 e187 i81 (in_c 1 rfl) rfl rfl
                  refine g_goto 70 (gd rfl) rfl ?_
                  exact gg_w (by omega) (gg_f (gf_cons rfl (gf_cons rfl (gf_cons rfl (gf_cons rfl (gf_cons rfl (gf_cons rfl (gf_cons rfl gf_nil))))))) (ih70 (sI (sI sc70 52 z95.toNatClampNeg z129) 54 y70_3.toNatClampNeg z95) z139 y70_5 z187 hI138 (fr_sI rfl (fr_sI rfl hFc70)) (in_w 1 32 i139 rfl) (in_w 0 31 j70_4 rfl) (in_w 0 31 j70_5 rfl) (in_w 0 160 i187 rfl) (m_up mm70 (t_add e187 i81 (in_c 1 rfl) rfl) (in_w 1 1 (in_c 1 rfl) rfl))))
                · skip
                  refine g_aload_n 162 (gd rfl) rfl rfl ?_
                  refine g_getA (q2 := 53) 165 (gd rfl) rfl rfl rfl rfl ?_
                  refine g_iload 167 (gd rfl) rfl rfl ?_
                  refine g_aload_n 168 (gd rfl) rfl rfl ?_
                  refine g_getA (q2 := 53) 171 (gd rfl) rfl rfl rfl rfl ?_
                  refine g_iload 173 (gd rfl) rfl rfl ?_
                  refine g_laload 174 (gd rfl) rfl (n := 32) rfl (in_ix i95 rfl) (fun z173 e173 => ?_)
                  refine g_aload_n 175 (gd rfl) rfl rfl ?_
                  refine g_getA (q2 := 53) 178 (gd rfl) rfl rfl rfl rfl ?_
                  refine g_iload 180 (gd rfl) rfl rfl ?_
                  refine g_laload 181 (gd rfl) rfl (n := 32) rfl (in_ix j70_5 rfl) (fun z180 e180 => ?_)
                  refine g_ladd 182 (gd rfl) rfl (fun z181 e181 => ?_)
                  refine g_ldc2_w 1000000007 185 (gd rfl) rfl rfl ?_
                  refine g_lrem 186 (gd rfl) rfl (by decide) (fun z185 e185 => ?_)
                  have i185 := l_rem (-1000000006) 1000000006 e185 rfl
                  refine g_lastore 187 (gd rfl) rfl (n := 32) rfl (in_ix i95 rfl) ?_
                  have hI186 := inv_sL (q := 53) (j := z95.toNatClampNeg) (x := z185) hI138 rfl (l_rng z185)
                  refine g_iinc 190 (gd rfl) rfl rfl (Nat.le_of_ble_eq_true rfl) (fun z187 e187 => ?_)
                  have i187 := in_add 1 160 e187 i81 (in_c 1 rfl) rfl rfl
                  refine g_goto 70 (gd rfl) rfl ?_
                  exact gg_w (by omega) (gg_f (gf_cons rfl (gf_cons rfl (gf_cons rfl (gf_cons rfl (gf_cons rfl (gf_cons rfl (gf_cons rfl gf_nil))))))) (ih70 (sL (sI (sI sc70 52 z95.toNatClampNeg z129) 54 y70_3.toNatClampNeg z95) 53 z95.toNatClampNeg z185) z139 y70_5 z187 hI186 (fr_sL rfl (fr_sI rfl (fr_sI rfl hFc70))) (in_w 1 32 i139 rfl) (in_w 0 31 j70_4 rfl) (in_w 0 31 j70_5 rfl) (in_w 0 160 i187 rfl) (m_up mm70 (t_add e187 i81 (in_c 1 rfl) rfl) (in_w 1 1 (in_c 1 rfl) rfl))))
      refine g_iload 48 (gd rfl) rfl rfl ?_
      refine g_iload_n 49 (gd rfl) rfl rfl ?_
      refine g_cmp_ge 52 199 (gd rfl) rfl rfl (fun c49 => ?_) (fun c49 => ?_)
      · skip
        have i49 := r_le2 1 32 c49 j46_3 j46_4 rfl
        exact g_return (gd rfl) rfl (hP _ _ ⟨sc46, hIc46, hFc46, rfl, rfl⟩)
      · skip
        have i49 := r_lt1 0 31 c49 j46_4 j46_3 rfl
        refine g_aload_n 53 (gd rfl) rfl rfl ?_
        refine g_getA (q2 := 54) 56 (gd rfl) rfl rfl rfl rfl ?_
        refine g_iload 58 (gd rfl) rfl rfl ?_
        refine g_iaload 59 (gd rfl) rfl (n := 32) rfl (in_ix i49 rfl) (fun z58 e58 => ?_)
        have i58 := inv_I hIc46 (n := 32) (t := 0) 0 31 rfl (in_ix i49 rfl) rfl e58
        refine g_istore 61 (gd rfl) rfl (Nat.le_of_ble_eq_true rfl) ?_
        refine g_aload_n 62 (gd rfl) rfl rfl ?_
        refine g_getA (q2 := 42) 65 (gd rfl) rfl rfl rfl rfl ?_
        refine g_iload 67 (gd rfl) rfl rfl ?_
        refine g_iaload 68 (gd rfl) rfl (n := 33) rfl (in_ix i58 rfl) (fun z67 e67 => ?_)
        have i67 := inv_I hIc46 (n := 33) (t := 0) 0 160 rfl (in_ix i58 rfl) rfl e67
        refine g_istore 70 (gd rfl) rfl (Nat.le_of_ble_eq_true rfl) ?_
        exact gg_w (by omega) (gg_f (gf_cons rfl (gf_cons rfl (gf_cons rfl (gf_cons rfl (gf_cons rfl (gf_cons rfl (gf_cons rfl gf_nil))))))) (ct70 161 sc46 y46_3 z58 z67 hIc46 hFc46 (in_w 1 32 j46_3 rfl) (in_w 0 31 i49 rfl) (in_w 0 31 i58 rfl) (in_w 0 160 i67 rfl) (m_in 161 (in_w 0 160 i67 rfl) rfl)))
  refine g_enter2 (k := 204) (N := 4871734) (by omega) rfl (Nat.le_of_ble_eq_true rfl) ?_
  refine g_aload_n 1 (gd rfl) rfl rfl ?_
  refine g_callv (X := _) (As := []) (r := []) (b := A 32) (q := 32) 4 (gd rfl) rfl rfl rfl rfl rfl (ww_o rfl) (Nat.le_of_ble_eq_true rfl) (Nat.zero_le _) (Nat.zero_le _) (k_106_32 (by omega) hI ) (fun e u h => h) (fun v u h => ?_)
  obtain ⟨s1, hI1, hF1, n1, rfl, rfl⟩ := h
  obtain ⟨z1a, e1⟩ : ∃ w, w = s1.2.2.1 32 4 := ⟨_, rfl⟩
  have i1a := inv_F hI1 (-1) 4000 rfl e1
  obtain ⟨z1b, e1a⟩ : ∃ w, w = s1.2.2.1 32 0 := ⟨_, rfl⟩
  have i1b := inv_F hI1 0 4000 rfl e1a
  rw [← (show z1a = s1.2.2.1 32 4 from e1)] at n1
  rw [← (show z1b = s1.2.2.1 32 0 from e1a)] at n1
  show GG _ _ _ _ _ _ _ _ [] _ _ _
  refine g_aload_n 5 (gd rfl) rfl rfl ?_
  refine g_getA (q2 := 52) 8 (gd rfl) rfl rfl rfl rfl ?_
  refine g_iconst (-1) 9 (gd rfl) rfl rfl ?_
  refine g_calls (As := [.ref (A 52), .int (Int32.ofInt (-1))]) (r := []) 12 (gd rfl) rfl rfl rfl rfl rfl (Nat.le_of_ble_eq_true rfl) (Nat.zero_le _) (Nat.zero_le _) (k_fillI 52 (by omega) hI1 (in_c (-1) rfl) (n := 32) rfl rfl rfl rfl) (fun v u h => ?_)
  obtain ⟨s9, hI9, hF9, rfl, rfl, fl9⟩ := h
  show GG _ _ _ _ _ _ _ _ [] _ _ _
  refine g_aload_n 13 (gd rfl) rfl rfl ?_
  refine g_getA (q2 := 53) 16 (gd rfl) rfl rfl rfl rfl ?_
  refine g_lconst 0 17 (gd rfl) rfl rfl ?_
  refine g_calls (As := [.ref (A 53), .long (Int64.ofInt 0)]) (r := []) 20 (gd rfl) rfl rfl rfl rfl rfl (Nat.le_of_ble_eq_true rfl) (Nat.zero_le _) (Nat.zero_le _) (k_fillL 53 (by omega) hI9 (n := 32) rfl rfl rfl (l_rng (Int64.ofInt 0))) (fun v u h => ?_)
  obtain ⟨s17, hI17, hF17, rfl, rfl, fl17⟩ := h
  show GG _ _ _ _ _ _ _ _ [] _ _ _
  refine g_aload_n 21 (gd rfl) rfl rfl ?_
  refine g_getA (q2 := 52) 24 (gd rfl) rfl rfl rfl rfl ?_
  refine g_iload_n 25 (gd rfl) rfl rfl ?_
  refine g_iconst 0 26 (gd rfl) rfl rfl ?_
  refine g_iastore 27 (gd rfl) rfl (n := 32) rfl (in_ix h2 rfl) ?_
  have hI26 := inv_sI (q := 52) (j := x2.toNatClampNeg) hI17 rfl (in_w (-2147483648) 2147483647 (in_c 0 rfl) rfl)
  refine g_aload_n 28 (gd rfl) rfl rfl ?_
  refine g_getA (q2 := 53) 31 (gd rfl) rfl rfl rfl rfl ?_
  refine g_iload_n 32 (gd rfl) rfl rfl ?_
  refine g_lconst 1 33 (gd rfl) rfl rfl ?_
  refine g_lastore 34 (gd rfl) rfl (n := 32) rfl (in_ix h2 rfl) ?_
  have hI33 := inv_sL (q := 53) (j := x2.toNatClampNeg) (x := (Int64.ofInt 1)) hI26 rfl (l_rng (Int64.ofInt 1))
  refine g_aload_n 35 (gd rfl) rfl rfl ?_
  refine g_getA (q2 := 54) 38 (gd rfl) rfl rfl rfl rfl ?_
  refine g_iconst 0 39 (gd rfl) rfl rfl ?_
  refine g_iload_n 40 (gd rfl) rfl rfl ?_
  refine g_iastore 41 (gd rfl) rfl (n := 32) rfl (in_ix (in_c 0 rfl) rfl) ?_
  have hI40 := inv_sI (q := 54) (j := (Int32.ofInt 0).toNatClampNeg) hI33 rfl (in_w 0 31 h2 rfl)
  refine g_iconst 1 42 (gd rfl) rfl rfl ?_
  refine g_istore_n 43 (gd rfl) rfl (Nat.le_of_ble_eq_true rfl) ?_
  refine g_iconst 0 44 (gd rfl) rfl rfl ?_
  refine g_istore 46 (gd rfl) rfl (Nat.le_of_ble_eq_true rfl) ?_
  exact gg_w (by omega) (gg_f (gf_cons rfl (gf_cons rfl (gf_cons rfl (gf_cons rfl (gf_cons rfl gf_nil))))) (ct46 33 (sI (sL (sI s17 52 x2.toNatClampNeg (Int32.ofInt 0)) 53 x2.toNatClampNeg (Int64.ofInt 1)) 54 (Int32.ofInt 0).toNatClampNeg x2) (Int32.ofInt 1) (Int32.ofInt 0) hI40 (fr_sI rfl (fr_sL rfl (fr_sI rfl (fr_tr rfl (fr_tr rfl (fr_tr rfl fr_rf hF1) hF9) hF17)))) (in_w 1 32 (in_c 1 rfl) rfl) (in_w 0 32 (in_c 0 rfl) rfl) (m_in 33 (in_w 0 32 (in_c 0 rfl) rfl) rfl)))

/-- GraphHouse$Ways.leads -/
theorem k_209_49_2 {Z : AmZ} {A : Nat → Nat} {s : GS} {ex : va_W} {d : Nat} {X : AmX} {x2 : Int32} {x3 : Int32} {x4 : Int32} (hd : 4 ≤ d) (hI : Inv s) (h2 : In x2 0 31) (h4 : In x4 0 3) : GC Z d 209 [.ref (A 49), .ref (A 2), .int x2, .int x3, .int x4] (WW Z A s ++ ex) 0 0 (fun v u => ∃ z : Int32, v = some (.int z) ∧ u = WW Z A s ++ ex ∧ In z 0 1) X := by
  intro post xp hP hX
  obtain ⟨u_49_10, e_49_10⟩ : ∃ w, w = s.2.2.1 49 10 := ⟨_, rfl⟩
  have ro_49_10 := inv_F hI 0 31 rfl e_49_10
  have ct60 : ∀ (k60 : Nat) (y60_5 : Int32) (y60_6 : Int32) (y60_7 : Int32), ((y60_7.toBitVec.toNat : Nat) : Int) < (k60 : Int) → GG Z (d - 1) 209 post (gx xp) (1 + k60 * 900) 60 (fun j => xlook j [(0, .ref (A 49)), (1, .ref (A 2)), (2, .int x2), (3, .int x3), (4, .int x4), (5, .int y60_5), (6, .int y60_6), (7, .int y60_7)]) [] (WW Z A s ++ ex) 0 0 := by
    intro k60
    induction k60 with
    | zero => intro y60_5 y60_6 y60_7  mm60; exact absurd mm60 (Int.not_lt.mpr (Int.natCast_nonneg _))
    | succ k60 ih60 =>
      intro y60_5 y60_6 y60_7  mm60
      refine gg_w (M := 1 + k60 * 900 + 900) (by omega) ?_
      refine g_iload 62 (gd rfl) rfl rfl ?_
      refine g_iconst 3 63 (gd rfl) rfl rfl ?_
      refine g_cmp_lt 66 105 (gd rfl) rfl rfl (fun c63 => ?_) (fun c63 => ?_)
      · skip
        have i63 := r_lt1 0 2 c63 h4 (in_c 3 rfl) rfl
        refine g_iconst 0 106 (gd rfl) rfl rfl ?_
        exact g_ireturn (gd rfl) rfl (nb01 (in_w 0 1 (in_c 0 rfl) rfl)) (hP _ _ ⟨(Int32.ofInt 0), rfl, rfl, in_w 0 1 (in_c 0 rfl) rfl⟩)
      · skip
        have i63 := r_le2 3 3 c63 (in_c 3 rfl) h4 rfl
        refine g_iload 68 (gd rfl) rfl rfl ?_
        refine g_if_eq 71 105 (gd rfl) rfl rfl (fun c68 => ?_) (fun c68 => ?_)
        · skip
          have i68 := z_eq 0 0 c68 (i_rng y60_7) rfl
          refine g_iconst 0 106 (gd rfl) rfl rfl ?_
          exact g_ireturn (gd rfl) rfl (nb01 (in_w 0 1 (in_c 0 rfl) rfl)) (hP _ _ ⟨(Int32.ofInt 0), rfl, rfl, in_w 0 1 (in_c 0 rfl) rfl⟩)
        · skip
          refine g_aload_n 72 (gd rfl) rfl rfl ?_
          refine g_getA (q2 := 10) 75 (gd rfl) rfl rfl rfl rfl ?_
          refine g_iload 77 (gd rfl) rfl rfl ?_
          refine g_calls (As := [.int y60_7]) (r := [.ref (A 10)]) 80 (gd rfl) rfl rfl rfl rfl rfl (Nat.le_of_ble_eq_true rfl) (Nat.zero_le _) (Nat.zero_le _) (k_264n (by omega) c68) (fun v u h => ?_)
          obtain ⟨z77, rfl, rfl, i77, hb77, hl77⟩ := h
          show GG _ _ _ _ _ _ _ _ [.int z77, .ref (A 10)] _ _ _
          refine g_iaload 81 (gd rfl) rfl (n := 32) rfl (in_ix i77 rfl) (fun z80 e80 => ?_)
          refine g_iload_n 82 (gd rfl) rfl rfl ?_
          refine g_iconst (-1) 83 (gd rfl) rfl rfl ?_
          refine g_ixor 84 (gd rfl) rfl (fun z83 e83 => ?_)
          refine g_iand 85 (gd rfl) rfl (fun z84 e84 => ?_)
          refine g_iload 87 (gd rfl) rfl rfl ?_
          refine g_iand 88 (gd rfl) rfl (fun z87 e87 => ?_)
          refine g_if_eq 91 93 (gd rfl) rfl rfl (fun c88 => ?_) (fun c88 => ?_)
          · skip
            have i88 := z_eq 0 0 c88 (i_rng z87) rfl
            refine g_iload 95 (gd rfl) rfl rfl ?_
            refine g_iload 97 (gd rfl) rfl rfl ?_
            refine g_iconst 1 98 (gd rfl) rfl rfl ?_
            refine g_isub 99 (gd rfl) rfl (fun z98 e98 => ?_)
            refine g_iand 100 (gd rfl) rfl (fun z99 e99 => ?_)
            refine g_istore 102 (gd rfl) rfl (Nat.le_of_ble_eq_true rfl) ?_
            refine g_goto 60 (gd rfl) rfl ?_
            exact gg_w (by omega) (gg_f (gf_cons rfl (gf_cons rfl (gf_cons rfl (gf_cons rfl (gf_cons rfl (gf_cons rfl (gf_cons rfl (gf_cons rfl gf_nil)))))))) (ih60  y60_5 y60_6 z99   (mb e99 e98 c68 mm60)))
          · skip
            refine g_iconst 1 92 (gd rfl) rfl rfl ?_
            exact g_ireturn (gd rfl) rfl (nb01 (in_w 0 1 (in_c 1 rfl) rfl)) (hP _ _ ⟨(Int32.ofInt 1), rfl, rfl, in_w 0 1 (in_c 1 rfl) rfl⟩)
  refine g_enter2 (k := 209) (N := 3865470567301) (by omega) rfl (Nat.le_of_ble_eq_true rfl) ?_
  refine g_aload_n 1 (gd rfl) rfl rfl ?_
  refine g_getA (q2 := 11) 4 (gd rfl) rfl rfl rfl rfl ?_
  refine g_aload_n 5 (gd rfl) rfl rfl ?_
  refine g_getI 8 (gd rfl) rfl rfl rfl (fun z5 e5 => ?_)
  have q5 : u_49_10 = z5 := (e_49_10).trans e5.symm
  subst q5
  refine g_iaload 9 (gd rfl) rfl (n := 32) rfl (in_ix ro_49_10 rfl) (fun z8 e8 => ?_)
  refine g_istore 11 (gd rfl) rfl (Nat.le_of_ble_eq_true rfl) ?_
  refine g_iload 13 (gd rfl) rfl rfl ?_
  refine g_iconst 1 14 (gd rfl) rfl rfl ?_
  refine g_cmp_lt 17 28 (gd rfl) rfl rfl (fun c14 => ?_) (fun c14 => ?_)
  · skip
    have i14 := r_lt1 0 0 c14 h4 (in_c 1 rfl) rfl
    refine g_aload_n 29 (gd rfl) rfl rfl ?_
    refine g_getA (q2 := 10) 32 (gd rfl) rfl rfl rfl rfl ?_
    refine g_iload_n 33 (gd rfl) rfl rfl ?_
    refine g_iaload 34 (gd rfl) rfl (n := 32) rfl (in_ix h2 rfl) (fun z33 e33 => ?_)
    refine g_iload_n 35 (gd rfl) rfl rfl ?_
    refine g_iconst (-1) 36 (gd rfl) rfl rfl ?_
    refine g_ixor 37 (gd rfl) rfl (fun z36 e36 => ?_)
    refine g_iand 38 (gd rfl) rfl (fun z37 e37 => ?_)
    refine g_istore 40 (gd rfl) rfl (Nat.le_of_ble_eq_true rfl) ?_
    refine g_iload 42 (gd rfl) rfl rfl ?_
    refine g_iconst 2 43 (gd rfl) rfl rfl ?_
    refine g_cmp_lt 46 56 (gd rfl) rfl rfl (fun c43 => ?_) (fun c43 => ?_)
    · skip
      refine g_iload 58 (gd rfl) rfl rfl ?_
      refine g_istore 60 (gd rfl) rfl (Nat.le_of_ble_eq_true rfl) ?_
      exact gg_w (by omega) (gg_f (gf_cons rfl (gf_cons rfl (gf_cons rfl (gf_cons rfl (gf_cons rfl (gf_cons rfl (gf_cons rfl (gf_cons rfl gf_nil)))))))) (ct60 4294967296  z8 z37 z37   (mb_in _)))
    · skip
      exact n_le c43 (in_c 2 rfl) i14 rfl
  · skip
    have i14 := r_le2 1 3 c14 (in_c 1 rfl) h4 rfl
    refine g_iload 19 (gd rfl) rfl rfl ?_
    refine g_iload_n 20 (gd rfl) rfl rfl ?_
    refine g_ishr 21 (gd rfl) rfl (fun z20 e20 => ?_)
    refine g_iconst 1 22 (gd rfl) rfl rfl ?_
    refine g_iand 23 (gd rfl) rfl (fun z22 e22 => ?_)
    have i22 := in_and2 e22 (in_c 1 rfl) rfl
    refine g_if_eq 26 28 (gd rfl) rfl rfl (fun c23 => ?_) (fun c23 => ?_)
    · skip
      have i23 := z_eq 0 0 c23 i22 rfl
      refine g_aload_n 29 (gd rfl) rfl rfl ?_
      refine g_getA (q2 := 10) 32 (gd rfl) rfl rfl rfl rfl ?_
      refine g_iload_n 33 (gd rfl) rfl rfl ?_
      refine g_iaload 34 (gd rfl) rfl (n := 32) rfl (in_ix h2 rfl) (fun z33 e33 => ?_)
      refine g_iload_n 35 (gd rfl) rfl rfl ?_
      refine g_iconst (-1) 36 (gd rfl) rfl rfl ?_
      refine g_ixor 37 (gd rfl) rfl (fun z36 e36 => ?_)
      refine g_iand 38 (gd rfl) rfl (fun z37 e37 => ?_)
      refine g_istore 40 (gd rfl) rfl (Nat.le_of_ble_eq_true rfl) ?_
      refine g_iload 42 (gd rfl) rfl rfl ?_
      refine g_iconst 2 43 (gd rfl) rfl rfl ?_
      refine g_cmp_lt 46 56 (gd rfl) rfl rfl (fun c43 => ?_) (fun c43 => ?_)
      · skip
        have i43 := r_lt1 1 1 c43 i14 (in_c 2 rfl) rfl
        refine g_iload 58 (gd rfl) rfl rfl ?_
        refine g_istore 60 (gd rfl) rfl (Nat.le_of_ble_eq_true rfl) ?_
        exact gg_w (by omega) (gg_f (gf_cons rfl (gf_cons rfl (gf_cons rfl (gf_cons rfl (gf_cons rfl (gf_cons rfl (gf_cons rfl (gf_cons rfl gf_nil)))))))) (ct60 4294967296  z8 z37 z37   (mb_in _)))
      · skip
        have i43 := r_le2 2 3 c43 (in_c 2 rfl) i14 rfl
        refine g_iload 48 (gd rfl) rfl rfl ?_
        refine g_iload 50 (gd rfl) rfl rfl ?_
        refine g_iand 51 (gd rfl) rfl (fun z50 e50 => ?_)
        refine g_if_eq 54 56 (gd rfl) rfl rfl (fun c51 => ?_) (fun c51 => ?_)
        · skip
          have i51 := z_eq 0 0 c51 (i_rng z50) rfl
          refine g_iload 58 (gd rfl) rfl rfl ?_
          refine g_istore 60 (gd rfl) rfl (Nat.le_of_ble_eq_true rfl) ?_
          exact gg_w (by omega) (gg_f (gf_cons rfl (gf_cons rfl (gf_cons rfl (gf_cons rfl (gf_cons rfl (gf_cons rfl (gf_cons rfl (gf_cons rfl gf_nil)))))))) (ct60 4294967296  z8 z37 z37   (mb_in _)))
        · skip
          refine g_iconst 1 55 (gd rfl) rfl rfl ?_
          exact g_ireturn (gd rfl) rfl (nb01 (in_w 0 1 (in_c 1 rfl) rfl)) (hP _ _ ⟨(Int32.ofInt 1), rfl, rfl, in_w 0 1 (in_c 1 rfl) rfl⟩)
    · skip
      have i23 := z_ne 1 1 c23 i22 rfl
      refine g_iconst 1 27 (gd rfl) rfl rfl ?_
      exact g_ireturn (gd rfl) rfl (nb01 (in_w 0 1 (in_c 1 rfl) rfl)) (hP _ _ ⟨(Int32.ofInt 1), rfl, rfl, in_w 0 1 (in_c 1 rfl) rfl⟩)

/-- GraphHouse$Ways.leads -/
theorem k_209_49_32 {Z : AmZ} {A : Nat → Nat} {s : GS} {ex : va_W} {d : Nat} {X : AmX} {x2 : Int32} {x3 : Int32} {x4 : Int32} (hd : 4 ≤ d) (hI : Inv s) (h2 : In x2 0 31) (h4 : In x4 0 3) : GC Z d 209 [.ref (A 49), .ref (A 32), .int x2, .int x3, .int x4] (WW Z A s ++ ex) 0 0 (fun v u => ∃ z : Int32, v = some (.int z) ∧ u = WW Z A s ++ ex ∧ In z 0 1) X := by
  intro post xp hP hX
  obtain ⟨u_49_10, e_49_10⟩ : ∃ w, w = s.2.2.1 49 10 := ⟨_, rfl⟩
  have ro_49_10 := inv_F hI 0 31 rfl e_49_10
  have ct60 : ∀ (k60 : Nat) (y60_5 : Int32) (y60_6 : Int32) (y60_7 : Int32), ((y60_7.toBitVec.toNat : Nat) : Int) < (k60 : Int) → GG Z (d - 1) 209 post (gx xp) (1 + k60 * 900) 60 (fun j => xlook j [(0, .ref (A 49)), (1, .ref (A 32)), (2, .int x2), (3, .int x3), (4, .int x4), (5, .int y60_5), (6, .int y60_6), (7, .int y60_7)]) [] (WW Z A s ++ ex) 0 0 := by
    intro k60
    induction k60 with
    | zero => intro y60_5 y60_6 y60_7  mm60; exact absurd mm60 (Int.not_lt.mpr (Int.natCast_nonneg _))
    | succ k60 ih60 =>
      intro y60_5 y60_6 y60_7  mm60
      refine gg_w (M := 1 + k60 * 900 + 900) (by omega) ?_
      refine g_iload 62 (gd rfl) rfl rfl ?_
      refine g_iconst 3 63 (gd rfl) rfl rfl ?_
      refine g_cmp_lt 66 105 (gd rfl) rfl rfl (fun c63 => ?_) (fun c63 => ?_)
      · skip
        have i63 := r_lt1 0 2 c63 h4 (in_c 3 rfl) rfl
        refine g_iconst 0 106 (gd rfl) rfl rfl ?_
        exact g_ireturn (gd rfl) rfl (nb01 (in_w 0 1 (in_c 0 rfl) rfl)) (hP _ _ ⟨(Int32.ofInt 0), rfl, rfl, in_w 0 1 (in_c 0 rfl) rfl⟩)
      · skip
        have i63 := r_le2 3 3 c63 (in_c 3 rfl) h4 rfl
        refine g_iload 68 (gd rfl) rfl rfl ?_
        refine g_if_eq 71 105 (gd rfl) rfl rfl (fun c68 => ?_) (fun c68 => ?_)
        · skip
          have i68 := z_eq 0 0 c68 (i_rng y60_7) rfl
          refine g_iconst 0 106 (gd rfl) rfl rfl ?_
          exact g_ireturn (gd rfl) rfl (nb01 (in_w 0 1 (in_c 0 rfl) rfl)) (hP _ _ ⟨(Int32.ofInt 0), rfl, rfl, in_w 0 1 (in_c 0 rfl) rfl⟩)
        · skip
          refine g_aload_n 72 (gd rfl) rfl rfl ?_
          refine g_getA (q2 := 40) 75 (gd rfl) rfl rfl rfl rfl ?_
          refine g_iload 77 (gd rfl) rfl rfl ?_
          refine g_calls (As := [.int y60_7]) (r := [.ref (A 40)]) 80 (gd rfl) rfl rfl rfl rfl rfl (Nat.le_of_ble_eq_true rfl) (Nat.zero_le _) (Nat.zero_le _) (k_264n (by omega) c68) (fun v u h => ?_)
          obtain ⟨z77, rfl, rfl, i77, hb77, hl77⟩ := h
          show GG _ _ _ _ _ _ _ _ [.int z77, .ref (A 40)] _ _ _
          refine g_iaload 81 (gd rfl) rfl (n := 32) rfl (in_ix i77 rfl) (fun z80 e80 => ?_)
          refine g_iload_n 82 (gd rfl) rfl rfl ?_
          refine g_iconst (-1) 83 (gd rfl) rfl rfl ?_
          refine g_ixor 84 (gd rfl) rfl (fun z83 e83 => ?_)
          refine g_iand 85 (gd rfl) rfl (fun z84 e84 => ?_)
          refine g_iload 87 (gd rfl) rfl rfl ?_
          refine g_iand 88 (gd rfl) rfl (fun z87 e87 => ?_)
          refine g_if_eq 91 93 (gd rfl) rfl rfl (fun c88 => ?_) (fun c88 => ?_)
          · skip
            have i88 := z_eq 0 0 c88 (i_rng z87) rfl
            refine g_iload 95 (gd rfl) rfl rfl ?_
            refine g_iload 97 (gd rfl) rfl rfl ?_
            refine g_iconst 1 98 (gd rfl) rfl rfl ?_
            refine g_isub 99 (gd rfl) rfl (fun z98 e98 => ?_)
            refine g_iand 100 (gd rfl) rfl (fun z99 e99 => ?_)
            refine g_istore 102 (gd rfl) rfl (Nat.le_of_ble_eq_true rfl) ?_
            refine g_goto 60 (gd rfl) rfl ?_
            exact gg_w (by omega) (gg_f (gf_cons rfl (gf_cons rfl (gf_cons rfl (gf_cons rfl (gf_cons rfl (gf_cons rfl (gf_cons rfl (gf_cons rfl gf_nil)))))))) (ih60  y60_5 y60_6 z99   (mb e99 e98 c68 mm60)))
          · skip
            refine g_iconst 1 92 (gd rfl) rfl rfl ?_
            exact g_ireturn (gd rfl) rfl (nb01 (in_w 0 1 (in_c 1 rfl) rfl)) (hP _ _ ⟨(Int32.ofInt 1), rfl, rfl, in_w 0 1 (in_c 1 rfl) rfl⟩)
  refine g_enter2 (k := 209) (N := 3865470567301) (by omega) rfl (Nat.le_of_ble_eq_true rfl) ?_
  refine g_aload_n 1 (gd rfl) rfl rfl ?_
  refine g_getA (q2 := 41) 4 (gd rfl) rfl rfl rfl rfl ?_
  refine g_aload_n 5 (gd rfl) rfl rfl ?_
  refine g_getI 8 (gd rfl) rfl rfl rfl (fun z5 e5 => ?_)
  have q5 : u_49_10 = z5 := (e_49_10).trans e5.symm
  subst q5
  refine g_iaload 9 (gd rfl) rfl (n := 32) rfl (in_ix ro_49_10 rfl) (fun z8 e8 => ?_)
  refine g_istore 11 (gd rfl) rfl (Nat.le_of_ble_eq_true rfl) ?_
  refine g_iload 13 (gd rfl) rfl rfl ?_
  refine g_iconst 1 14 (gd rfl) rfl rfl ?_
  refine g_cmp_lt 17 28 (gd rfl) rfl rfl (fun c14 => ?_) (fun c14 => ?_)
  · skip
    have i14 := r_lt1 0 0 c14 h4 (in_c 1 rfl) rfl
    refine g_aload_n 29 (gd rfl) rfl rfl ?_
    refine g_getA (q2 := 40) 32 (gd rfl) rfl rfl rfl rfl ?_
    refine g_iload_n 33 (gd rfl) rfl rfl ?_
    refine g_iaload 34 (gd rfl) rfl (n := 32) rfl (in_ix h2 rfl) (fun z33 e33 => ?_)
    refine g_iload_n 35 (gd rfl) rfl rfl ?_
    refine g_iconst (-1) 36 (gd rfl) rfl rfl ?_
    refine g_ixor 37 (gd rfl) rfl (fun z36 e36 => ?_)
    refine g_iand 38 (gd rfl) rfl (fun z37 e37 => ?_)
    refine g_istore 40 (gd rfl) rfl (Nat.le_of_ble_eq_true rfl) ?_
    refine g_iload 42 (gd rfl) rfl rfl ?_
    refine g_iconst 2 43 (gd rfl) rfl rfl ?_
    refine g_cmp_lt 46 56 (gd rfl) rfl rfl (fun c43 => ?_) (fun c43 => ?_)
    · skip
      refine g_iload 58 (gd rfl) rfl rfl ?_
      refine g_istore 60 (gd rfl) rfl (Nat.le_of_ble_eq_true rfl) ?_
      exact gg_w (by omega) (gg_f (gf_cons rfl (gf_cons rfl (gf_cons rfl (gf_cons rfl (gf_cons rfl (gf_cons rfl (gf_cons rfl (gf_cons rfl gf_nil)))))))) (ct60 4294967296  z8 z37 z37   (mb_in _)))
    · skip
      exact n_le c43 (in_c 2 rfl) i14 rfl
  · skip
    have i14 := r_le2 1 3 c14 (in_c 1 rfl) h4 rfl
    refine g_iload 19 (gd rfl) rfl rfl ?_
    refine g_iload_n 20 (gd rfl) rfl rfl ?_
    refine g_ishr 21 (gd rfl) rfl (fun z20 e20 => ?_)
    refine g_iconst 1 22 (gd rfl) rfl rfl ?_
    refine g_iand 23 (gd rfl) rfl (fun z22 e22 => ?_)
    have i22 := in_and2 e22 (in_c 1 rfl) rfl
    refine g_if_eq 26 28 (gd rfl) rfl rfl (fun c23 => ?_) (fun c23 => ?_)
    · skip
      have i23 := z_eq 0 0 c23 i22 rfl
      refine g_aload_n 29 (gd rfl) rfl rfl ?_
      refine g_getA (q2 := 40) 32 (gd rfl) rfl rfl rfl rfl ?_
      refine g_iload_n 33 (gd rfl) rfl rfl ?_
      refine g_iaload 34 (gd rfl) rfl (n := 32) rfl (in_ix h2 rfl) (fun z33 e33 => ?_)
      refine g_iload_n 35 (gd rfl) rfl rfl ?_
      refine g_iconst (-1) 36 (gd rfl) rfl rfl ?_
      refine g_ixor 37 (gd rfl) rfl (fun z36 e36 => ?_)
      refine g_iand 38 (gd rfl) rfl (fun z37 e37 => ?_)
      refine g_istore 40 (gd rfl) rfl (Nat.le_of_ble_eq_true rfl) ?_
      refine g_iload 42 (gd rfl) rfl rfl ?_
      refine g_iconst 2 43 (gd rfl) rfl rfl ?_
      refine g_cmp_lt 46 56 (gd rfl) rfl rfl (fun c43 => ?_) (fun c43 => ?_)
      · skip
        have i43 := r_lt1 1 1 c43 i14 (in_c 2 rfl) rfl
        refine g_iload 58 (gd rfl) rfl rfl ?_
        refine g_istore 60 (gd rfl) rfl (Nat.le_of_ble_eq_true rfl) ?_
        exact gg_w (by omega) (gg_f (gf_cons rfl (gf_cons rfl (gf_cons rfl (gf_cons rfl (gf_cons rfl (gf_cons rfl (gf_cons rfl (gf_cons rfl gf_nil)))))))) (ct60 4294967296  z8 z37 z37   (mb_in _)))
      · skip
        have i43 := r_le2 2 3 c43 (in_c 2 rfl) i14 rfl
        refine g_iload 48 (gd rfl) rfl rfl ?_
        refine g_iload 50 (gd rfl) rfl rfl ?_
        refine g_iand 51 (gd rfl) rfl (fun z50 e50 => ?_)
        refine g_if_eq 54 56 (gd rfl) rfl rfl (fun c51 => ?_) (fun c51 => ?_)
        · skip
          have i51 := z_eq 0 0 c51 (i_rng z50) rfl
          refine g_iload 58 (gd rfl) rfl rfl ?_
          refine g_istore 60 (gd rfl) rfl (Nat.le_of_ble_eq_true rfl) ?_
          exact gg_w (by omega) (gg_f (gf_cons rfl (gf_cons rfl (gf_cons rfl (gf_cons rfl (gf_cons rfl (gf_cons rfl (gf_cons rfl (gf_cons rfl gf_nil)))))))) (ct60 4294967296  z8 z37 z37   (mb_in _)))
        · skip
          refine g_iconst 1 55 (gd rfl) rfl rfl ?_
          exact g_ireturn (gd rfl) rfl (nb01 (in_w 0 1 (in_c 1 rfl) rfl)) (hP _ _ ⟨(Int32.ofInt 1), rfl, rfl, in_w 0 1 (in_c 1 rfl) rfl⟩)
    · skip
      have i23 := z_ne 1 1 c23 i22 rfl
      refine g_iconst 1 27 (gd rfl) rfl rfl ?_
      exact g_ireturn (gd rfl) rfl (nb01 (in_w 0 1 (in_c 1 rfl) rfl)) (hP _ _ ⟨(Int32.ofInt 1), rfl, rfl, in_w 0 1 (in_c 1 rfl) rfl⟩)

def fm_210_49 : FM := ([], [55], [], [])
/-- GraphHouse$Ways.sortKeys -/
theorem k_210_49 {Z : AmZ} {A : Nat → Nat} {s : GS} {ex : va_W} {d : Nat} {X : AmX}  (hd : 1 ≤ d) (hI : Inv s)  : GC Z d 210 [.ref (A 49)] (WW Z A s ++ ex) 0 0 (fun v u => ∃ t : GS, Inv t ∧ Fr fm_210_49 s t ∧ v = none ∧ u = WW Z A t ++ ex) X := by
  intro post xp hP hX
  obtain ⟨u_49_11, e_49_11⟩ : ∃ w, w = s.2.2.1 49 11 := ⟨_, rfl⟩
  have ro_49_11 := inv_F hI 0 2001 rfl e_49_11
  have ct21 : ∀ (k21 : Nat) (sc21 : GS) (y21_1 : Int32), Inv sc21 → Fr fm_210_49 s sc21 → (In y21_1 0 2001) → (y21_1).toInt < (k21 : Int) → GG Z (d - 1) 210 post (gx xp) (1 + k21 * 10817109402) 21 (fun j => xlook j [(0, .ref (A 49)), (1, .int y21_1)]) [] (WW Z A sc21 ++ ex) 0 0 := by
    intro k21
    induction k21 with
    | zero => intro sc21 y21_1 hIc21 hFc21 j21_1 mm21; exfalso; have a0 := ro_49_11; unfold In at a0; have a1 := j21_1; unfold In at a1; omega
    | succ k21 ih21 =>
      intro sc21 y21_1 hIc21 hFc21 j21_1 mm21
      refine gg_w (M := 1 + k21 * 10817109402 + 10817109402) (by omega) ?_
      have ct27 : ∀ (k27 : Nat) (sc27 : GS) (y27_2 : Int32), Inv sc27 → Fr fm_210_49 s sc27 → (In y21_1 1 2001) → (In y27_2 1 4000) → 4000 - (y27_2).toInt < (k27 : Int) → GG Z (d - 1) 210 post (gx xp) (1 + k21 * 10817109402 + 1 + k27 * 2703601) 27 (fun j => xlook j [(0, .ref (A 49)), (1, .int y21_1), (2, .int y27_2)]) [] (WW Z A sc27 ++ ex) 0 0 := by
        intro k27
        induction k27 with
        | zero => intro sc27 y27_2 hIc27 hFc27 j27_1 j27_2 mm27; exact m_no mm27 j27_2 rfl
        | succ k27 ih27 =>
          intro sc27 y27_2 hIc27 hFc27 j27_1 j27_2 mm27
          refine gg_w (M := 1 + k21 * 10817109402 + 1 + k27 * 2703601 + 2703601) (by omega) ?_
          have ct45 : ∀ (k45 : Nat) (sc45 : GS) (y45_3 : Int64) (y45_5 : Int32), Inv sc45 → Fr fm_210_49 s sc45 → (In y27_2 1 2001) → (In y45_5 0 2000) → (y45_5).toInt < (k45 : Int) → GG Z (d - 1) 210 post (gx xp) (1 + k21 * 10817109402 + 1 + k27 * 2703601 + 1 + k45 * 900) 45 (fun j => xlook j [(0, .ref (A 49)), (1, .int y21_1), (2, .int y27_2), (3, .long y45_3), (5, .int y45_5)]) [] (WW Z A sc45 ++ ex) 0 0 := by
            intro k45
            induction k45 with
            | zero => intro sc45 y45_3 y45_5 hIc45 hFc45 j45_2 j45_5 mm45; exfalso; have a0 := j45_2; unfold In at a0; have a1 := j27_1; unfold In at a1; have a2 := ro_49_11; unfold In at a2; have a3 := j45_5; unfold In at a3; omega
            | succ k45 ih45 =>
              intro sc45 y45_3 y45_5 hIc45 hFc45 j45_2 j45_5 mm45
              refine gg_w (M := 1 + k21 * 10817109402 + 1 + k27 * 2703601 + 1 + k45 * 900 + 900) (by omega) ?_
              refine g_iload 47 (gd rfl) rfl rfl ?_
              refine g_iload_n 48 (gd rfl) rfl rfl ?_
              refine g_cmp_lt 51 90 (gd rfl) rfl rfl (fun c48 => ?_) (fun c48 => ?_)
              · skip
                refine g_aload_n 91 (gd rfl) rfl rfl ?_
                refine g_getA (q2 := 55) 94 (gd rfl) rfl rfl rfl rfl ?_
                refine g_iload 96 (gd rfl) rfl rfl ?_
                refine g_lload_n 97 (gd rfl) rfl rfl ?_
                refine g_lastore 98 (gd rfl) rfl (n := 2001) rfl (in_ix j45_5 rfl) ?_
                have hI97 := inv_sL (q := 55) (j := y45_5.toNatClampNeg) (x := y45_3) hIc45 rfl (l_rng y45_3)
                refine g_iinc 101 (gd rfl) rfl rfl (Nat.le_of_ble_eq_true rfl) (fun z98 e98 => ?_)
                have i98 := in_add 2 2002 e98 j45_2 (in_c 1 rfl) rfl rfl
                refine g_goto 27 (gd rfl) rfl ?_
                exact gg_w (by omega) (gg_f (gf_cons rfl (gf_cons rfl (gf_cons rfl gf_nil))) (ih27 (sL sc45 55 y45_5.toNatClampNeg y45_3) z98 hI97 (fr_sL rfl hFc45) (in_w 1 2001 j27_1 rfl) (in_w 1 4000 i98 rfl) (m_up mm27 (t_add e98 j45_2 (in_c 1 rfl) rfl) (in_w 1 1 (in_c 1 rfl) rfl))))
              · skip
                have i48 := r_le1 1 2000 c48 j27_1 j45_5 rfl
                have i48a := r_le2 1 2000 c48 j27_1 j45_5 rfl
                refine g_aload_n 52 (gd rfl) rfl rfl ?_
                refine g_getA (q2 := 55) 55 (gd rfl) rfl rfl rfl rfl ?_
                refine g_iload 57 (gd rfl) rfl rfl ?_
                refine g_iload_n 58 (gd rfl) rfl rfl ?_
                refine g_isub 59 (gd rfl) rfl (fun z58 e58 => ?_)
                have i58 := in_sub (-1999) 1999 e58 i48a i48 rfl rfl
                have i59 : In z58 0 2000 := by have a0 := j45_2; unfold In at a0; have a1 := i48; unfold In at a1; have a2 := ro_49_11; unfold In at a2; have a3 := i48a; unfold In at a3; have a4 := i58; unfold In at a4; have a5 := t_sub e58 i48a i48 rfl; exact ⟨by omega, by omega⟩
                refine g_laload 60 (gd rfl) rfl (n := 2001) rfl (in_ix i59 rfl) (fun z59 e59 => ?_)
                refine g_lload_n 61 (gd rfl) rfl rfl ?_
                refine g_lcmp 62 (gd rfl) rfl (fun z61 e61 => ?_)
                have i61 := lc_in e61
                refine g_if_le 65 90 (gd rfl) rfl rfl (fun c62 => ?_) (fun c62 => ?_)
                · skip
                  have i62 := z_le (-1) 0 c62 i61 rfl
                  have c62a := lc_le e61 c62
                  refine g_aload_n 91 (gd rfl) rfl rfl ?_
                  refine g_getA (q2 := 55) 94 (gd rfl) rfl rfl rfl rfl ?_
                  refine g_iload 96 (gd rfl) rfl rfl ?_
                  refine g_lload_n 97 (gd rfl) rfl rfl ?_
                  refine g_lastore 98 (gd rfl) rfl (n := 2001) rfl (in_ix i48a rfl) ?_
                  have hI97 := inv_sL (q := 55) (j := y45_5.toNatClampNeg) (x := y45_3) hIc45 rfl (l_rng y45_3)
                  refine g_iinc 101 (gd rfl) rfl rfl (Nat.le_of_ble_eq_true rfl) (fun z98 e98 => ?_)
                  have i98 := in_add 2 2002 e98 j45_2 (in_c 1 rfl) rfl rfl
                  refine g_goto 27 (gd rfl) rfl ?_
                  exact gg_w (by omega) (gg_f (gf_cons rfl (gf_cons rfl (gf_cons rfl gf_nil))) (ih27 (sL sc45 55 y45_5.toNatClampNeg y45_3) z98 hI97 (fr_sL rfl hFc45) (in_w 1 2001 i48 rfl) (in_w 1 4000 i98 rfl) (m_up mm27 (t_add e98 j45_2 (in_c 1 rfl) rfl) (in_w 1 1 (in_c 1 rfl) rfl))))
                · skip
                  have i62 := z_gt 1 1 c62 i61 rfl
                  have c62a := lc_gt e61 c62
                  have i62a := lr_lt1 (-9223372036854775808) 9223372036854775806 c62a (l_rng y45_3) (l_rng z59) rfl
                  have i62b := lr_lt2 (-9223372036854775807) 9223372036854775807 c62a (l_rng y45_3) (l_rng z59) rfl
                  refine g_aload_n 66 (gd rfl) rfl rfl ?_
                  refine g_getA (q2 := 55) 69 (gd rfl) rfl rfl rfl rfl ?_
                  refine g_iload 71 (gd rfl) rfl rfl ?_
                  refine g_aload_n 72 (gd rfl) rfl rfl ?_
                  refine g_getA (q2 := 55) 75 (gd rfl) rfl rfl rfl rfl ?_
                  refine g_iload 77 (gd rfl) rfl rfl ?_
                  refine g_iload_n 78 (gd rfl) rfl rfl ?_
                  refine g_isub 79 (gd rfl) rfl (fun z78 e78 => ?_)
                  have i78 := in_sub (-1999) 1999 e78 i48a i48 rfl rfl
                  have i79 : In z78 0 2000 := by have a0 := j45_2; unfold In at a0; have a1 := i48; unfold In at a1; have a2 := ro_49_11; unfold In at a2; have a3 := i48a; unfold In at a3; have a4 := i78; unfold In at a4; have a5 := t_sub e78 i48a i48 rfl; have a6 := i59; unfold In at a6; have a7 := t_sub e58 i48a i48 rfl; exact ⟨by omega, by omega⟩
                  refine g_laload 80 (gd rfl) rfl (n := 2001) rfl (in_ix i79 rfl) (fun z79 e79 => ?_)
                  refine g_lastore 81 (gd rfl) rfl (n := 2001) rfl (in_ix i48a rfl) ?_
                  have hI80 := inv_sL (q := 55) (j := y45_5.toNatClampNeg) (x := z79) hIc45 rfl (l_rng z79)
                  refine g_iload 83 (gd rfl) rfl rfl ?_
                  refine g_iload_n 84 (gd rfl) rfl rfl ?_
                  refine g_isub 85 (gd rfl) rfl (fun z84 e84 => ?_)
                  have i84 := in_sub (-1999) 1999 e84 i48a i48 rfl rfl
                  refine g_istore 87 (gd rfl) rfl (Nat.le_of_ble_eq_true rfl) ?_
                  refine g_goto 45 (gd rfl) rfl ?_
                  have i45 : In z84 0 2000 := by exact ⟨by have a0 := j45_2; unfold In at a0; have a1 := i48; unfold In at a1; have a2 := ro_49_11; unfold In at a2; have a3 := i48a; unfold In at a3; have a4 := i84; unfold In at a4; have a5 := t_sub e84 i48a i48 rfl; have a6 := i79; unfold In at a6; have a7 := t_sub e78 i48a i48 rfl; have a8 := i59; unfold In at a8; have a9 := t_sub e58 i48a i48 rfl; omega, by have a0 := j45_2; unfold In at a0; have a1 := i48; unfold In at a1; have a2 := ro_49_11; unfold In at a2; have a3 := i48a; unfold In at a3; have a4 := i84; unfold In at a4; have a5 := t_sub e84 i48a i48 rfl; have a6 := i79; unfold In at a6; have a7 := t_sub e78 i48a i48 rfl; have a8 := i59; unfold In at a8; have a9 := t_sub e58 i48a i48 rfl; omega⟩
                  have m45 : (z84).toInt < ((k45 : Nat) : Int) := by have a0 := j45_2; unfold In at a0; have a1 := i48; unfold In at a1; have a2 := ro_49_11; unfold In at a2; have a3 := i48a; unfold In at a3; have a4 := i45; unfold In at a4; have a5 := t_sub e84 i48a i48 rfl; have a6 := i79; unfold In at a6; have a7 := t_sub e78 i48a i48 rfl; have a8 := i59; unfold In at a8; have a9 := t_sub e58 i48a i48 rfl; omega
                  exact gg_w (by omega) (gg_f (gf_cons rfl (gf_cons rfl (gf_cons rfl (gf_cons rfl (gf_cons rfl gf_nil))))) (ih45  (sL sc45 55 y45_5.toNatClampNeg z79) y45_3 z84 hI80 (fr_sL rfl hFc45) (in_w 1 2001 j45_2 rfl) i45 m45))
          refine g_iload_n 28 (gd rfl) rfl rfl ?_
          refine g_aload_n 29 (gd rfl) rfl rfl ?_
          refine g_getI 32 (gd rfl) rfl rfl rfl (fun z29 e29 => ?_)
          have q29 : u_49_11 = z29 := (fr_F e_49_11 hFc27 rfl).trans e29.symm
          subst q29
          refine g_cmp_ge 35 104 (gd rfl) rfl rfl (fun c32 => ?_) (fun c32 => ?_)
          · skip
            refine g_iload_n 105 (gd rfl) rfl rfl ?_
            refine g_iconst 3 106 (gd rfl) rfl rfl ?_
            refine g_idiv 107 (gd rfl) rfl (by decide) (fun z106 e106 => ?_)
            have i106 := in_div 0 667 e106 j27_1 rfl rfl
            refine g_istore_n 108 (gd rfl) rfl (Nat.le_of_ble_eq_true rfl) ?_
            refine g_goto 21 (gd rfl) rfl ?_
            have m21 : (z106).toInt < ((k21 : Nat) : Int) := by have a0 := j27_1; unfold In at a0; have a1 := ro_49_11; unfold In at a1; have a2 := j27_2; unfold In at a2; have a3 := i106; unfold In at a3; have a4 := t_div e106 j27_1 rfl; omega
            exact gg_w (by omega) (gg_f (gf_cons rfl (gf_cons rfl gf_nil)) (ih21  sc27 z106 hIc27 hFc27 (in_w 0 2001 i106 rfl) m21))
          · skip
            have i32 := r_lt1 1 2000 c32 j27_2 ro_49_11 rfl
            have i32a := r_lt2 2 2001 c32 j27_2 ro_49_11 rfl
            refine g_aload_n 36 (gd rfl) rfl rfl ?_
            refine g_getA (q2 := 55) 39 (gd rfl) rfl rfl rfl rfl ?_
            refine g_iload_n 40 (gd rfl) rfl rfl ?_
            refine g_laload 41 (gd rfl) rfl (n := 2001) rfl (in_ix i32 rfl) (fun z40 e40 => ?_)
            refine g_lstore_n 42 (gd rfl) rfl (Nat.le_of_ble_eq_true rfl) ?_
            refine g_iload_n 43 (gd rfl) rfl rfl ?_
            refine g_istore 45 (gd rfl) rfl (Nat.le_of_ble_eq_true rfl) ?_
            have m45 : (y27_2).toInt < ((3001 : Nat) : Int) := by have a0 := j27_1; unfold In at a0; have a1 := i32a; unfold In at a1; have a2 := i32; unfold In at a2; omega
            exact gg_w (by omega) (gg_f (gf_cons rfl (gf_cons rfl (gf_cons rfl (gf_cons rfl (gf_cons rfl gf_nil))))) (ct45 3001 sc27 z40 y27_2 hIc27 hFc27 (in_w 1 2001 i32 rfl) (in_w 0 2000 i32 rfl) m45))
      refine g_iload_n 22 (gd rfl) rfl rfl ?_
      refine g_if_le 25 111 (gd rfl) rfl rfl (fun c22 => ?_) (fun c22 => ?_)
      · skip
        have i22 := z_le 0 0 c22 j21_1 rfl
        exact g_return (gd rfl) rfl (hP _ _ ⟨sc21, hIc21, hFc21, rfl, rfl⟩)
      · skip
        have i22 := z_gt 1 2001 c22 j21_1 rfl
        refine g_iload_n 26 (gd rfl) rfl rfl ?_
        refine g_istore_n 27 (gd rfl) rfl (Nat.le_of_ble_eq_true rfl) ?_
        exact gg_w (by omega) (gg_f (gf_cons rfl (gf_cons rfl (gf_cons rfl gf_nil))) (ct27 4000 sc21 y21_1 hIc21 hFc21 (in_w 1 2001 i22 rfl) (in_w 1 4000 i22 rfl) (m_in 4000 (in_w 1 4000 i22 rfl) rfl)))
  have ct2 : ∀ (k2 : Nat) (sc2 : GS) (y2_1 : Int32), Inv sc2 → Fr fm_210_49 s sc2 → (In y2_1 1 2001) → 3000 - (y2_1).toInt < (k2 : Int) → GG Z (d - 1) 210 post (gx xp) (32462145315404 + k2 * 900) 2 (fun j => xlook j [(0, .ref (A 49)), (1, .int y2_1)]) [] (WW Z A sc2 ++ ex) 0 0 := by
    intro k2
    induction k2 with
    | zero => intro sc2 y2_1 hIc2 hFc2 j2_1 mm2; exfalso; have a0 := ro_49_11; unfold In at a0; have a1 := j2_1; unfold In at a1; omega
    | succ k2 ih2 =>
      intro sc2 y2_1 hIc2 hFc2 j2_1 mm2
      refine gg_w (M := 32462145315404 + k2 * 900 + 900) (by omega) ?_
      refine g_iload_n 3 (gd rfl) rfl rfl ?_
      refine g_aload_n 4 (gd rfl) rfl rfl ?_
      refine g_getI 7 (gd rfl) rfl rfl rfl (fun z4 e4 => ?_)
      have q4 : u_49_11 = z4 := (fr_F e_49_11 hFc2 rfl).trans e4.symm
      subst q4
      refine g_iconst 3 8 (gd rfl) rfl rfl ?_
      refine g_idiv 9 (gd rfl) rfl (by decide) (fun z8 e8 => ?_)
      have i8 := in_div 0 667 e8 ro_49_11 rfl rfl
      refine g_cmp_ge 12 21 (gd rfl) rfl rfl (fun c9 => ?_) (fun c9 => ?_)
      · skip
        have m21 : (y2_1).toInt < ((3001 : Nat) : Int) := by have a0 := ro_49_11; unfold In at a0; have a1 := j2_1; unfold In at a1; have a2 := i8; unfold In at a2; have a3 := t_div e8 ro_49_11 rfl; omega
        exact gg_w (by omega) (gg_f (gf_cons rfl (gf_cons rfl gf_nil)) (ct21 3001 sc2 y2_1 hIc2 hFc2 (in_w 0 2001 j2_1 rfl) m21))
      · skip
        have i9 := r_lt1 1 666 c9 j2_1 i8 rfl
        have i9a := r_lt2 2 667 c9 j2_1 i8 rfl
        refine g_iconst 3 13 (gd rfl) rfl rfl ?_
        refine g_iload_n 14 (gd rfl) rfl rfl ?_
        refine g_imul 15 (gd rfl) rfl (fun z14 e14 => ?_)
        have i14 := in_mulc 3 3 1998 (Or.inl e14) i9 rfl rfl
        refine g_iconst 1 16 (gd rfl) rfl rfl ?_
        refine g_iadd 17 (gd rfl) rfl (fun z16 e16 => ?_)
        have i16 := in_add 4 1999 e16 i14 (in_c 1 rfl) rfl rfl
        refine g_istore_n 18 (gd rfl) rfl (Nat.le_of_ble_eq_true rfl) ?_
        refine g_goto 2 (gd rfl) rfl ?_
        have m2 : 3000 - (z16).toInt < ((k2 : Nat) : Int) := by have a0 := ro_49_11; unfold In at a0; have a1 := i9; unfold In at a1; have a2 := i16; unfold In at a2; have a3 := t_add e16 i14 (in_c 1 rfl) rfl; have a4 := (in_c 1 rfl); unfold In at a4; have a5 := i14; unfold In at a5; have a6 := (t_mulc 3 (Or.inl e14) i9 rfl).1; have a7 := i9a; unfold In at a7; have a8 := t_div e8 ro_49_11 rfl; omega
        exact gg_w (by omega) (gg_f (gf_cons rfl (gf_cons rfl gf_nil)) (ih2  sc2 z16 hIc2 hFc2 (in_w 1 2001 i16 rfl) m2))
  refine g_enter2 (k := 210) (N := 32462148017204) (by omega) rfl (Nat.le_of_ble_eq_true rfl) ?_
  refine g_iconst 1 1 (gd rfl) rfl rfl ?_
  refine g_istore_n 2 (gd rfl) rfl (Nat.le_of_ble_eq_true rfl) ?_
  have m2 : 3000 - ((Int32.ofInt 1)).toInt < ((3001 : Nat) : Int) := by have a0 := ro_49_11; unfold In at a0; have a1 := (in_c 1 rfl); unfold In at a1; omega
  exact gg_w (by omega) (gg_f (gf_cons rfl (gf_cons rfl gf_nil)) (ct2 3001 s (Int32.ofInt 1) hI fr_rf (in_w 1 2001 (in_c 1 rfl) rfl) m2))

def fm_219_0 : FM := ([], [], [], [])
/-- GraphHouse.size -/
theorem k_219_0 {Z : AmZ} {A : Nat → Nat} {s : GS} {ex : va_W} {d : Nat} {x1 : Int32} (hd : 7 ≤ d) (hI : Inv s)  : GC Z d 219 [.ref (A 0), .int x1] (WW Z A s ++ ex) 3 18 (fun v u => ∃ t : GS, Inv t ∧ Fr fm_219_0 s t ∧ ∃ z : Int32, v = some (.int z) ∧ u = WW Z A t ++ ex ∧ In z (-2147483648) 2147483647) (gE1 Z A ex fm_219_0 s) := by
  intro post xp hP hX
  obtain ⟨u_0_2, e_0_2⟩ : ∃ w, w = s.2.2.1 0 2 := ⟨_, rfl⟩
  have ro_0_2 := inv_F hI (-1) 4000 rfl e_0_2
  obtain ⟨u_2_1, e_2_1⟩ : ∃ w, w = s.2.2.1 2 1 := ⟨_, rfl⟩
  have ro_2_1 := inv_F hI 0 32 rfl e_2_1
  obtain ⟨u_2_2, e_2_2⟩ : ∃ w, w = s.2.2.1 2 2 := ⟨_, rfl⟩
  obtain ⟨u_2_3, e_2_3⟩ : ∃ w, w = s.2.2.1 2 3 := ⟨_, rfl⟩
  have ro_2_3 := inv_F hI 0 160 rfl e_2_3
  obtain ⟨u_32_1, e_32_1⟩ : ∃ w, w = s.2.2.1 32 1 := ⟨_, rfl⟩
  have ro_32_1 := inv_F hI 0 32 rfl e_32_1
  obtain ⟨u_32_2, e_32_2⟩ : ∃ w, w = s.2.2.1 32 2 := ⟨_, rfl⟩
  obtain ⟨u_32_3, e_32_3⟩ : ∃ w, w = s.2.2.1 32 3 := ⟨_, rfl⟩
  have ro_32_3 := inv_F hI 0 160 rfl e_32_3
  refine g_enter2 (k := 219) (N := 900) (by omega) rfl (Nat.le_of_ble_eq_true rfl) ?_
  refine g_iload_n 1 (gd rfl) rfl rfl ?_
  refine g_if_lt 4 13 (gd rfl) rfl rfl (fun c1 => ?_) (fun c1 => ?_)
  · skip
    have i1 := z_lt (-2147483648) (-1) c1 (i_rng x1) rfl
    refine g_iconst 0 14 (gd rfl) rfl rfl ?_
    refine g_thr (E := am_IA) (y := yX11_allow) 17 (gd rfl) rfl rfl (Or.inl ⟨rfl, rfl, rfl⟩) (by omega) (Nat.le_of_ble_eq_true rfl) (Nat.le_of_ble_eq_true rfl) (Nat.le_of_ble_eq_true rfl) (fun c14 => ?_) (fun c14 => ?_)
    · skip
      exact zn_ne c14 (in_c 0 rfl) rfl
    · skip
      exact (hX _ _ ⟨rfl, s, hI, fr_rf, rfl⟩)
  · skip
    have i1 := z_ge 0 2147483647 c1 (i_rng x1) rfl
    refine g_iload_n 5 (gd rfl) rfl rfl ?_
    refine g_iconst 3 6 (gd rfl) rfl rfl ?_
    refine g_cmp_gt 9 13 (gd rfl) rfl rfl (fun c6 => ?_) (fun c6 => ?_)
    · skip
      have i6 := r_lt2 4 2147483647 c6 (in_c 3 rfl) i1 rfl
      refine g_iconst 0 14 (gd rfl) rfl rfl ?_
      refine g_thr (E := am_IA) (y := yX11_allow) 17 (gd rfl) rfl rfl (Or.inl ⟨rfl, rfl, rfl⟩) (by omega) (Nat.le_of_ble_eq_true rfl) (Nat.le_of_ble_eq_true rfl) (Nat.le_of_ble_eq_true rfl) (fun c14 => ?_) (fun c14 => ?_)
      · skip
        exact zn_ne c14 (in_c 0 rfl) rfl
      · skip
        exact (hX _ _ ⟨rfl, s, hI, fr_rf, rfl⟩)
    · skip
      have i6 := r_le1 0 3 c6 i1 (in_c 3 rfl) rfl
      refine g_iconst 1 10 (gd rfl) rfl rfl ?_
      refine g_goto 14 (gd rfl) rfl ?_
      refine g_thr (E := am_IA) (y := yX11_allow) 17 (gd rfl) rfl rfl (Or.inl ⟨rfl, rfl, rfl⟩) (by omega) (Nat.le_of_ble_eq_true rfl) (Nat.le_of_ble_eq_true rfl) (Nat.le_of_ble_eq_true rfl) (fun c14 => ?_) (fun c14 => ?_)
      · skip
        refine g_aload_n 18 (gd rfl) rfl rfl ?_
        refine g_callv (X := _) (As := []) (r := []) (b := A 0) (q := 0) 21 (gd rfl) rfl rfl rfl rfl rfl (ww_o rfl) (Nat.le_of_ble_eq_true rfl) (mc := 0) (ms := 0) (Nat.zero_le _) (Nat.zero_le _) (P := fun v u => _) ?_ (fun e u h => h) (fun v u h => h)
        intro po18 xx18 hp18 hx18
        refine g_enter2 (k := 259) (N := 300) (by omega) rfl (Nat.le_of_ble_eq_true rfl) ?_
        refine g_aload_n 1 (gd rfl) rfl rfl ?_
        refine g_getI 4 (gd rfl) rfl rfl rfl (fun z18x1 e18x1 => ?_)
        have q18x1 : u_0_2 = z18x1 := (e_0_2).trans e18x1.symm
        subst q18x1
        refine g_iconst (-1) 5 (gd rfl) rfl rfl ?_
        refine g_cmp_ne 8 18 (gd rfl) rfl rfl (fun c18x5 => ?_) (fun c18x5 => ?_)
        · skip
          have i18x5 := r_ne1 0 4000 c18x5 ro_0_2 (in_c (-1) rfl) rfl
          refine g_aload_n 19 (gd rfl) rfl rfl ?_
          refine g_getA (q2 := 32) 22 (gd rfl) rfl rfl rfl rfl ?_
          refine g_areturn (gd rfl) rfl (hp18 _ _ ?_)
          show GG _ _ _ _ _ _ _ _ [.ref (A 32)] _ _ _
          refine g_astore_n 22 (gd rfl) rfl (Nat.le_of_ble_eq_true rfl) ?_
          refine g_iload_n 23 (gd rfl) rfl rfl ?_
          refine g_tsw [48, 53, 58] 63 (gd rfl) rfl rfl rfl ⟨fun c23 => ?_, fun c23 => ?_, fun c23 => ?_, trivial⟩ (fun c23 => ?_)
          · skip
            have i23 := sw_eq c23
            refine g_aload_n 49 (gd rfl) rfl rfl ?_
            refine g_getI 52 (gd rfl) rfl rfl rfl (fun z49 e49 => ?_)
            have q49 : u_32_1 = z49 := (e_32_1).trans e49.symm
            subst q49
            exact g_ireturn (gd rfl) rfl rfl (hP _ _ ⟨s, hI, fr_rf, u_32_1, rfl, rfl, in_w (-2147483648) 2147483647 ro_32_1 rfl⟩)
          · skip
            have i23 := sw_eq c23
            refine g_aload_n 54 (gd rfl) rfl rfl ?_
            refine g_getI 57 (gd rfl) rfl rfl rfl (fun z54 e54 => ?_)
            have q54 : u_32_2 = z54 := (e_32_2).trans e54.symm
            subst q54
            exact g_ireturn (gd rfl) rfl rfl (hP _ _ ⟨s, hI, fr_rf, u_32_2, rfl, rfl, in_w (-2147483648) 2147483647 (i_rng u_32_2) rfl⟩)
          · skip
            have i23 := sw_eq c23
            refine g_aload_n 59 (gd rfl) rfl rfl ?_
            refine g_callv (X := _) (As := []) (r := []) (b := A 32) (q := 32) 62 (gd rfl) rfl rfl rfl rfl rfl (ww_o rfl) (Nat.le_of_ble_eq_true rfl) (Nat.zero_le _) (Nat.zero_le _) (k_98_32 (by omega) hI ) (fun e u h => h) (fun v u h => ?_)
            obtain ⟨z59, rfl, rfl, i59⟩ := h
            show GG _ _ _ _ _ _ _ _ [.int z59] _ _ _
            exact g_ireturn (gd rfl) rfl rfl (hP _ _ ⟨s, hI, fr_rf, z59, rfl, rfl, in_w (-2147483648) 2147483647 i59 rfl⟩)
          · skip
            refine g_aload_n 64 (gd rfl) rfl rfl ?_
            refine g_getI 67 (gd rfl) rfl rfl rfl (fun z64 e64 => ?_)
            have q64 : u_32_3 = z64 := (e_32_3).trans e64.symm
            subst q64
            refine g_iconst 1 68 (gd rfl) rfl rfl ?_
            refine g_isub 69 (gd rfl) rfl (fun z68 e68 => ?_)
            have i68 := in_sub (-1) 159 e68 ro_32_3 (in_c 1 rfl) rfl rfl
            exact g_ireturn (gd rfl) rfl rfl (hP _ _ ⟨s, hI, fr_rf, z68, rfl, rfl, in_w (-2147483648) 2147483647 i68 rfl⟩)
        · skip
          have i18x5 := r_eq1 (-1) (-1) c18x5 ro_0_2 (in_c (-1) rfl) rfl
          refine g_aload_n 9 (gd rfl) rfl rfl ?_
          refine g_getA (q2 := 1) 12 (gd rfl) rfl rfl rfl rfl ?_
          refine g_getA (q2 := 2) 15 (gd rfl) rfl rfl rfl rfl ?_
          refine g_goto 22 (gd rfl) rfl ?_
          refine g_areturn (gd rfl) rfl (hp18 _ _ ?_)
          show GG _ _ _ _ _ _ _ _ [.ref (A 2)] _ _ _
          refine g_astore_n 22 (gd rfl) rfl (Nat.le_of_ble_eq_true rfl) ?_
          refine g_iload_n 23 (gd rfl) rfl rfl ?_
          refine g_tsw [48, 53, 58] 63 (gd rfl) rfl rfl rfl ⟨fun c23 => ?_, fun c23 => ?_, fun c23 => ?_, trivial⟩ (fun c23 => ?_)
          · skip
            have i23 := sw_eq c23
            refine g_aload_n 49 (gd rfl) rfl rfl ?_
            refine g_getI 52 (gd rfl) rfl rfl rfl (fun z49 e49 => ?_)
            have q49 : u_2_1 = z49 := (e_2_1).trans e49.symm
            subst q49
            exact g_ireturn (gd rfl) rfl rfl (hP _ _ ⟨s, hI, fr_rf, u_2_1, rfl, rfl, in_w (-2147483648) 2147483647 ro_2_1 rfl⟩)
          · skip
            have i23 := sw_eq c23
            refine g_aload_n 54 (gd rfl) rfl rfl ?_
            refine g_getI 57 (gd rfl) rfl rfl rfl (fun z54 e54 => ?_)
            have q54 : u_2_2 = z54 := (e_2_2).trans e54.symm
            subst q54
            exact g_ireturn (gd rfl) rfl rfl (hP _ _ ⟨s, hI, fr_rf, u_2_2, rfl, rfl, in_w (-2147483648) 2147483647 (i_rng u_2_2) rfl⟩)
          · skip
            have i23 := sw_eq c23
            refine g_aload_n 59 (gd rfl) rfl rfl ?_
            refine g_callv (X := _) (As := []) (r := []) (b := A 2) (q := 2) 62 (gd rfl) rfl rfl rfl rfl rfl (ww_o rfl) (Nat.le_of_ble_eq_true rfl) (Nat.zero_le _) (Nat.zero_le _) (k_98_2 (by omega) hI ) (fun e u h => h) (fun v u h => ?_)
            obtain ⟨z59, rfl, rfl, i59⟩ := h
            show GG _ _ _ _ _ _ _ _ [.int z59] _ _ _
            exact g_ireturn (gd rfl) rfl rfl (hP _ _ ⟨s, hI, fr_rf, z59, rfl, rfl, in_w (-2147483648) 2147483647 i59 rfl⟩)
          · skip
            refine g_aload_n 64 (gd rfl) rfl rfl ?_
            refine g_getI 67 (gd rfl) rfl rfl rfl (fun z64 e64 => ?_)
            have q64 : u_2_3 = z64 := (e_2_3).trans e64.symm
            subst q64
            refine g_iconst 1 68 (gd rfl) rfl rfl ?_
            refine g_isub 69 (gd rfl) rfl (fun z68 e68 => ?_)
            have i68 := in_sub (-1) 159 e68 ro_2_3 (in_c 1 rfl) rfl rfl
            exact g_ireturn (gd rfl) rfl rfl (hP _ _ ⟨s, hI, fr_rf, z68, rfl, rfl, in_w (-2147483648) 2147483647 i68 rfl⟩)
      · skip
        exact zn_eq c14 (in_c 1 rfl) rfl

def fm_220_0 : FM := ([], [], [], [])
/-- GraphHouse.told -/
theorem k_220_0 {Z : AmZ} {A : Nat → Nat} {s : GS} {ex : va_W} {d : Nat} {x1 : Int32} {x2 : Int32} (hd : 7 ≤ d) (hI : Inv s)  : GC Z d 220 [.ref (A 0), .int x1, .int x2] (WW Z A s ++ ex) 3 18 (fun v u => ∃ t : GS, Inv t ∧ Fr fm_220_0 s t ∧ ∃ z : Int64, v = some (.long z) ∧ u = WW Z A t ++ ex) (gE1 Z A ex fm_220_0 s) := by
  intro post xp hP hX
  obtain ⟨u_0_2, e_0_2⟩ : ∃ w, w = s.2.2.1 0 2 := ⟨_, rfl⟩
  have ro_0_2 := inv_F hI (-1) 4000 rfl e_0_2
  obtain ⟨u_2_3, e_2_3⟩ : ∃ w, w = s.2.2.1 2 3 := ⟨_, rfl⟩
  have ro_2_3 := inv_F hI 0 160 rfl e_2_3
  obtain ⟨u_32_3, e_32_3⟩ : ∃ w, w = s.2.2.1 32 3 := ⟨_, rfl⟩
  have ro_32_3 := inv_F hI 0 160 rfl e_32_3
  have ct24 : ∀ (sc24 : GS) , Inv sc24 → Fr fm_220_0 s sc24 → GG Z (d - 1) 220 post (gx xp) (901) 24 (fun j => xlook j [(0, .ref (A 0)), (1, .int x1), (2, .int x2)]) [] (WW Z A sc24 ++ ex) 3 18 := by
    intro sc24  hIc24 hFc24 
    refine g_iconst 0 25 (gd rfl) rfl rfl ?_
    refine g_thr (E := am_IA) (y := yX11_allow) 28 (gd rfl) rfl rfl (Or.inl ⟨rfl, rfl, rfl⟩) (by omega) (Nat.le_of_ble_eq_true rfl) (Nat.le_of_ble_eq_true rfl) (Nat.le_of_ble_eq_true rfl) (fun c25 => ?_) (fun c25 => ?_)
    · skip
      exact zn_ne c25 (in_c 0 rfl) rfl
    · skip
      exact (hX _ _ ⟨rfl, sc24, hIc24, hFc24, rfl⟩)
  refine g_enter2 (k := 220) (N := 1801) (by omega) rfl (Nat.le_of_ble_eq_true rfl) ?_
  refine g_iload_n 1 (gd rfl) rfl rfl ?_
  refine g_if_lt 4 24 (gd rfl) rfl rfl (fun c1 => ?_) (fun c1 => ?_)
  · skip
    have i1 := z_lt (-2147483648) (-1) c1 (i_rng x1) rfl
    exact gg_w (by omega) (gg_f (gf_cons rfl (gf_cons rfl (gf_cons rfl gf_nil))) (ct24 s  hI fr_rf ))
  · skip
    have i1 := z_ge 0 2147483647 c1 (i_rng x1) rfl
    refine g_iload_n 5 (gd rfl) rfl rfl ?_
    refine g_sipush 160 8 (gd rfl) rfl rfl ?_
    refine g_cmp_ge 11 24 (gd rfl) rfl rfl (fun c8 => ?_) (fun c8 => ?_)
    · skip
      have i8 := r_le2 160 2147483647 c8 (in_c 160 rfl) i1 rfl
      exact gg_w (by omega) (gg_f (gf_cons rfl (gf_cons rfl (gf_cons rfl gf_nil))) (ct24 s  hI fr_rf ))
    · skip
      have i8 := r_lt1 0 159 c8 i1 (in_c 160 rfl) rfl
      refine g_iload_n 12 (gd rfl) rfl rfl ?_
      refine g_if_lt 15 24 (gd rfl) rfl rfl (fun c12 => ?_) (fun c12 => ?_)
      · skip
        have i12 := z_lt (-2147483648) (-1) c12 (i_rng x2) rfl
        exact gg_w (by omega) (gg_f (gf_cons rfl (gf_cons rfl (gf_cons rfl gf_nil))) (ct24 s  hI fr_rf ))
      · skip
        have i12 := z_ge 0 2147483647 c12 (i_rng x2) rfl
        refine g_iload_n 16 (gd rfl) rfl rfl ?_
        refine g_iconst 4 17 (gd rfl) rfl rfl ?_
        refine g_cmp_gt 20 24 (gd rfl) rfl rfl (fun c17 => ?_) (fun c17 => ?_)
        · skip
          have i17 := r_lt2 5 2147483647 c17 (in_c 4 rfl) i12 rfl
          exact gg_w (by omega) (gg_f (gf_cons rfl (gf_cons rfl (gf_cons rfl gf_nil))) (ct24 s  hI fr_rf ))
        · skip
          have i17 := r_le1 0 4 c17 i12 (in_c 4 rfl) rfl
          refine g_iconst 1 21 (gd rfl) rfl rfl ?_
          refine g_goto 25 (gd rfl) rfl ?_
          refine g_thr (E := am_IA) (y := yX11_allow) 28 (gd rfl) rfl rfl (Or.inl ⟨rfl, rfl, rfl⟩) (by omega) (Nat.le_of_ble_eq_true rfl) (Nat.le_of_ble_eq_true rfl) (Nat.le_of_ble_eq_true rfl) (fun c25 => ?_) (fun c25 => ?_)
          · skip
            refine g_aload_n 29 (gd rfl) rfl rfl ?_
            refine g_callv (X := _) (As := []) (r := []) (b := A 0) (q := 0) 32 (gd rfl) rfl rfl rfl rfl rfl (ww_o rfl) (Nat.le_of_ble_eq_true rfl) (mc := 0) (ms := 0) (Nat.zero_le _) (Nat.zero_le _) (P := fun v u => _) ?_ (fun e u h => h) (fun v u h => h)
            intro po29 xx29 hp29 hx29
            refine g_enter2 (k := 259) (N := 300) (by omega) rfl (Nat.le_of_ble_eq_true rfl) ?_
            refine g_aload_n 1 (gd rfl) rfl rfl ?_
            refine g_getI 4 (gd rfl) rfl rfl rfl (fun z29x1 e29x1 => ?_)
            have q29x1 : u_0_2 = z29x1 := (e_0_2).trans e29x1.symm
            subst q29x1
            refine g_iconst (-1) 5 (gd rfl) rfl rfl ?_
            refine g_cmp_ne 8 18 (gd rfl) rfl rfl (fun c29x5 => ?_) (fun c29x5 => ?_)
            · skip
              have i29x5 := r_ne1 0 4000 c29x5 ro_0_2 (in_c (-1) rfl) rfl
              refine g_aload_n 19 (gd rfl) rfl rfl ?_
              refine g_getA (q2 := 32) 22 (gd rfl) rfl rfl rfl rfl ?_
              refine g_areturn (gd rfl) rfl (hp29 _ _ ?_)
              show GG _ _ _ _ _ _ _ _ [.ref (A 32)] _ _ _
              refine g_astore_n 33 (gd rfl) rfl (Nat.le_of_ble_eq_true rfl) ?_
              refine g_aload_n 34 (gd rfl) rfl rfl ?_
              refine g_iload_n 35 (gd rfl) rfl rfl ?_
              refine g_callv (X := _) (As := [.int x1]) (r := []) (b := A 32) (q := 32) 38 (gd rfl) rfl rfl rfl rfl rfl (ww_o rfl) (Nat.le_of_ble_eq_true rfl) (mc := 0) (ms := 0) (Nat.zero_le _) (Nat.zero_le _) (P := fun v u => _) ?_ (fun e u h => h) (fun v u h => h)
              intro po35 xx35 hp35 hx35
              refine g_enter2 (k := 96) (N := 300) (by omega) rfl (Nat.le_of_ble_eq_true rfl) ?_
              refine g_iload_n 1 (gd rfl) rfl rfl ?_
              refine g_if_lt 4 26 (gd rfl) rfl rfl (fun c35x1 => ?_) (fun c35x1 => ?_)
              · skip
                exact zn_lt c35x1 i8 rfl
              · skip
                refine g_iload_n 5 (gd rfl) rfl rfl ?_
                refine g_aload_n 6 (gd rfl) rfl rfl ?_
                refine g_getI 9 (gd rfl) rfl rfl rfl (fun z35x6 e35x6 => ?_)
                have q35x6 : u_32_3 = z35x6 := (e_32_3).trans e35x6.symm
                subst q35x6
                refine g_cmp_ge 12 26 (gd rfl) rfl rfl (fun c35x9 => ?_) (fun c35x9 => ?_)
                · skip
                  have i35x9 := r_le1 0 159 c35x9 ro_32_3 i8 rfl
                  refine g_iconst 0 27 (gd rfl) rfl rfl ?_
                  refine g_ireturn (gd rfl) rfl (nb01 (in_w 0 1 (in_c 0 rfl) rfl)) (hp35 _ _ ?_)
                  show GG _ _ _ _ _ _ _ _ [.int (Int32.ofInt 0)] _ _ _
                  refine g_if_ne 41 45 (gd rfl) rfl rfl (fun c38 => ?_) (fun c38 => ?_)
                  · skip
                    exact zn_ne c38 (in_c 0 rfl) rfl
                  · skip
                    refine g_ldc2_w 9000000000000000 44 (gd rfl) rfl rfl ?_
                    exact g_lreturn (gd rfl) rfl (hP _ _ ⟨s, hI, fr_rf, (Int64.ofInt 9000000000000000), rfl, rfl⟩)
                · skip
                  have i35x9 := r_lt2 1 160 c35x9 i8 ro_32_3 rfl
                  refine g_aload_n 13 (gd rfl) rfl rfl ?_
                  refine g_getA (q2 := 34) 16 (gd rfl) rfl rfl rfl rfl ?_
                  refine g_iload_n 17 (gd rfl) rfl rfl ?_
                  refine g_iaload 18 (gd rfl) rfl (n := 160) rfl (in_ix i8 rfl) (fun z35x17 e35x17 => ?_)
                  have i35x17 := inv_I hI (n := 160) (t := 0) (-1) 31 rfl (in_ix i8 rfl) rfl e35x17
                  refine g_iconst (-1) 19 (gd rfl) rfl rfl ?_
                  refine g_cmp_eq 22 26 (gd rfl) rfl rfl (fun c35x19 => ?_) (fun c35x19 => ?_)
                  · skip
                    have i35x19 := r_eq1 (-1) (-1) c35x19 i35x17 (in_c (-1) rfl) rfl
                    refine g_iconst 0 27 (gd rfl) rfl rfl ?_
                    refine g_ireturn (gd rfl) rfl (nb01 (in_w 0 1 (in_c 0 rfl) rfl)) (hp35 _ _ ?_)
                    show GG _ _ _ _ _ _ _ _ [.int (Int32.ofInt 0)] _ _ _
                    refine g_if_ne 41 45 (gd rfl) rfl rfl (fun c38 => ?_) (fun c38 => ?_)
                    · skip
                      exact zn_ne c38 (in_c 0 rfl) rfl
                    · skip
                      refine g_ldc2_w 9000000000000000 44 (gd rfl) rfl rfl ?_
                      exact g_lreturn (gd rfl) rfl (hP _ _ ⟨s, hI, fr_rf, (Int64.ofInt 9000000000000000), rfl, rfl⟩)
                  · skip
                    have i35x19 := r_ne1 0 31 c35x19 i35x17 (in_c (-1) rfl) rfl
                    refine g_iconst 1 23 (gd rfl) rfl rfl ?_
                    refine g_goto 27 (gd rfl) rfl ?_
                    refine g_ireturn (gd rfl) rfl (nb01 (in_w 0 1 (in_c 1 rfl) rfl)) (hp35 _ _ ?_)
                    show GG _ _ _ _ _ _ _ _ [.int (Int32.ofInt 1)] _ _ _
                    refine g_if_ne 41 45 (gd rfl) rfl rfl (fun c38 => ?_) (fun c38 => ?_)
                    · skip
                      refine g_iload_n 46 (gd rfl) rfl rfl ?_
                      refine g_if_ne 49 57 (gd rfl) rfl rfl (fun c46 => ?_) (fun c46 => ?_)
                      · skip
                        have i46 := z_ne 1 4 c46 i17 rfl
                        refine g_iload_n 58 (gd rfl) rfl rfl ?_
                        refine g_iconst 1 59 (gd rfl) rfl rfl ?_
                        refine g_cmp_ne 62 72 (gd rfl) rfl rfl (fun c59 => ?_) (fun c59 => ?_)
                        · skip
                          have i59 := r_ne1 2 4 c59 i46 (in_c 1 rfl) rfl
                          refine g_aload_n 73 (gd rfl) rfl rfl ?_
                          refine g_iload_n 74 (gd rfl) rfl rfl ?_
                          refine g_iload_n 75 (gd rfl) rfl rfl ?_
                          refine g_iconst 2 76 (gd rfl) rfl rfl ?_
                          refine g_isub 77 (gd rfl) rfl (fun z76 e76 => ?_)
                          have i76 := in_sub 0 2 e76 i59 (in_c 2 rfl) rfl rfl
                          refine g_callv (X := _) (As := [.int x1, .int z76]) (r := []) (b := A 32) (q := 32) 80 (gd rfl) rfl rfl rfl rfl rfl (ww_o rfl) (Nat.le_of_ble_eq_true rfl) (mc := 0) (ms := 0) (Nat.zero_le _) (Nat.zero_le _) (P := fun v u => _) ?_ (fun e u h => h) (fun v u h => h)
                          intro po77 xx77 hp77 hx77
                          refine g_enter2 (k := 100) (N := 300) (by omega) rfl (Nat.le_of_ble_eq_true rfl) ?_
                          refine g_iload_n 1 (gd rfl) rfl rfl ?_
                          refine g_if_ne 4 11 (gd rfl) rfl rfl (fun c77x1 => ?_) (fun c77x1 => ?_)
                          · skip
                            have i77x1 := z_ne 1 2 c77x1 i76 rfl
                            refine g_iload_n 12 (gd rfl) rfl rfl ?_
                            refine g_iconst 1 13 (gd rfl) rfl rfl ?_
                            refine g_cmp_ne 16 25 (gd rfl) rfl rfl (fun c77x13 => ?_) (fun c77x13 => ?_)
                            · skip
                              have i77x13 := r_ne1 2 2 c77x13 i77x1 (in_c 1 rfl) rfl
                              refine g_aload_n 26 (gd rfl) rfl rfl ?_
                              refine g_getA (q2 := 38) 29 (gd rfl) rfl rfl rfl rfl ?_
                              refine g_iload_n 30 (gd rfl) rfl rfl ?_
                              refine g_iaload 31 (gd rfl) rfl (n := 160) rfl (in_ix i8 rfl) (fun z77x30 e77x30 => ?_)
                              have i77x30 := inv_I hI (n := 160) (t := 0) 0 25 rfl (in_ix i8 rfl) rfl e77x30
                              refine g_ireturn (gd rfl) rfl rfl (hp77 _ _ ?_)
                              show GG _ _ _ _ _ _ _ _ [.int z77x30] _ _ _
                              refine g_i2l 81 (gd rfl) rfl (fun z80 e80 => ?_)
                              have i80 := l_i e80 i77x30
                              exact g_lreturn (gd rfl) rfl (hP _ _ ⟨s, hI, fr_rf, z80, rfl, rfl⟩)
                            · skip
                              have i77x13 := r_eq1 1 1 c77x13 i77x1 (in_c 1 rfl) rfl
                              refine g_aload_n 17 (gd rfl) rfl rfl ?_
                              refine g_getA (q2 := 37) 20 (gd rfl) rfl rfl rfl rfl ?_
                              refine g_iload_n 21 (gd rfl) rfl rfl ?_
                              refine g_iaload 22 (gd rfl) rfl (n := 160) rfl (in_ix i8 rfl) (fun z77x21 e77x21 => ?_)
                              have i77x21 := inv_I hI (n := 160) (t := 0) 0 1000000 rfl (in_ix i8 rfl) rfl e77x21
                              refine g_goto 31 (gd rfl) rfl ?_
                              refine g_ireturn (gd rfl) rfl rfl (hp77 _ _ ?_)
                              show GG _ _ _ _ _ _ _ _ [.int z77x21] _ _ _
                              refine g_i2l 81 (gd rfl) rfl (fun z80 e80 => ?_)
                              have i80 := l_i e80 i77x21
                              exact g_lreturn (gd rfl) rfl (hP _ _ ⟨s, hI, fr_rf, z80, rfl, rfl⟩)
                          · skip
                            have i77x1 := z_eq 0 0 c77x1 i76 rfl
                            refine g_aload_n 5 (gd rfl) rfl rfl ?_
                            refine g_getA (q2 := 36) 8 (gd rfl) rfl rfl rfl rfl ?_
                            refine g_iload_n 9 (gd rfl) rfl rfl ?_
                            refine g_iaload 10 (gd rfl) rfl (n := 160) rfl (in_ix i8 rfl) (fun z77x9 e77x9 => ?_)
                            have i77x9 := inv_I hI (n := 160) (t := 0) (-1000000) 1000000 rfl (in_ix i8 rfl) rfl e77x9
                            refine g_ireturn (gd rfl) rfl rfl (hp77 _ _ ?_)
                            show GG _ _ _ _ _ _ _ _ [.int z77x9] _ _ _
                            refine g_i2l 81 (gd rfl) rfl (fun z80 e80 => ?_)
                            have i80 := l_i e80 i77x9
                            exact g_lreturn (gd rfl) rfl (hP _ _ ⟨s, hI, fr_rf, z80, rfl, rfl⟩)
                        · skip
                          have i59 := r_eq1 1 1 c59 i46 (in_c 1 rfl) rfl
                          refine g_aload_n 63 (gd rfl) rfl rfl ?_
                          refine g_getA (q2 := 35) 66 (gd rfl) rfl rfl rfl rfl ?_
                          refine g_iload_n 67 (gd rfl) rfl rfl ?_
                          refine g_iaload 68 (gd rfl) rfl (n := 160) rfl (in_ix i8 rfl) (fun z67 e67 => ?_)
                          have i67 := inv_I hI (n := 160) (t := 0) 0 31 rfl (in_ix i8 rfl) rfl e67
                          refine g_i2l 69 (gd rfl) rfl (fun z68 e68 => ?_)
                          have i68 := l_i e68 i67
                          refine g_goto 81 (gd rfl) rfl ?_
                          exact g_lreturn (gd rfl) rfl (hP _ _ ⟨s, hI, fr_rf, z68, rfl, rfl⟩)
                      · skip
                        have i46 := z_eq 0 0 c46 i17 rfl
                        refine g_aload_n 50 (gd rfl) rfl rfl ?_
                        refine g_getA (q2 := 34) 53 (gd rfl) rfl rfl rfl rfl ?_
                        refine g_iload_n 54 (gd rfl) rfl rfl ?_
                        refine g_iaload 55 (gd rfl) rfl (n := 160) rfl (in_ix i8 rfl) (fun z54 e54 => ?_)
                        have q54 : z35x17 = z54 := (e35x17).trans e54.symm
                        subst q54
                        refine g_i2l 56 (gd rfl) rfl (fun z55 e55 => ?_)
                        have i55 := l_i e55 i35x19
                        exact g_lreturn (gd rfl) rfl (hP _ _ ⟨s, hI, fr_rf, z55, rfl, rfl⟩)
                    · skip
                      exact zn_eq c38 (in_c 1 rfl) rfl
            · skip
              have i29x5 := r_eq1 (-1) (-1) c29x5 ro_0_2 (in_c (-1) rfl) rfl
              refine g_aload_n 9 (gd rfl) rfl rfl ?_
              refine g_getA (q2 := 1) 12 (gd rfl) rfl rfl rfl rfl ?_
              refine g_getA (q2 := 2) 15 (gd rfl) rfl rfl rfl rfl ?_
              refine g_goto 22 (gd rfl) rfl ?_
              refine g_areturn (gd rfl) rfl (hp29 _ _ ?_)
              show GG _ _ _ _ _ _ _ _ [.ref (A 2)] _ _ _
              refine g_astore_n 33 (gd rfl) rfl (Nat.le_of_ble_eq_true rfl) ?_
              refine g_aload_n 34 (gd rfl) rfl rfl ?_
              refine g_iload_n 35 (gd rfl) rfl rfl ?_
              refine g_callv (X := _) (As := [.int x1]) (r := []) (b := A 2) (q := 2) 38 (gd rfl) rfl rfl rfl rfl rfl (ww_o rfl) (Nat.le_of_ble_eq_true rfl) (mc := 0) (ms := 0) (Nat.zero_le _) (Nat.zero_le _) (P := fun v u => _) ?_ (fun e u h => h) (fun v u h => h)
              intro po35 xx35 hp35 hx35
              refine g_enter2 (k := 96) (N := 300) (by omega) rfl (Nat.le_of_ble_eq_true rfl) ?_
              refine g_iload_n 1 (gd rfl) rfl rfl ?_
              refine g_if_lt 4 26 (gd rfl) rfl rfl (fun c35x1 => ?_) (fun c35x1 => ?_)
              · skip
                exact zn_lt c35x1 i8 rfl
              · skip
                refine g_iload_n 5 (gd rfl) rfl rfl ?_
                refine g_aload_n 6 (gd rfl) rfl rfl ?_
                refine g_getI 9 (gd rfl) rfl rfl rfl (fun z35x6 e35x6 => ?_)
                have q35x6 : u_2_3 = z35x6 := (e_2_3).trans e35x6.symm
                subst q35x6
                refine g_cmp_ge 12 26 (gd rfl) rfl rfl (fun c35x9 => ?_) (fun c35x9 => ?_)
                · skip
                  have i35x9 := r_le1 0 159 c35x9 ro_2_3 i8 rfl
                  refine g_iconst 0 27 (gd rfl) rfl rfl ?_
                  refine g_ireturn (gd rfl) rfl (nb01 (in_w 0 1 (in_c 0 rfl) rfl)) (hp35 _ _ ?_)
                  show GG _ _ _ _ _ _ _ _ [.int (Int32.ofInt 0)] _ _ _
                  refine g_if_ne 41 45 (gd rfl) rfl rfl (fun c38 => ?_) (fun c38 => ?_)
                  · skip
                    exact zn_ne c38 (in_c 0 rfl) rfl
                  · skip
                    refine g_ldc2_w 9000000000000000 44 (gd rfl) rfl rfl ?_
                    exact g_lreturn (gd rfl) rfl (hP _ _ ⟨s, hI, fr_rf, (Int64.ofInt 9000000000000000), rfl, rfl⟩)
                · skip
                  have i35x9 := r_lt2 1 160 c35x9 i8 ro_2_3 rfl
                  refine g_aload_n 13 (gd rfl) rfl rfl ?_
                  refine g_getA (q2 := 4) 16 (gd rfl) rfl rfl rfl rfl ?_
                  refine g_iload_n 17 (gd rfl) rfl rfl ?_
                  refine g_iaload 18 (gd rfl) rfl (n := 160) rfl (in_ix i8 rfl) (fun z35x17 e35x17 => ?_)
                  have i35x17 := inv_I hI (n := 160) (t := 0) (-1) 31 rfl (in_ix i8 rfl) rfl e35x17
                  refine g_iconst (-1) 19 (gd rfl) rfl rfl ?_
                  refine g_cmp_eq 22 26 (gd rfl) rfl rfl (fun c35x19 => ?_) (fun c35x19 => ?_)
                  · skip
                    have i35x19 := r_eq1 (-1) (-1) c35x19 i35x17 (in_c (-1) rfl) rfl
                    refine g_iconst 0 27 (gd rfl) rfl rfl ?_
                    refine g_ireturn (gd rfl) rfl (nb01 (in_w 0 1 (in_c 0 rfl) rfl)) (hp35 _ _ ?_)
                    show GG _ _ _ _ _ _ _ _ [.int (Int32.ofInt 0)] _ _ _
                    refine g_if_ne 41 45 (gd rfl) rfl rfl (fun c38 => ?_) (fun c38 => ?_)
                    · skip
                      exact zn_ne c38 (in_c 0 rfl) rfl
                    · skip
                      refine g_ldc2_w 9000000000000000 44 (gd rfl) rfl rfl ?_
                      exact g_lreturn (gd rfl) rfl (hP _ _ ⟨s, hI, fr_rf, (Int64.ofInt 9000000000000000), rfl, rfl⟩)
                  · skip
                    have i35x19 := r_ne1 0 31 c35x19 i35x17 (in_c (-1) rfl) rfl
                    refine g_iconst 1 23 (gd rfl) rfl rfl ?_
                    refine g_goto 27 (gd rfl) rfl ?_
                    refine g_ireturn (gd rfl) rfl (nb01 (in_w 0 1 (in_c 1 rfl) rfl)) (hp35 _ _ ?_)
                    show GG _ _ _ _ _ _ _ _ [.int (Int32.ofInt 1)] _ _ _
                    refine g_if_ne 41 45 (gd rfl) rfl rfl (fun c38 => ?_) (fun c38 => ?_)
                    · skip
                      refine g_iload_n 46 (gd rfl) rfl rfl ?_
                      refine g_if_ne 49 57 (gd rfl) rfl rfl (fun c46 => ?_) (fun c46 => ?_)
                      · skip
                        have i46 := z_ne 1 4 c46 i17 rfl
                        refine g_iload_n 58 (gd rfl) rfl rfl ?_
                        refine g_iconst 1 59 (gd rfl) rfl rfl ?_
                        refine g_cmp_ne 62 72 (gd rfl) rfl rfl (fun c59 => ?_) (fun c59 => ?_)
                        · skip
                          have i59 := r_ne1 2 4 c59 i46 (in_c 1 rfl) rfl
                          refine g_aload_n 73 (gd rfl) rfl rfl ?_
                          refine g_iload_n 74 (gd rfl) rfl rfl ?_
                          refine g_iload_n 75 (gd rfl) rfl rfl ?_
                          refine g_iconst 2 76 (gd rfl) rfl rfl ?_
                          refine g_isub 77 (gd rfl) rfl (fun z76 e76 => ?_)
                          have i76 := in_sub 0 2 e76 i59 (in_c 2 rfl) rfl rfl
                          refine g_callv (X := _) (As := [.int x1, .int z76]) (r := []) (b := A 2) (q := 2) 80 (gd rfl) rfl rfl rfl rfl rfl (ww_o rfl) (Nat.le_of_ble_eq_true rfl) (mc := 0) (ms := 0) (Nat.zero_le _) (Nat.zero_le _) (P := fun v u => _) ?_ (fun e u h => h) (fun v u h => h)
                          intro po77 xx77 hp77 hx77
                          refine g_enter2 (k := 100) (N := 300) (by omega) rfl (Nat.le_of_ble_eq_true rfl) ?_
                          refine g_iload_n 1 (gd rfl) rfl rfl ?_
                          refine g_if_ne 4 11 (gd rfl) rfl rfl (fun c77x1 => ?_) (fun c77x1 => ?_)
                          · skip
                            have i77x1 := z_ne 1 2 c77x1 i76 rfl
                            refine g_iload_n 12 (gd rfl) rfl rfl ?_
                            refine g_iconst 1 13 (gd rfl) rfl rfl ?_
                            refine g_cmp_ne 16 25 (gd rfl) rfl rfl (fun c77x13 => ?_) (fun c77x13 => ?_)
                            · skip
                              have i77x13 := r_ne1 2 2 c77x13 i77x1 (in_c 1 rfl) rfl
                              refine g_aload_n 26 (gd rfl) rfl rfl ?_
                              refine g_getA (q2 := 8) 29 (gd rfl) rfl rfl rfl rfl ?_
                              refine g_iload_n 30 (gd rfl) rfl rfl ?_
                              refine g_iaload 31 (gd rfl) rfl (n := 160) rfl (in_ix i8 rfl) (fun z77x30 e77x30 => ?_)
                              have i77x30 := inv_I hI (n := 160) (t := 0) 0 25 rfl (in_ix i8 rfl) rfl e77x30
                              refine g_ireturn (gd rfl) rfl rfl (hp77 _ _ ?_)
                              show GG _ _ _ _ _ _ _ _ [.int z77x30] _ _ _
                              refine g_i2l 81 (gd rfl) rfl (fun z80 e80 => ?_)
                              have i80 := l_i e80 i77x30
                              exact g_lreturn (gd rfl) rfl (hP _ _ ⟨s, hI, fr_rf, z80, rfl, rfl⟩)
                            · skip
                              have i77x13 := r_eq1 1 1 c77x13 i77x1 (in_c 1 rfl) rfl
                              refine g_aload_n 17 (gd rfl) rfl rfl ?_
                              refine g_getA (q2 := 7) 20 (gd rfl) rfl rfl rfl rfl ?_
                              refine g_iload_n 21 (gd rfl) rfl rfl ?_
                              refine g_iaload 22 (gd rfl) rfl (n := 160) rfl (in_ix i8 rfl) (fun z77x21 e77x21 => ?_)
                              have i77x21 := inv_I hI (n := 160) (t := 0) 0 1000000 rfl (in_ix i8 rfl) rfl e77x21
                              refine g_goto 31 (gd rfl) rfl ?_
                              refine g_ireturn (gd rfl) rfl rfl (hp77 _ _ ?_)
                              show GG _ _ _ _ _ _ _ _ [.int z77x21] _ _ _
                              refine g_i2l 81 (gd rfl) rfl (fun z80 e80 => ?_)
                              have i80 := l_i e80 i77x21
                              exact g_lreturn (gd rfl) rfl (hP _ _ ⟨s, hI, fr_rf, z80, rfl, rfl⟩)
                          · skip
                            have i77x1 := z_eq 0 0 c77x1 i76 rfl
                            refine g_aload_n 5 (gd rfl) rfl rfl ?_
                            refine g_getA (q2 := 6) 8 (gd rfl) rfl rfl rfl rfl ?_
                            refine g_iload_n 9 (gd rfl) rfl rfl ?_
                            refine g_iaload 10 (gd rfl) rfl (n := 160) rfl (in_ix i8 rfl) (fun z77x9 e77x9 => ?_)
                            have i77x9 := inv_I hI (n := 160) (t := 0) (-1000000) 1000000 rfl (in_ix i8 rfl) rfl e77x9
                            refine g_ireturn (gd rfl) rfl rfl (hp77 _ _ ?_)
                            show GG _ _ _ _ _ _ _ _ [.int z77x9] _ _ _
                            refine g_i2l 81 (gd rfl) rfl (fun z80 e80 => ?_)
                            have i80 := l_i e80 i77x9
                            exact g_lreturn (gd rfl) rfl (hP _ _ ⟨s, hI, fr_rf, z80, rfl, rfl⟩)
                        · skip
                          have i59 := r_eq1 1 1 c59 i46 (in_c 1 rfl) rfl
                          refine g_aload_n 63 (gd rfl) rfl rfl ?_
                          refine g_getA (q2 := 5) 66 (gd rfl) rfl rfl rfl rfl ?_
                          refine g_iload_n 67 (gd rfl) rfl rfl ?_
                          refine g_iaload 68 (gd rfl) rfl (n := 160) rfl (in_ix i8 rfl) (fun z67 e67 => ?_)
                          have i67 := inv_I hI (n := 160) (t := 0) 0 31 rfl (in_ix i8 rfl) rfl e67
                          refine g_i2l 69 (gd rfl) rfl (fun z68 e68 => ?_)
                          have i68 := l_i e68 i67
                          refine g_goto 81 (gd rfl) rfl ?_
                          exact g_lreturn (gd rfl) rfl (hP _ _ ⟨s, hI, fr_rf, z68, rfl, rfl⟩)
                      · skip
                        have i46 := z_eq 0 0 c46 i17 rfl
                        refine g_aload_n 50 (gd rfl) rfl rfl ?_
                        refine g_getA (q2 := 4) 53 (gd rfl) rfl rfl rfl rfl ?_
                        refine g_iload_n 54 (gd rfl) rfl rfl ?_
                        refine g_iaload 55 (gd rfl) rfl (n := 160) rfl (in_ix i8 rfl) (fun z54 e54 => ?_)
                        have q54 : z35x17 = z54 := (e35x17).trans e54.symm
                        subst q54
                        refine g_i2l 56 (gd rfl) rfl (fun z55 e55 => ?_)
                        have i55 := l_i e55 i35x19
                        exact g_lreturn (gd rfl) rfl (hP _ _ ⟨s, hI, fr_rf, z55, rfl, rfl⟩)
                    · skip
                      exact zn_eq c38 (in_c 1 rfl) rfl
          · skip
            exact zn_eq c25 (in_c 1 rfl) rfl

def fm_221_0 : FM := ([], [], [], [])
/-- GraphHouse.labelOf -/
theorem k_221_0 {Z : AmZ} {A : Nat → Nat} {s : GS} {ex : va_W} {d : Nat} {x1 : Int32} (hd : 7 ≤ d) (hI : Inv s)  : GC Z d 221 [.ref (A 0), .int x1] (WW Z A s ++ ex) 3 18 (fun v u => ∃ t : GS, Inv t ∧ Fr fm_221_0 s t ∧ ∃ z : Int32, v = some (.int z) ∧ u = WW Z A t ++ ex ∧ In z 0 25) (gE1 Z A ex fm_221_0 s) := by
  intro post xp hP hX
  obtain ⟨u_0_2, e_0_2⟩ : ∃ w, w = s.2.2.1 0 2 := ⟨_, rfl⟩
  have ro_0_2 := inv_F hI (-1) 4000 rfl e_0_2
  obtain ⟨u_2_1, e_2_1⟩ : ∃ w, w = s.2.2.1 2 1 := ⟨_, rfl⟩
  have ro_2_1 := inv_F hI 0 32 rfl e_2_1
  obtain ⟨u_32_1, e_32_1⟩ : ∃ w, w = s.2.2.1 32 1 := ⟨_, rfl⟩
  have ro_32_1 := inv_F hI 0 32 rfl e_32_1
  refine g_enter2 (k := 221) (N := 900) (by omega) rfl (Nat.le_of_ble_eq_true rfl) ?_
  refine g_aload_n 1 (gd rfl) rfl rfl ?_
  refine g_callv (X := _) (As := []) (r := []) (b := A 0) (q := 0) 4 (gd rfl) rfl rfl rfl rfl rfl (ww_o rfl) (Nat.le_of_ble_eq_true rfl) (mc := 0) (ms := 0) (Nat.zero_le _) (Nat.zero_le _) (P := fun v u => _) ?_ (fun e u h => h) (fun v u h => h)
  intro po1 xx1 hp1 hx1
  refine g_enter2 (k := 259) (N := 300) (by omega) rfl (Nat.le_of_ble_eq_true rfl) ?_
  refine g_aload_n 1 (gd rfl) rfl rfl ?_
  refine g_getI 4 (gd rfl) rfl rfl rfl (fun z1x1 e1x1 => ?_)
  have q1x1 : u_0_2 = z1x1 := (e_0_2).trans e1x1.symm
  subst q1x1
  refine g_iconst (-1) 5 (gd rfl) rfl rfl ?_
  refine g_cmp_ne 8 18 (gd rfl) rfl rfl (fun c1x5 => ?_) (fun c1x5 => ?_)
  · skip
    have i1x5 := r_ne1 0 4000 c1x5 ro_0_2 (in_c (-1) rfl) rfl
    refine g_aload_n 19 (gd rfl) rfl rfl ?_
    refine g_getA (q2 := 32) 22 (gd rfl) rfl rfl rfl rfl ?_
    refine g_areturn (gd rfl) rfl (hp1 _ _ ?_)
    show GG _ _ _ _ _ _ _ _ [.ref (A 32)] _ _ _
    refine g_astore_n 5 (gd rfl) rfl (Nat.le_of_ble_eq_true rfl) ?_
    refine g_aload_n 6 (gd rfl) rfl rfl ?_
    refine g_iload_n 7 (gd rfl) rfl rfl ?_
    refine g_callv (X := _) (As := [.int x1]) (r := []) (b := A 32) (q := 32) 10 (gd rfl) rfl rfl rfl rfl rfl (ww_o rfl) (Nat.le_of_ble_eq_true rfl) (mc := 0) (ms := 0) (Nat.zero_le _) (Nat.zero_le _) (P := fun v u => _) ?_ (fun e u h => h) (fun v u h => h)
    intro po7 xx7 hp7 hx7
    refine g_enter2 (k := 94) (N := 300) (by omega) rfl (Nat.le_of_ble_eq_true rfl) ?_
    refine g_iload_n 1 (gd rfl) rfl rfl ?_
    refine g_if_lt 4 16 (gd rfl) rfl rfl (fun c7x1 => ?_) (fun c7x1 => ?_)
    · skip
      have i7x1 := z_lt (-2147483648) (-1) c7x1 (i_rng x1) rfl
      refine g_iconst 0 17 (gd rfl) rfl rfl ?_
      refine g_ireturn (gd rfl) rfl (nb01 (in_w 0 1 (in_c 0 rfl) rfl)) (hp7 _ _ ?_)
      show GG _ _ _ _ _ _ _ _ [.int (Int32.ofInt 0)] _ _ _
      refine g_thr (E := am_IA) (y := yX11_allow) 13 (gd rfl) rfl rfl (Or.inl ⟨rfl, rfl, rfl⟩) (by omega) (Nat.le_of_ble_eq_true rfl) (Nat.le_of_ble_eq_true rfl) (Nat.le_of_ble_eq_true rfl) (fun c10 => ?_) (fun c10 => ?_)
      · skip
        exact zn_ne c10 (in_c 0 rfl) rfl
      · skip
        exact (hX _ _ ⟨rfl, s, hI, fr_rf, rfl⟩)
    · skip
      have i7x1 := z_ge 0 2147483647 c7x1 (i_rng x1) rfl
      refine g_iload_n 5 (gd rfl) rfl rfl ?_
      refine g_aload_n 6 (gd rfl) rfl rfl ?_
      refine g_getI 9 (gd rfl) rfl rfl rfl (fun z7x6 e7x6 => ?_)
      have q7x6 : u_32_1 = z7x6 := (e_32_1).trans e7x6.symm
      subst q7x6
      refine g_cmp_ge 12 16 (gd rfl) rfl rfl (fun c7x9 => ?_) (fun c7x9 => ?_)
      · skip
        refine g_iconst 0 17 (gd rfl) rfl rfl ?_
        refine g_ireturn (gd rfl) rfl (nb01 (in_w 0 1 (in_c 0 rfl) rfl)) (hp7 _ _ ?_)
        show GG _ _ _ _ _ _ _ _ [.int (Int32.ofInt 0)] _ _ _
        refine g_thr (E := am_IA) (y := yX11_allow) 13 (gd rfl) rfl rfl (Or.inl ⟨rfl, rfl, rfl⟩) (by omega) (Nat.le_of_ble_eq_true rfl) (Nat.le_of_ble_eq_true rfl) (Nat.le_of_ble_eq_true rfl) (fun c10 => ?_) (fun c10 => ?_)
        · skip
          exact zn_ne c10 (in_c 0 rfl) rfl
        · skip
          exact (hX _ _ ⟨rfl, s, hI, fr_rf, rfl⟩)
      · skip
        have i7x9 := r_lt1 0 31 c7x9 i7x1 ro_32_1 rfl
        have i7x9a := r_lt2 1 32 c7x9 i7x1 ro_32_1 rfl
        refine g_iconst 1 13 (gd rfl) rfl rfl ?_
        refine g_goto 17 (gd rfl) rfl ?_
        refine g_ireturn (gd rfl) rfl (nb01 (in_w 0 1 (in_c 1 rfl) rfl)) (hp7 _ _ ?_)
        show GG _ _ _ _ _ _ _ _ [.int (Int32.ofInt 1)] _ _ _
        refine g_thr (E := am_IA) (y := yX11_allow) 13 (gd rfl) rfl rfl (Or.inl ⟨rfl, rfl, rfl⟩) (by omega) (Nat.le_of_ble_eq_true rfl) (Nat.le_of_ble_eq_true rfl) (Nat.le_of_ble_eq_true rfl) (fun c10 => ?_) (fun c10 => ?_)
        · skip
          refine g_aload_n 14 (gd rfl) rfl rfl ?_
          refine g_getA (q2 := 33) 17 (gd rfl) rfl rfl rfl rfl ?_
          refine g_iload_n 18 (gd rfl) rfl rfl ?_
          refine g_iaload 19 (gd rfl) rfl (n := 32) rfl (in_ix i7x9 rfl) (fun z18 e18 => ?_)
          have i18 := inv_I hI (n := 32) (t := 0) 0 25 rfl (in_ix i7x9 rfl) rfl e18
          exact g_ireturn (gd rfl) rfl rfl (hP _ _ ⟨s, hI, fr_rf, z18, rfl, rfl, in_w 0 25 i18 rfl⟩)
        · skip
          exact zn_eq c10 (in_c 1 rfl) rfl
  · skip
    have i1x5 := r_eq1 (-1) (-1) c1x5 ro_0_2 (in_c (-1) rfl) rfl
    refine g_aload_n 9 (gd rfl) rfl rfl ?_
    refine g_getA (q2 := 1) 12 (gd rfl) rfl rfl rfl rfl ?_
    refine g_getA (q2 := 2) 15 (gd rfl) rfl rfl rfl rfl ?_
    refine g_goto 22 (gd rfl) rfl ?_
    refine g_areturn (gd rfl) rfl (hp1 _ _ ?_)
    show GG _ _ _ _ _ _ _ _ [.ref (A 2)] _ _ _
    refine g_astore_n 5 (gd rfl) rfl (Nat.le_of_ble_eq_true rfl) ?_
    refine g_aload_n 6 (gd rfl) rfl rfl ?_
    refine g_iload_n 7 (gd rfl) rfl rfl ?_
    refine g_callv (X := _) (As := [.int x1]) (r := []) (b := A 2) (q := 2) 10 (gd rfl) rfl rfl rfl rfl rfl (ww_o rfl) (Nat.le_of_ble_eq_true rfl) (mc := 0) (ms := 0) (Nat.zero_le _) (Nat.zero_le _) (P := fun v u => _) ?_ (fun e u h => h) (fun v u h => h)
    intro po7 xx7 hp7 hx7
    refine g_enter2 (k := 94) (N := 300) (by omega) rfl (Nat.le_of_ble_eq_true rfl) ?_
    refine g_iload_n 1 (gd rfl) rfl rfl ?_
    refine g_if_lt 4 16 (gd rfl) rfl rfl (fun c7x1 => ?_) (fun c7x1 => ?_)
    · skip
      have i7x1 := z_lt (-2147483648) (-1) c7x1 (i_rng x1) rfl
      refine g_iconst 0 17 (gd rfl) rfl rfl ?_
      refine g_ireturn (gd rfl) rfl (nb01 (in_w 0 1 (in_c 0 rfl) rfl)) (hp7 _ _ ?_)
      show GG _ _ _ _ _ _ _ _ [.int (Int32.ofInt 0)] _ _ _
      refine g_thr (E := am_IA) (y := yX11_allow) 13 (gd rfl) rfl rfl (Or.inl ⟨rfl, rfl, rfl⟩) (by omega) (Nat.le_of_ble_eq_true rfl) (Nat.le_of_ble_eq_true rfl) (Nat.le_of_ble_eq_true rfl) (fun c10 => ?_) (fun c10 => ?_)
      · skip
        exact zn_ne c10 (in_c 0 rfl) rfl
      · skip
        exact (hX _ _ ⟨rfl, s, hI, fr_rf, rfl⟩)
    · skip
      have i7x1 := z_ge 0 2147483647 c7x1 (i_rng x1) rfl
      refine g_iload_n 5 (gd rfl) rfl rfl ?_
      refine g_aload_n 6 (gd rfl) rfl rfl ?_
      refine g_getI 9 (gd rfl) rfl rfl rfl (fun z7x6 e7x6 => ?_)
      have q7x6 : u_2_1 = z7x6 := (e_2_1).trans e7x6.symm
      subst q7x6
      refine g_cmp_ge 12 16 (gd rfl) rfl rfl (fun c7x9 => ?_) (fun c7x9 => ?_)
      · skip
        refine g_iconst 0 17 (gd rfl) rfl rfl ?_
        refine g_ireturn (gd rfl) rfl (nb01 (in_w 0 1 (in_c 0 rfl) rfl)) (hp7 _ _ ?_)
        show GG _ _ _ _ _ _ _ _ [.int (Int32.ofInt 0)] _ _ _
        refine g_thr (E := am_IA) (y := yX11_allow) 13 (gd rfl) rfl rfl (Or.inl ⟨rfl, rfl, rfl⟩) (by omega) (Nat.le_of_ble_eq_true rfl) (Nat.le_of_ble_eq_true rfl) (Nat.le_of_ble_eq_true rfl) (fun c10 => ?_) (fun c10 => ?_)
        · skip
          exact zn_ne c10 (in_c 0 rfl) rfl
        · skip
          exact (hX _ _ ⟨rfl, s, hI, fr_rf, rfl⟩)
      · skip
        have i7x9 := r_lt1 0 31 c7x9 i7x1 ro_2_1 rfl
        have i7x9a := r_lt2 1 32 c7x9 i7x1 ro_2_1 rfl
        refine g_iconst 1 13 (gd rfl) rfl rfl ?_
        refine g_goto 17 (gd rfl) rfl ?_
        refine g_ireturn (gd rfl) rfl (nb01 (in_w 0 1 (in_c 1 rfl) rfl)) (hp7 _ _ ?_)
        show GG _ _ _ _ _ _ _ _ [.int (Int32.ofInt 1)] _ _ _
        refine g_thr (E := am_IA) (y := yX11_allow) 13 (gd rfl) rfl rfl (Or.inl ⟨rfl, rfl, rfl⟩) (by omega) (Nat.le_of_ble_eq_true rfl) (Nat.le_of_ble_eq_true rfl) (Nat.le_of_ble_eq_true rfl) (fun c10 => ?_) (fun c10 => ?_)
        · skip
          refine g_aload_n 14 (gd rfl) rfl rfl ?_
          refine g_getA (q2 := 3) 17 (gd rfl) rfl rfl rfl rfl ?_
          refine g_iload_n 18 (gd rfl) rfl rfl ?_
          refine g_iaload 19 (gd rfl) rfl (n := 32) rfl (in_ix i7x9 rfl) (fun z18 e18 => ?_)
          have i18 := inv_I hI (n := 32) (t := 0) 0 25 rfl (in_ix i7x9 rfl) rfl e18
          exact g_ireturn (gd rfl) rfl rfl (hP _ _ ⟨s, hI, fr_rf, z18, rfl, rfl, in_w 0 25 i18 rfl⟩)
        · skip
          exact zn_eq c10 (in_c 1 rfl) rfl

def fm_222_0 : FM := ([9, 10, 11, 12, 13, 14, 15, 39, 40, 41, 42, 43, 44, 45], [], [(2, 4), (32, 4)], [])
/-- GraphHouse.arcAt -/
theorem k_222_0 {Z : AmZ} {A : Nat → Nat} {s : GS} {ex : va_W} {d : Nat} {x1 : Int32} {x2 : Int32} {x3 : Int32} (hd : 7 ≤ d) (hI : Inv s)  : GC Z d 222 [.ref (A 0), .int x1, .int x2, .int x3] (WW Z A s ++ ex) 3 18 (fun v u => ∃ t : GS, Inv t ∧ Fr fm_222_0 s t ∧ ∃ z : Int32, v = some (.int z) ∧ u = WW Z A t ++ ex ∧ In z (-1) 159) (gE1 Z A ex fm_222_0 s) := by
  intro post xp hP hX
  obtain ⟨u_0_2, e_0_2⟩ : ∃ w, w = s.2.2.1 0 2 := ⟨_, rfl⟩
  have ro_0_2 := inv_F hI (-1) 4000 rfl e_0_2
  obtain ⟨u_2_1, e_2_1⟩ : ∃ w, w = s.2.2.1 2 1 := ⟨_, rfl⟩
  have ro_2_1 := inv_F hI 0 32 rfl e_2_1
  obtain ⟨u_32_1, e_32_1⟩ : ∃ w, w = s.2.2.1 32 1 := ⟨_, rfl⟩
  have ro_32_1 := inv_F hI 0 32 rfl e_32_1
  have ct32 : ∀ (sc32 : GS) , Inv sc32 → Fr fm_222_0 s sc32 → GG Z (d - 1) 222 post (gx xp) (901) 32 (fun j => xlook j [(0, .ref (A 0)), (1, .int x1), (2, .int x2), (3, .int x3)]) [] (WW Z A sc32 ++ ex) 3 18 := by
    intro sc32  hIc32 hFc32 
    refine g_iconst 0 33 (gd rfl) rfl rfl ?_
    refine g_thr (E := am_IA) (y := yX11_allow) 36 (gd rfl) rfl rfl (Or.inl ⟨rfl, rfl, rfl⟩) (by omega) (Nat.le_of_ble_eq_true rfl) (Nat.le_of_ble_eq_true rfl) (Nat.le_of_ble_eq_true rfl) (fun c33 => ?_) (fun c33 => ?_)
    · skip
      exact zn_ne c33 (in_c 0 rfl) rfl
    · skip
      exact (hX _ _ ⟨rfl, sc32, hIc32, hFc32, rfl⟩)
  refine g_enter2 (k := 222) (N := 1801) (by omega) rfl (Nat.le_of_ble_eq_true rfl) ?_
  refine g_aload_n 1 (gd rfl) rfl rfl ?_
  refine g_callv (X := _) (As := []) (r := []) (b := A 0) (q := 0) 4 (gd rfl) rfl rfl rfl rfl rfl (ww_o rfl) (Nat.le_of_ble_eq_true rfl) (mc := 0) (ms := 0) (Nat.zero_le _) (Nat.zero_le _) (P := fun v u => _) ?_ (fun e u h => h) (fun v u h => h)
  intro po1 xx1 hp1 hx1
  refine g_enter2 (k := 259) (N := 300) (by omega) rfl (Nat.le_of_ble_eq_true rfl) ?_
  refine g_aload_n 1 (gd rfl) rfl rfl ?_
  refine g_getI 4 (gd rfl) rfl rfl rfl (fun z1x1 e1x1 => ?_)
  have q1x1 : u_0_2 = z1x1 := (e_0_2).trans e1x1.symm
  subst q1x1
  refine g_iconst (-1) 5 (gd rfl) rfl rfl ?_
  refine g_cmp_ne 8 18 (gd rfl) rfl rfl (fun c1x5 => ?_) (fun c1x5 => ?_)
  · skip
    have i1x5 := r_ne1 0 4000 c1x5 ro_0_2 (in_c (-1) rfl) rfl
    refine g_aload_n 19 (gd rfl) rfl rfl ?_
    refine g_getA (q2 := 32) 22 (gd rfl) rfl rfl rfl rfl ?_
    refine g_areturn (gd rfl) rfl (hp1 _ _ ?_)
    show GG _ _ _ _ _ _ _ _ [.ref (A 32)] _ _ _
    refine g_astore 6 (gd rfl) rfl (Nat.le_of_ble_eq_true rfl) ?_
    refine g_aload 8 (gd rfl) rfl rfl ?_
    refine g_iload_n 9 (gd rfl) rfl rfl ?_
    refine g_callv (X := _) (As := [.int x1]) (r := []) (b := A 32) (q := 32) 12 (gd rfl) rfl rfl rfl rfl rfl (ww_o rfl) (Nat.le_of_ble_eq_true rfl) (mc := 0) (ms := 0) (Nat.zero_le _) (Nat.zero_le _) (P := fun v u => _) ?_ (fun e u h => h) (fun v u h => h)
    intro po9 xx9 hp9 hx9
    refine g_enter2 (k := 94) (N := 300) (by omega) rfl (Nat.le_of_ble_eq_true rfl) ?_
    refine g_iload_n 1 (gd rfl) rfl rfl ?_
    refine g_if_lt 4 16 (gd rfl) rfl rfl (fun c9x1 => ?_) (fun c9x1 => ?_)
    · skip
      have i9x1 := z_lt (-2147483648) (-1) c9x1 (i_rng x1) rfl
      refine g_iconst 0 17 (gd rfl) rfl rfl ?_
      refine g_ireturn (gd rfl) rfl (nb01 (in_w 0 1 (in_c 0 rfl) rfl)) (hp9 _ _ ?_)
      show GG _ _ _ _ _ _ _ _ [.int (Int32.ofInt 0)] _ _ _
      refine g_if_eq 15 32 (gd rfl) rfl rfl (fun c12 => ?_) (fun c12 => ?_)
      · skip
        exact gg_w (by omega) (gg_f (gf_cons rfl (gf_cons rfl (gf_cons rfl (gf_cons rfl gf_nil)))) (ct32 s  hI fr_rf ))
      · skip
        exact zn_ne c12 (in_c 0 rfl) rfl
    · skip
      have i9x1 := z_ge 0 2147483647 c9x1 (i_rng x1) rfl
      refine g_iload_n 5 (gd rfl) rfl rfl ?_
      refine g_aload_n 6 (gd rfl) rfl rfl ?_
      refine g_getI 9 (gd rfl) rfl rfl rfl (fun z9x6 e9x6 => ?_)
      have q9x6 : u_32_1 = z9x6 := (e_32_1).trans e9x6.symm
      subst q9x6
      refine g_cmp_ge 12 16 (gd rfl) rfl rfl (fun c9x9 => ?_) (fun c9x9 => ?_)
      · skip
        refine g_iconst 0 17 (gd rfl) rfl rfl ?_
        refine g_ireturn (gd rfl) rfl (nb01 (in_w 0 1 (in_c 0 rfl) rfl)) (hp9 _ _ ?_)
        show GG _ _ _ _ _ _ _ _ [.int (Int32.ofInt 0)] _ _ _
        refine g_if_eq 15 32 (gd rfl) rfl rfl (fun c12 => ?_) (fun c12 => ?_)
        · skip
          exact gg_w (by omega) (gg_f (gf_cons rfl (gf_cons rfl (gf_cons rfl (gf_cons rfl gf_nil)))) (ct32 s  hI fr_rf ))
        · skip
          exact zn_ne c12 (in_c 0 rfl) rfl
      · skip
        have i9x9 := r_lt1 0 31 c9x9 i9x1 ro_32_1 rfl
        have i9x9a := r_lt2 1 32 c9x9 i9x1 ro_32_1 rfl
        refine g_iconst 1 13 (gd rfl) rfl rfl ?_
        refine g_goto 17 (gd rfl) rfl ?_
        refine g_ireturn (gd rfl) rfl (nb01 (in_w 0 1 (in_c 1 rfl) rfl)) (hp9 _ _ ?_)
        show GG _ _ _ _ _ _ _ _ [.int (Int32.ofInt 1)] _ _ _
        refine g_if_eq 15 32 (gd rfl) rfl rfl (fun c12 => ?_) (fun c12 => ?_)
        · skip
          exact zn_eq c12 (in_c 1 rfl) rfl
        · skip
          refine g_iload_n 16 (gd rfl) rfl rfl ?_
          refine g_if_lt 19 32 (gd rfl) rfl rfl (fun c16 => ?_) (fun c16 => ?_)
          · skip
            have i16 := z_lt (-2147483648) (-1) c16 (i_rng x2) rfl
            exact gg_w (by omega) (gg_f (gf_cons rfl (gf_cons rfl (gf_cons rfl (gf_cons rfl gf_nil)))) (ct32 s  hI fr_rf ))
          · skip
            have i16 := z_ge 0 2147483647 c16 (i_rng x2) rfl
            refine g_iload_n 20 (gd rfl) rfl rfl ?_
            refine g_iconst 1 21 (gd rfl) rfl rfl ?_
            refine g_cmp_gt 24 32 (gd rfl) rfl rfl (fun c21 => ?_) (fun c21 => ?_)
            · skip
              have i21 := r_lt2 2 2147483647 c21 (in_c 1 rfl) i16 rfl
              exact gg_w (by omega) (gg_f (gf_cons rfl (gf_cons rfl (gf_cons rfl (gf_cons rfl gf_nil)))) (ct32 s  hI fr_rf ))
            · skip
              have i21 := r_le1 0 1 c21 i16 (in_c 1 rfl) rfl
              refine g_iload_n 25 (gd rfl) rfl rfl ?_
              refine g_if_lt 28 32 (gd rfl) rfl rfl (fun c25 => ?_) (fun c25 => ?_)
              · skip
                have i25 := z_lt (-2147483648) (-1) c25 (i_rng x3) rfl
                exact gg_w (by omega) (gg_f (gf_cons rfl (gf_cons rfl (gf_cons rfl (gf_cons rfl gf_nil)))) (ct32 s  hI fr_rf ))
              · skip
                have i25 := z_ge 0 2147483647 c25 (i_rng x3) rfl
                refine g_iconst 1 29 (gd rfl) rfl rfl ?_
                refine g_goto 33 (gd rfl) rfl ?_
                refine g_thr (E := am_IA) (y := yX11_allow) 36 (gd rfl) rfl rfl (Or.inl ⟨rfl, rfl, rfl⟩) (by omega) (Nat.le_of_ble_eq_true rfl) (Nat.le_of_ble_eq_true rfl) (Nat.le_of_ble_eq_true rfl) (fun c33 => ?_) (fun c33 => ?_)
                · skip
                  refine g_aload 38 (gd rfl) rfl rfl ?_
                  refine g_callv (X := _) (As := []) (r := []) (b := A 32) (q := 32) 41 (gd rfl) rfl rfl rfl rfl rfl (ww_o rfl) (Nat.le_of_ble_eq_true rfl) (Nat.zero_le _) (Nat.zero_le _) (k_106_32 (by omega) hI ) (fun e u h => h) (fun v u h => ?_)
                  obtain ⟨s38, hI38, hF38, n38, rfl, rfl⟩ := h
                  obtain ⟨z38a, e38⟩ : ∃ w, w = s38.2.2.1 32 4 := ⟨_, rfl⟩
                  have i38a := inv_F hI38 (-1) 4000 rfl e38
                  obtain ⟨z38b, e38a⟩ : ∃ w, w = s38.2.2.1 32 0 := ⟨_, rfl⟩
                  have i38b := inv_F hI38 0 4000 rfl e38a
                  rw [← (show z38a = s38.2.2.1 32 4 from e38)] at n38
                  rw [← (show z38b = s38.2.2.1 32 0 from e38a)] at n38
                  show GG _ _ _ _ _ _ _ _ [] _ _ _
                  refine g_iload_n 42 (gd rfl) rfl rfl ?_
                  refine g_if_ne 45 75 (gd rfl) rfl rfl (fun c42 => ?_) (fun c42 => ?_)
                  · skip
                    have i42 := z_ne 1 1 c42 i21 rfl
                    refine g_iload_n 76 (gd rfl) rfl rfl ?_
                    refine g_aload 78 (gd rfl) rfl rfl ?_
                    refine g_iload_n 79 (gd rfl) rfl rfl ?_
                    refine g_callv (X := _) (As := [.int x1]) (r := [.int x3]) (b := A 32) (q := 32) 82 (gd rfl) rfl rfl rfl rfl rfl (ww_o rfl) (Nat.le_of_ble_eq_true rfl) (mc := 0) (ms := 0) (Nat.zero_le _) (Nat.zero_le _) (P := fun v u => _) ?_ (fun e u h => h) (fun v u h => h)
                    intro po79 xx79 hp79 hx79
                    refine g_enter2 (k := 104) (N := 300) (by omega) rfl (Nat.le_of_ble_eq_true rfl) ?_
                    refine g_aload_n 1 (gd rfl) rfl rfl ?_
                    refine g_getA (q2 := 44) 4 (gd rfl) rfl rfl rfl rfl ?_
                    refine g_iload_n 5 (gd rfl) rfl rfl ?_
                    refine g_iconst 1 6 (gd rfl) rfl rfl ?_
                    refine g_iadd 7 (gd rfl) rfl (fun z79x6 e79x6 => ?_)
                    have i79x6 := in_add 1 32 e79x6 i9x9 (in_c 1 rfl) rfl rfl
                    refine g_iaload 8 (gd rfl) rfl (n := 33) rfl (in_ix i79x6 rfl) (fun z79x7 e79x7 => ?_)
                    have i79x7 := inv_I hI38 (n := 33) (t := 0) 0 160 rfl (in_ix i79x6 rfl) rfl e79x7
                    refine g_aload_n 9 (gd rfl) rfl rfl ?_
                    refine g_getA (q2 := 44) 12 (gd rfl) rfl rfl rfl rfl ?_
                    refine g_iload_n 13 (gd rfl) rfl rfl ?_
                    refine g_iaload 14 (gd rfl) rfl (n := 33) rfl (in_ix i9x9 rfl) (fun z79x13 e79x13 => ?_)
                    have i79x13 := inv_I hI38 (n := 33) (t := 0) 0 160 rfl (in_ix i9x9 rfl) rfl e79x13
                    refine g_isub 15 (gd rfl) rfl (fun z79x14 e79x14 => ?_)
                    have i79x14 := in_sub (-160) 160 e79x14 i79x7 i79x13 rfl rfl
                    refine g_ireturn (gd rfl) rfl rfl (hp79 _ _ ?_)
                    show GG _ _ _ _ _ _ _ _ [.int z79x14, .int x3] _ _ _
                    refine g_cmp_ge 85 103 (gd rfl) rfl rfl (fun c82 => ?_) (fun c82 => ?_)
                    · skip
                      refine g_iconst (-1) 104 (gd rfl) rfl rfl ?_
                      exact g_ireturn (gd rfl) rfl rfl (hP _ _ ⟨s38, hI38, (fr_tr rfl fr_rf hF38), (Int32.ofInt (-1)), rfl, rfl, in_w (-1) 159 (in_c (-1) rfl) rfl⟩)
                    · skip
                      have i82 := r_lt1 0 159 c82 i25 i79x14 rfl
                      have i82a := r_lt2 1 160 c82 i25 i79x14 rfl
                      refine g_aload 87 (gd rfl) rfl rfl ?_
                      refine g_getA (q2 := 45) 90 (gd rfl) rfl rfl rfl rfl ?_
                      refine g_aload 92 (gd rfl) rfl rfl ?_
                      refine g_getA (q2 := 44) 95 (gd rfl) rfl rfl rfl rfl ?_
                      refine g_iload_n 96 (gd rfl) rfl rfl ?_
                      refine g_iaload 97 (gd rfl) rfl (n := 33) rfl (in_ix i9x9 rfl) (fun z96 e96 => ?_)
                      have q96 : z79x13 = z96 := (e79x13).trans e96.symm
                      subst q96
                      refine g_iload_n 98 (gd rfl) rfl rfl ?_
                      refine g_iadd 99 (gd rfl) rfl (fun z98 e98 => ?_)
                      have i98 := in_add 0 319 e98 i79x13 i82 rfl rfl
                      have i99 : In z98 0 159 := by have a0 := i82; unfold In at a0; have a1 := i42; unfold In at a1; have a2 := i9x9; unfold In at a2; have a3 := i9x9a; unfold In at a3; have a4 := ro_2_1; unfold In at a4; have a5 := i1x5; unfold In at a5; have a6 := i38b; unfold In at a6; have a7 := i38a; unfold In at a7; have a8 := i98; unfold In at a8; have a9 := t_add e98 i79x13 i82 rfl; have a10 := i79x13; unfold In at a10; have a11 := i82a; unfold In at a11; have a12 := t_sub e79x14 i79x7 i79x13 rfl; have a13 := i79x7; unfold In at a13; have a14 := i79x6; unfold In at a14; have a15 := t_add e79x6 i9x9 (in_c 1 rfl) rfl; have a16 := (in_c 1 rfl); unfold In at a16; exact ⟨by omega, by omega⟩
                      refine g_iaload 100 (gd rfl) rfl (n := 160) rfl (in_ix i99 rfl) (fun z99 e99 => ?_)
                      have i99a := inv_I hI38 (n := 160) (t := 0) 0 159 rfl (in_ix i99 rfl) rfl e99
                      refine g_goto 104 (gd rfl) rfl ?_
                      exact g_ireturn (gd rfl) rfl rfl (hP _ _ ⟨s38, hI38, (fr_tr rfl fr_rf hF38), z99, rfl, rfl, in_w (-1) 159 i99a rfl⟩)
                  · skip
                    have i42 := z_eq 0 0 c42 i21 rfl
                    refine g_iload_n 46 (gd rfl) rfl rfl ?_
                    refine g_aload 48 (gd rfl) rfl rfl ?_
                    refine g_iload_n 49 (gd rfl) rfl rfl ?_
                    refine g_callv (X := _) (As := [.int x1]) (r := [.int x3]) (b := A 32) (q := 32) 52 (gd rfl) rfl rfl rfl rfl rfl (ww_o rfl) (Nat.le_of_ble_eq_true rfl) (mc := 0) (ms := 0) (Nat.zero_le _) (Nat.zero_le _) (P := fun v u => _) ?_ (fun e u h => h) (fun v u h => h)
                    intro po49 xx49 hp49 hx49
                    refine g_enter2 (k := 103) (N := 300) (by omega) rfl (Nat.le_of_ble_eq_true rfl) ?_
                    refine g_aload_n 1 (gd rfl) rfl rfl ?_
                    refine g_getA (q2 := 42) 4 (gd rfl) rfl rfl rfl rfl ?_
                    refine g_iload_n 5 (gd rfl) rfl rfl ?_
                    refine g_iconst 1 6 (gd rfl) rfl rfl ?_
                    refine g_iadd 7 (gd rfl) rfl (fun z49x6 e49x6 => ?_)
                    have i49x6 := in_add 1 32 e49x6 i9x9 (in_c 1 rfl) rfl rfl
                    refine g_iaload 8 (gd rfl) rfl (n := 33) rfl (in_ix i49x6 rfl) (fun z49x7 e49x7 => ?_)
                    have i49x7 := inv_I hI38 (n := 33) (t := 0) 0 160 rfl (in_ix i49x6 rfl) rfl e49x7
                    refine g_aload_n 9 (gd rfl) rfl rfl ?_
                    refine g_getA (q2 := 42) 12 (gd rfl) rfl rfl rfl rfl ?_
                    refine g_iload_n 13 (gd rfl) rfl rfl ?_
                    refine g_iaload 14 (gd rfl) rfl (n := 33) rfl (in_ix i9x9 rfl) (fun z49x13 e49x13 => ?_)
                    have i49x13 := inv_I hI38 (n := 33) (t := 0) 0 160 rfl (in_ix i9x9 rfl) rfl e49x13
                    refine g_isub 15 (gd rfl) rfl (fun z49x14 e49x14 => ?_)
                    have i49x14 := in_sub (-160) 160 e49x14 i49x7 i49x13 rfl rfl
                    refine g_ireturn (gd rfl) rfl rfl (hp49 _ _ ?_)
                    show GG _ _ _ _ _ _ _ _ [.int z49x14, .int x3] _ _ _
                    refine g_cmp_ge 55 73 (gd rfl) rfl rfl (fun c52 => ?_) (fun c52 => ?_)
                    · skip
                      refine g_iconst (-1) 74 (gd rfl) rfl rfl ?_
                      exact g_ireturn (gd rfl) rfl rfl (hP _ _ ⟨s38, hI38, (fr_tr rfl fr_rf hF38), (Int32.ofInt (-1)), rfl, rfl, in_w (-1) 159 (in_c (-1) rfl) rfl⟩)
                    · skip
                      have i52 := r_lt1 0 159 c52 i25 i49x14 rfl
                      have i52a := r_lt2 1 160 c52 i25 i49x14 rfl
                      refine g_aload 57 (gd rfl) rfl rfl ?_
                      refine g_getA (q2 := 43) 60 (gd rfl) rfl rfl rfl rfl ?_
                      refine g_aload 62 (gd rfl) rfl rfl ?_
                      refine g_getA (q2 := 42) 65 (gd rfl) rfl rfl rfl rfl ?_
                      refine g_iload_n 66 (gd rfl) rfl rfl ?_
                      refine g_iaload 67 (gd rfl) rfl (n := 33) rfl (in_ix i9x9 rfl) (fun z66 e66 => ?_)
                      have q66 : z49x13 = z66 := (e49x13).trans e66.symm
                      subst q66
                      refine g_iload_n 68 (gd rfl) rfl rfl ?_
                      refine g_iadd 69 (gd rfl) rfl (fun z68 e68 => ?_)
                      have i68 := in_add 0 319 e68 i49x13 i52 rfl rfl
                      have i69 : In z68 0 159 := by have a0 := i52; unfold In at a0; have a1 := i42; unfold In at a1; have a2 := i9x9; unfold In at a2; have a3 := i9x9a; unfold In at a3; have a4 := ro_2_1; unfold In at a4; have a5 := i1x5; unfold In at a5; have a6 := i38b; unfold In at a6; have a7 := i38a; unfold In at a7; have a8 := i68; unfold In at a8; have a9 := t_add e68 i49x13 i52 rfl; have a10 := i49x13; unfold In at a10; have a11 := i52a; unfold In at a11; have a12 := t_sub e49x14 i49x7 i49x13 rfl; have a13 := i49x7; unfold In at a13; have a14 := i49x6; unfold In at a14; have a15 := t_add e49x6 i9x9 (in_c 1 rfl) rfl; have a16 := (in_c 1 rfl); unfold In at a16; exact ⟨by omega, by omega⟩
                      refine g_iaload 70 (gd rfl) rfl (n := 160) rfl (in_ix i69 rfl) (fun z69 e69 => ?_)
                      have i69a := inv_I hI38 (n := 160) (t := 0) 0 159 rfl (in_ix i69 rfl) rfl e69
                      refine g_goto 74 (gd rfl) rfl ?_
                      exact g_ireturn (gd rfl) rfl rfl (hP _ _ ⟨s38, hI38, (fr_tr rfl fr_rf hF38), z69, rfl, rfl, in_w (-1) 159 i69a rfl⟩)
                · skip
                  exact zn_eq c33 (in_c 1 rfl) rfl
  · skip
    have i1x5 := r_eq1 (-1) (-1) c1x5 ro_0_2 (in_c (-1) rfl) rfl
    refine g_aload_n 9 (gd rfl) rfl rfl ?_
    refine g_getA (q2 := 1) 12 (gd rfl) rfl rfl rfl rfl ?_
    refine g_getA (q2 := 2) 15 (gd rfl) rfl rfl rfl rfl ?_
    refine g_goto 22 (gd rfl) rfl ?_
    refine g_areturn (gd rfl) rfl (hp1 _ _ ?_)
    show GG _ _ _ _ _ _ _ _ [.ref (A 2)] _ _ _
    refine g_astore 6 (gd rfl) rfl (Nat.le_of_ble_eq_true rfl) ?_
    refine g_aload 8 (gd rfl) rfl rfl ?_
    refine g_iload_n 9 (gd rfl) rfl rfl ?_
    refine g_callv (X := _) (As := [.int x1]) (r := []) (b := A 2) (q := 2) 12 (gd rfl) rfl rfl rfl rfl rfl (ww_o rfl) (Nat.le_of_ble_eq_true rfl) (mc := 0) (ms := 0) (Nat.zero_le _) (Nat.zero_le _) (P := fun v u => _) ?_ (fun e u h => h) (fun v u h => h)
    intro po9 xx9 hp9 hx9
    refine g_enter2 (k := 94) (N := 300) (by omega) rfl (Nat.le_of_ble_eq_true rfl) ?_
    refine g_iload_n 1 (gd rfl) rfl rfl ?_
    refine g_if_lt 4 16 (gd rfl) rfl rfl (fun c9x1 => ?_) (fun c9x1 => ?_)
    · skip
      have i9x1 := z_lt (-2147483648) (-1) c9x1 (i_rng x1) rfl
      refine g_iconst 0 17 (gd rfl) rfl rfl ?_
      refine g_ireturn (gd rfl) rfl (nb01 (in_w 0 1 (in_c 0 rfl) rfl)) (hp9 _ _ ?_)
      show GG _ _ _ _ _ _ _ _ [.int (Int32.ofInt 0)] _ _ _
      refine g_if_eq 15 32 (gd rfl) rfl rfl (fun c12 => ?_) (fun c12 => ?_)
      · skip
        exact gg_w (by omega) (gg_f (gf_cons rfl (gf_cons rfl (gf_cons rfl (gf_cons rfl gf_nil)))) (ct32 s  hI fr_rf ))
      · skip
        exact zn_ne c12 (in_c 0 rfl) rfl
    · skip
      have i9x1 := z_ge 0 2147483647 c9x1 (i_rng x1) rfl
      refine g_iload_n 5 (gd rfl) rfl rfl ?_
      refine g_aload_n 6 (gd rfl) rfl rfl ?_
      refine g_getI 9 (gd rfl) rfl rfl rfl (fun z9x6 e9x6 => ?_)
      have q9x6 : u_2_1 = z9x6 := (e_2_1).trans e9x6.symm
      subst q9x6
      refine g_cmp_ge 12 16 (gd rfl) rfl rfl (fun c9x9 => ?_) (fun c9x9 => ?_)
      · skip
        refine g_iconst 0 17 (gd rfl) rfl rfl ?_
        refine g_ireturn (gd rfl) rfl (nb01 (in_w 0 1 (in_c 0 rfl) rfl)) (hp9 _ _ ?_)
        show GG _ _ _ _ _ _ _ _ [.int (Int32.ofInt 0)] _ _ _
        refine g_if_eq 15 32 (gd rfl) rfl rfl (fun c12 => ?_) (fun c12 => ?_)
        · skip
          exact gg_w (by omega) (gg_f (gf_cons rfl (gf_cons rfl (gf_cons rfl (gf_cons rfl gf_nil)))) (ct32 s  hI fr_rf ))
        · skip
          exact zn_ne c12 (in_c 0 rfl) rfl
      · skip
        have i9x9 := r_lt1 0 31 c9x9 i9x1 ro_2_1 rfl
        have i9x9a := r_lt2 1 32 c9x9 i9x1 ro_2_1 rfl
        refine g_iconst 1 13 (gd rfl) rfl rfl ?_
        refine g_goto 17 (gd rfl) rfl ?_
        refine g_ireturn (gd rfl) rfl (nb01 (in_w 0 1 (in_c 1 rfl) rfl)) (hp9 _ _ ?_)
        show GG _ _ _ _ _ _ _ _ [.int (Int32.ofInt 1)] _ _ _
        refine g_if_eq 15 32 (gd rfl) rfl rfl (fun c12 => ?_) (fun c12 => ?_)
        · skip
          exact zn_eq c12 (in_c 1 rfl) rfl
        · skip
          refine g_iload_n 16 (gd rfl) rfl rfl ?_
          refine g_if_lt 19 32 (gd rfl) rfl rfl (fun c16 => ?_) (fun c16 => ?_)
          · skip
            have i16 := z_lt (-2147483648) (-1) c16 (i_rng x2) rfl
            exact gg_w (by omega) (gg_f (gf_cons rfl (gf_cons rfl (gf_cons rfl (gf_cons rfl gf_nil)))) (ct32 s  hI fr_rf ))
          · skip
            have i16 := z_ge 0 2147483647 c16 (i_rng x2) rfl
            refine g_iload_n 20 (gd rfl) rfl rfl ?_
            refine g_iconst 1 21 (gd rfl) rfl rfl ?_
            refine g_cmp_gt 24 32 (gd rfl) rfl rfl (fun c21 => ?_) (fun c21 => ?_)
            · skip
              have i21 := r_lt2 2 2147483647 c21 (in_c 1 rfl) i16 rfl
              exact gg_w (by omega) (gg_f (gf_cons rfl (gf_cons rfl (gf_cons rfl (gf_cons rfl gf_nil)))) (ct32 s  hI fr_rf ))
            · skip
              have i21 := r_le1 0 1 c21 i16 (in_c 1 rfl) rfl
              refine g_iload_n 25 (gd rfl) rfl rfl ?_
              refine g_if_lt 28 32 (gd rfl) rfl rfl (fun c25 => ?_) (fun c25 => ?_)
              · skip
                have i25 := z_lt (-2147483648) (-1) c25 (i_rng x3) rfl
                exact gg_w (by omega) (gg_f (gf_cons rfl (gf_cons rfl (gf_cons rfl (gf_cons rfl gf_nil)))) (ct32 s  hI fr_rf ))
              · skip
                have i25 := z_ge 0 2147483647 c25 (i_rng x3) rfl
                refine g_iconst 1 29 (gd rfl) rfl rfl ?_
                refine g_goto 33 (gd rfl) rfl ?_
                refine g_thr (E := am_IA) (y := yX11_allow) 36 (gd rfl) rfl rfl (Or.inl ⟨rfl, rfl, rfl⟩) (by omega) (Nat.le_of_ble_eq_true rfl) (Nat.le_of_ble_eq_true rfl) (Nat.le_of_ble_eq_true rfl) (fun c33 => ?_) (fun c33 => ?_)
                · skip
                  refine g_aload 38 (gd rfl) rfl rfl ?_
                  refine g_callv (X := _) (As := []) (r := []) (b := A 2) (q := 2) 41 (gd rfl) rfl rfl rfl rfl rfl (ww_o rfl) (Nat.le_of_ble_eq_true rfl) (Nat.zero_le _) (Nat.zero_le _) (k_106_2 (by omega) hI ) (fun e u h => h) (fun v u h => ?_)
                  obtain ⟨s38, hI38, hF38, n38, rfl, rfl⟩ := h
                  obtain ⟨z38a, e38⟩ : ∃ w, w = s38.2.2.1 2 4 := ⟨_, rfl⟩
                  have i38a := inv_F hI38 (-1) 4000 rfl e38
                  obtain ⟨z38b, e38a⟩ : ∃ w, w = s38.2.2.1 2 0 := ⟨_, rfl⟩
                  have i38b := inv_F hI38 0 4000 rfl e38a
                  rw [← (show z38a = s38.2.2.1 2 4 from e38)] at n38
                  rw [← (show z38b = s38.2.2.1 2 0 from e38a)] at n38
                  show GG _ _ _ _ _ _ _ _ [] _ _ _
                  refine g_iload_n 42 (gd rfl) rfl rfl ?_
                  refine g_if_ne 45 75 (gd rfl) rfl rfl (fun c42 => ?_) (fun c42 => ?_)
                  · skip
                    have i42 := z_ne 1 1 c42 i21 rfl
                    refine g_iload_n 76 (gd rfl) rfl rfl ?_
                    refine g_aload 78 (gd rfl) rfl rfl ?_
                    refine g_iload_n 79 (gd rfl) rfl rfl ?_
                    refine g_callv (X := _) (As := [.int x1]) (r := [.int x3]) (b := A 2) (q := 2) 82 (gd rfl) rfl rfl rfl rfl rfl (ww_o rfl) (Nat.le_of_ble_eq_true rfl) (mc := 0) (ms := 0) (Nat.zero_le _) (Nat.zero_le _) (P := fun v u => _) ?_ (fun e u h => h) (fun v u h => h)
                    intro po79 xx79 hp79 hx79
                    refine g_enter2 (k := 104) (N := 300) (by omega) rfl (Nat.le_of_ble_eq_true rfl) ?_
                    refine g_aload_n 1 (gd rfl) rfl rfl ?_
                    refine g_getA (q2 := 14) 4 (gd rfl) rfl rfl rfl rfl ?_
                    refine g_iload_n 5 (gd rfl) rfl rfl ?_
                    refine g_iconst 1 6 (gd rfl) rfl rfl ?_
                    refine g_iadd 7 (gd rfl) rfl (fun z79x6 e79x6 => ?_)
                    have i79x6 := in_add 1 32 e79x6 i9x9 (in_c 1 rfl) rfl rfl
                    refine g_iaload 8 (gd rfl) rfl (n := 33) rfl (in_ix i79x6 rfl) (fun z79x7 e79x7 => ?_)
                    have i79x7 := inv_I hI38 (n := 33) (t := 0) 0 160 rfl (in_ix i79x6 rfl) rfl e79x7
                    refine g_aload_n 9 (gd rfl) rfl rfl ?_
                    refine g_getA (q2 := 14) 12 (gd rfl) rfl rfl rfl rfl ?_
                    refine g_iload_n 13 (gd rfl) rfl rfl ?_
                    refine g_iaload 14 (gd rfl) rfl (n := 33) rfl (in_ix i9x9 rfl) (fun z79x13 e79x13 => ?_)
                    have i79x13 := inv_I hI38 (n := 33) (t := 0) 0 160 rfl (in_ix i9x9 rfl) rfl e79x13
                    refine g_isub 15 (gd rfl) rfl (fun z79x14 e79x14 => ?_)
                    have i79x14 := in_sub (-160) 160 e79x14 i79x7 i79x13 rfl rfl
                    refine g_ireturn (gd rfl) rfl rfl (hp79 _ _ ?_)
                    show GG _ _ _ _ _ _ _ _ [.int z79x14, .int x3] _ _ _
                    refine g_cmp_ge 85 103 (gd rfl) rfl rfl (fun c82 => ?_) (fun c82 => ?_)
                    · skip
                      refine g_iconst (-1) 104 (gd rfl) rfl rfl ?_
                      exact g_ireturn (gd rfl) rfl rfl (hP _ _ ⟨s38, hI38, (fr_tr rfl fr_rf hF38), (Int32.ofInt (-1)), rfl, rfl, in_w (-1) 159 (in_c (-1) rfl) rfl⟩)
                    · skip
                      have i82 := r_lt1 0 159 c82 i25 i79x14 rfl
                      have i82a := r_lt2 1 160 c82 i25 i79x14 rfl
                      refine g_aload 87 (gd rfl) rfl rfl ?_
                      refine g_getA (q2 := 15) 90 (gd rfl) rfl rfl rfl rfl ?_
                      refine g_aload 92 (gd rfl) rfl rfl ?_
                      refine g_getA (q2 := 14) 95 (gd rfl) rfl rfl rfl rfl ?_
                      refine g_iload_n 96 (gd rfl) rfl rfl ?_
                      refine g_iaload 97 (gd rfl) rfl (n := 33) rfl (in_ix i9x9 rfl) (fun z96 e96 => ?_)
                      have q96 : z79x13 = z96 := (e79x13).trans e96.symm
                      subst q96
                      refine g_iload_n 98 (gd rfl) rfl rfl ?_
                      refine g_iadd 99 (gd rfl) rfl (fun z98 e98 => ?_)
                      have i98 := in_add 0 319 e98 i79x13 i82 rfl rfl
                      have i99 : In z98 0 159 := by have a0 := i82; unfold In at a0; have a1 := i42; unfold In at a1; have a2 := i9x9; unfold In at a2; have a3 := ro_32_1; unfold In at a3; have a4 := i9x9a; unfold In at a4; have a5 := i1x5; unfold In at a5; have a6 := i38b; unfold In at a6; have a7 := i38a; unfold In at a7; have a8 := i98; unfold In at a8; have a9 := t_add e98 i79x13 i82 rfl; have a10 := i79x13; unfold In at a10; have a11 := i82a; unfold In at a11; have a12 := t_sub e79x14 i79x7 i79x13 rfl; have a13 := i79x7; unfold In at a13; have a14 := i79x6; unfold In at a14; have a15 := t_add e79x6 i9x9 (in_c 1 rfl) rfl; have a16 := (in_c 1 rfl); unfold In at a16; exact ⟨by omega, by omega⟩
                      refine g_iaload 100 (gd rfl) rfl (n := 160) rfl (in_ix i99 rfl) (fun z99 e99 => ?_)
                      have i99a := inv_I hI38 (n := 160) (t := 0) 0 159 rfl (in_ix i99 rfl) rfl e99
                      refine g_goto 104 (gd rfl) rfl ?_
                      exact g_ireturn (gd rfl) rfl rfl (hP _ _ ⟨s38, hI38, (fr_tr rfl fr_rf hF38), z99, rfl, rfl, in_w (-1) 159 i99a rfl⟩)
                  · skip
                    have i42 := z_eq 0 0 c42 i21 rfl
                    refine g_iload_n 46 (gd rfl) rfl rfl ?_
                    refine g_aload 48 (gd rfl) rfl rfl ?_
                    refine g_iload_n 49 (gd rfl) rfl rfl ?_
                    refine g_callv (X := _) (As := [.int x1]) (r := [.int x3]) (b := A 2) (q := 2) 52 (gd rfl) rfl rfl rfl rfl rfl (ww_o rfl) (Nat.le_of_ble_eq_true rfl) (mc := 0) (ms := 0) (Nat.zero_le _) (Nat.zero_le _) (P := fun v u => _) ?_ (fun e u h => h) (fun v u h => h)
                    intro po49 xx49 hp49 hx49
                    refine g_enter2 (k := 103) (N := 300) (by omega) rfl (Nat.le_of_ble_eq_true rfl) ?_
                    refine g_aload_n 1 (gd rfl) rfl rfl ?_
                    refine g_getA (q2 := 12) 4 (gd rfl) rfl rfl rfl rfl ?_
                    refine g_iload_n 5 (gd rfl) rfl rfl ?_
                    refine g_iconst 1 6 (gd rfl) rfl rfl ?_
                    refine g_iadd 7 (gd rfl) rfl (fun z49x6 e49x6 => ?_)
                    have i49x6 := in_add 1 32 e49x6 i9x9 (in_c 1 rfl) rfl rfl
                    refine g_iaload 8 (gd rfl) rfl (n := 33) rfl (in_ix i49x6 rfl) (fun z49x7 e49x7 => ?_)
                    have i49x7 := inv_I hI38 (n := 33) (t := 0) 0 160 rfl (in_ix i49x6 rfl) rfl e49x7
                    refine g_aload_n 9 (gd rfl) rfl rfl ?_
                    refine g_getA (q2 := 12) 12 (gd rfl) rfl rfl rfl rfl ?_
                    refine g_iload_n 13 (gd rfl) rfl rfl ?_
                    refine g_iaload 14 (gd rfl) rfl (n := 33) rfl (in_ix i9x9 rfl) (fun z49x13 e49x13 => ?_)
                    have i49x13 := inv_I hI38 (n := 33) (t := 0) 0 160 rfl (in_ix i9x9 rfl) rfl e49x13
                    refine g_isub 15 (gd rfl) rfl (fun z49x14 e49x14 => ?_)
                    have i49x14 := in_sub (-160) 160 e49x14 i49x7 i49x13 rfl rfl
                    refine g_ireturn (gd rfl) rfl rfl (hp49 _ _ ?_)
                    show GG _ _ _ _ _ _ _ _ [.int z49x14, .int x3] _ _ _
                    refine g_cmp_ge 55 73 (gd rfl) rfl rfl (fun c52 => ?_) (fun c52 => ?_)
                    · skip
                      refine g_iconst (-1) 74 (gd rfl) rfl rfl ?_
                      exact g_ireturn (gd rfl) rfl rfl (hP _ _ ⟨s38, hI38, (fr_tr rfl fr_rf hF38), (Int32.ofInt (-1)), rfl, rfl, in_w (-1) 159 (in_c (-1) rfl) rfl⟩)
                    · skip
                      have i52 := r_lt1 0 159 c52 i25 i49x14 rfl
                      have i52a := r_lt2 1 160 c52 i25 i49x14 rfl
                      refine g_aload 57 (gd rfl) rfl rfl ?_
                      refine g_getA (q2 := 13) 60 (gd rfl) rfl rfl rfl rfl ?_
                      refine g_aload 62 (gd rfl) rfl rfl ?_
                      refine g_getA (q2 := 12) 65 (gd rfl) rfl rfl rfl rfl ?_
                      refine g_iload_n 66 (gd rfl) rfl rfl ?_
                      refine g_iaload 67 (gd rfl) rfl (n := 33) rfl (in_ix i9x9 rfl) (fun z66 e66 => ?_)
                      have q66 : z49x13 = z66 := (e49x13).trans e66.symm
                      subst q66
                      refine g_iload_n 68 (gd rfl) rfl rfl ?_
                      refine g_iadd 69 (gd rfl) rfl (fun z68 e68 => ?_)
                      have i68 := in_add 0 319 e68 i49x13 i52 rfl rfl
                      have i69 : In z68 0 159 := by have a0 := i52; unfold In at a0; have a1 := i42; unfold In at a1; have a2 := i9x9; unfold In at a2; have a3 := ro_32_1; unfold In at a3; have a4 := i9x9a; unfold In at a4; have a5 := i1x5; unfold In at a5; have a6 := i38b; unfold In at a6; have a7 := i38a; unfold In at a7; have a8 := i68; unfold In at a8; have a9 := t_add e68 i49x13 i52 rfl; have a10 := i49x13; unfold In at a10; have a11 := i52a; unfold In at a11; have a12 := t_sub e49x14 i49x7 i49x13 rfl; have a13 := i49x7; unfold In at a13; have a14 := i49x6; unfold In at a14; have a15 := t_add e49x6 i9x9 (in_c 1 rfl) rfl; have a16 := (in_c 1 rfl); unfold In at a16; exact ⟨by omega, by omega⟩
                      refine g_iaload 70 (gd rfl) rfl (n := 160) rfl (in_ix i69 rfl) (fun z69 e69 => ?_)
                      have i69a := inv_I hI38 (n := 160) (t := 0) 0 159 rfl (in_ix i69 rfl) rfl e69
                      refine g_goto 74 (gd rfl) rfl ?_
                      exact g_ireturn (gd rfl) rfl rfl (hP _ _ ⟨s38, hI38, (fr_tr rfl fr_rf hF38), z69, rfl, rfl, in_w (-1) 159 i69a rfl⟩)
                · skip
                  exact zn_eq c33 (in_c 1 rfl) rfl

def fm_223_0 : FM := ([47], [], [(46, 1)], [])
def fm_224_0 : FM := ([], [], [(46, 1)], [])
def fm_226_0 : FM := ([], [], [], [])
/-- GraphHouse.fault -/
theorem k_226_0 {Z : AmZ} {A : Nat → Nat} {s : GS} {ex : va_W} {d : Nat} {x1 : Int32} (hd : 7 ≤ d) (hI : Inv s)  : GC Z d 226 [.ref (A 0), .int x1] (WW Z A s ++ ex) 3 18 (fun v u => ∃ t : GS, Inv t ∧ Fr fm_226_0 s t ∧ ∃ z : Int32, v = some (.int z) ∧ u = WW Z A t ++ ex ∧ In z (-1) 1000) (gE1 Z A ex fm_226_0 s) := by
  intro post xp hP hX
  obtain ⟨u_46_6, e_46_6⟩ : ∃ w, w = s.2.2.1 46 6 := ⟨_, rfl⟩
  have ro_46_6 := inv_F hI (-1) 5 rfl e_46_6
  obtain ⟨u_46_7, e_46_7⟩ : ∃ w, w = s.2.2.1 46 7 := ⟨_, rfl⟩
  have ro_46_7 := inv_F hI (-1) 1000 rfl e_46_7
  refine g_enter2 (k := 226) (N := 900) (by omega) rfl (Nat.le_of_ble_eq_true rfl) ?_
  refine g_iload_n 1 (gd rfl) rfl rfl ?_
  refine g_if_lt 4 13 (gd rfl) rfl rfl (fun c1 => ?_) (fun c1 => ?_)
  · skip
    have i1 := z_lt (-2147483648) (-1) c1 (i_rng x1) rfl
    refine g_iconst 0 14 (gd rfl) rfl rfl ?_
    refine g_thr (E := am_IA) (y := yX11_allow) 17 (gd rfl) rfl rfl (Or.inl ⟨rfl, rfl, rfl⟩) (by omega) (Nat.le_of_ble_eq_true rfl) (Nat.le_of_ble_eq_true rfl) (Nat.le_of_ble_eq_true rfl) (fun c14 => ?_) (fun c14 => ?_)
    · skip
      exact zn_ne c14 (in_c 0 rfl) rfl
    · skip
      exact (hX _ _ ⟨rfl, s, hI, fr_rf, rfl⟩)
  · skip
    have i1 := z_ge 0 2147483647 c1 (i_rng x1) rfl
    refine g_iload_n 5 (gd rfl) rfl rfl ?_
    refine g_iconst 1 6 (gd rfl) rfl rfl ?_
    refine g_cmp_gt 9 13 (gd rfl) rfl rfl (fun c6 => ?_) (fun c6 => ?_)
    · skip
      have i6 := r_lt2 2 2147483647 c6 (in_c 1 rfl) i1 rfl
      refine g_iconst 0 14 (gd rfl) rfl rfl ?_
      refine g_thr (E := am_IA) (y := yX11_allow) 17 (gd rfl) rfl rfl (Or.inl ⟨rfl, rfl, rfl⟩) (by omega) (Nat.le_of_ble_eq_true rfl) (Nat.le_of_ble_eq_true rfl) (Nat.le_of_ble_eq_true rfl) (fun c14 => ?_) (fun c14 => ?_)
      · skip
        exact zn_ne c14 (in_c 0 rfl) rfl
      · skip
        exact (hX _ _ ⟨rfl, s, hI, fr_rf, rfl⟩)
    · skip
      have i6 := r_le1 0 1 c6 i1 (in_c 1 rfl) rfl
      refine g_iconst 1 10 (gd rfl) rfl rfl ?_
      refine g_goto 14 (gd rfl) rfl ?_
      refine g_thr (E := am_IA) (y := yX11_allow) 17 (gd rfl) rfl rfl (Or.inl ⟨rfl, rfl, rfl⟩) (by omega) (Nat.le_of_ble_eq_true rfl) (Nat.le_of_ble_eq_true rfl) (Nat.le_of_ble_eq_true rfl) (fun c14 => ?_) (fun c14 => ?_)
      · skip
        refine g_iload_n 18 (gd rfl) rfl rfl ?_
        refine g_if_ne 21 31 (gd rfl) rfl rfl (fun c18 => ?_) (fun c18 => ?_)
        · skip
          have i18 := z_ne 1 1 c18 i6 rfl
          refine g_aload_n 32 (gd rfl) rfl rfl ?_
          refine g_getA (q2 := 46) 35 (gd rfl) rfl rfl rfl rfl ?_
          refine g_getI 38 (gd rfl) rfl rfl rfl (fun z35 e35 => ?_)
          have q35 : u_46_7 = z35 := (e_46_7).trans e35.symm
          subst q35
          exact g_ireturn (gd rfl) rfl rfl (hP _ _ ⟨s, hI, fr_rf, u_46_7, rfl, rfl, in_w (-1) 1000 ro_46_7 rfl⟩)
        · skip
          have i18 := z_eq 0 0 c18 i6 rfl
          refine g_aload_n 22 (gd rfl) rfl rfl ?_
          refine g_getA (q2 := 46) 25 (gd rfl) rfl rfl rfl rfl ?_
          refine g_getI 28 (gd rfl) rfl rfl rfl (fun z25 e25 => ?_)
          have q25 : u_46_6 = z25 := (e_46_6).trans e25.symm
          subst q25
          refine g_goto 38 (gd rfl) rfl ?_
          exact g_ireturn (gd rfl) rfl rfl (hP _ _ ⟨s, hI, fr_rf, u_46_6, rfl, rfl, in_w (-1) 1000 ro_46_6 rfl⟩)
      · skip
        exact zn_eq c14 (in_c 1 rfl) rfl

def fm_228_0 : FM := ([], [], [], [])
/-- GraphHouse.printed -/
theorem k_228_0 {Z : AmZ} {A : Nat → Nat} {s : GS} {ex : va_W} {d : Nat} {x1 : Int32} (hd : 7 ≤ d) (hI : Inv s)  : GC Z d 228 [.ref (A 0), .int x1] (WW Z A s ++ ex) 3 18 (fun v u => ∃ t : GS, Inv t ∧ Fr fm_228_0 s t ∧ ∃ z : Int32, v = some (.int z) ∧ u = WW Z A t ++ ex ∧ In z 0 65535) (gE1 Z A ex fm_228_0 s) := by
  intro post xp hP hX
  obtain ⟨u_46_9, e_46_9⟩ : ∃ w, w = s.2.2.1 46 9 := ⟨_, rfl⟩
  have ro_46_9 := inv_F hI 0 4608 rfl e_46_9
  refine g_enter2 (k := 228) (N := 900) (by omega) rfl (Nat.le_of_ble_eq_true rfl) ?_
  refine g_iload_n 1 (gd rfl) rfl rfl ?_
  refine g_if_lt 4 19 (gd rfl) rfl rfl (fun c1 => ?_) (fun c1 => ?_)
  · skip
    have i1 := z_lt (-2147483648) (-1) c1 (i_rng x1) rfl
    refine g_iconst 0 20 (gd rfl) rfl rfl ?_
    refine g_thr (E := am_IA) (y := yX11_allow) 23 (gd rfl) rfl rfl (Or.inl ⟨rfl, rfl, rfl⟩) (by omega) (Nat.le_of_ble_eq_true rfl) (Nat.le_of_ble_eq_true rfl) (Nat.le_of_ble_eq_true rfl) (fun c20 => ?_) (fun c20 => ?_)
    · skip
      exact zn_ne c20 (in_c 0 rfl) rfl
    · skip
      exact (hX _ _ ⟨rfl, s, hI, fr_rf, rfl⟩)
  · skip
    have i1 := z_ge 0 2147483647 c1 (i_rng x1) rfl
    refine g_iload_n 5 (gd rfl) rfl rfl ?_
    refine g_aload_n 6 (gd rfl) rfl rfl ?_
    refine g_getA (q2 := 46) 9 (gd rfl) rfl rfl rfl rfl ?_
    refine g_getI 12 (gd rfl) rfl rfl rfl (fun z9 e9 => ?_)
    have q9 : u_46_9 = z9 := (e_46_9).trans e9.symm
    subst q9
    refine g_cmp_ge 15 19 (gd rfl) rfl rfl (fun c12 => ?_) (fun c12 => ?_)
    · skip
      refine g_iconst 0 20 (gd rfl) rfl rfl ?_
      refine g_thr (E := am_IA) (y := yX11_allow) 23 (gd rfl) rfl rfl (Or.inl ⟨rfl, rfl, rfl⟩) (by omega) (Nat.le_of_ble_eq_true rfl) (Nat.le_of_ble_eq_true rfl) (Nat.le_of_ble_eq_true rfl) (fun c20 => ?_) (fun c20 => ?_)
      · skip
        exact zn_ne c20 (in_c 0 rfl) rfl
      · skip
        exact (hX _ _ ⟨rfl, s, hI, fr_rf, rfl⟩)
    · skip
      have i12 := r_lt1 0 4607 c12 i1 ro_46_9 rfl
      have i12a := r_lt2 1 4608 c12 i1 ro_46_9 rfl
      refine g_iconst 1 16 (gd rfl) rfl rfl ?_
      refine g_goto 20 (gd rfl) rfl ?_
      refine g_thr (E := am_IA) (y := yX11_allow) 23 (gd rfl) rfl rfl (Or.inl ⟨rfl, rfl, rfl⟩) (by omega) (Nat.le_of_ble_eq_true rfl) (Nat.le_of_ble_eq_true rfl) (Nat.le_of_ble_eq_true rfl) (fun c20 => ?_) (fun c20 => ?_)
      · skip
        refine g_aload_n 24 (gd rfl) rfl rfl ?_
        refine g_getA (q2 := 46) 27 (gd rfl) rfl rfl rfl rfl ?_
        refine g_getA (q2 := 48) 30 (gd rfl) rfl rfl rfl rfl ?_
        refine g_iload_n 31 (gd rfl) rfl rfl ?_
        refine g_caload 32 (gd rfl) rfl (n := 4608) rfl (in_ix i12 rfl) (fun z31 e31 => ?_)
        have i31 := inv_I hI (n := 4608) (t := 2) 0 65535 rfl (in_ix i12 rfl) rfl e31
        exact g_ireturn (gd rfl) rfl rfl (hP _ _ ⟨s, hI, fr_rf, z31, rfl, rfl, in_w 0 65535 i31 rfl⟩)
      · skip
        exact zn_eq c20 (in_c 1 rfl) rfl

def fm_239_0 : FM := ([9, 10, 11, 12, 13, 14, 15, 39, 40, 41, 42, 43, 44, 45], [], [(2, 4), (32, 4), (60, 0), (60, 1)], [])
/-- GraphHouse.clique -/
theorem k_239_0 {Z : AmZ} {A : Nat → Nat} {s : GS} {ex : va_W} {d : Nat} {x1 : Int32} (hd : 106 ≤ d) (hI : Inv s)  : GC Z d 239 [.ref (A 0), .int x1] (WW Z A s ++ ex) 3 18 (fun v u => ∃ t : GS, Inv t ∧ Fr fm_239_0 s t ∧ ∃ z : Int32, v = some (.int z) ∧ u = WW Z A t ++ ex ∧ In z (-1) 32) (gE1 Z A ex fm_239_0 s) := by
  intro post xp hP hX
  obtain ⟨u_0_2, e_0_2⟩ : ∃ w, w = s.2.2.1 0 2 := ⟨_, rfl⟩
  have ro_0_2 := inv_F hI (-1) 4000 rfl e_0_2
  obtain ⟨u_2_0, e_2_0⟩ : ∃ w, w = s.2.2.1 2 0 := ⟨_, rfl⟩
  have ro_2_0 := inv_F hI 0 4000 rfl e_2_0
  obtain ⟨u_2_1, e_2_1⟩ : ∃ w, w = s.2.2.1 2 1 := ⟨_, rfl⟩
  have ro_2_1 := inv_F hI 0 32 rfl e_2_1
  obtain ⟨u_32_0, e_32_0⟩ : ∃ w, w = s.2.2.1 32 0 := ⟨_, rfl⟩
  have ro_32_0 := inv_F hI 0 4000 rfl e_32_0
  obtain ⟨u_32_1, e_32_1⟩ : ∃ w, w = s.2.2.1 32 1 := ⟨_, rfl⟩
  have ro_32_1 := inv_F hI 0 32 rfl e_32_1
  have ct36 : ∀ (k36 : Nat) (sc36 : GS) (y36_2 : Int32) (y36_3 : Int32), Inv sc36 → Fr fm_239_0 s sc36 → (In x1 0 31) → (In y36_3 0 31) → 31 - (y36_3).toInt < (k36 : Int) → GG Z (d - 1) 239 post (gx xp) (1 + k36 * 900) 36 (fun j => xlook j [(0, .ref (A 0)), (1, .int x1), (2, .int y36_2), (3, .int y36_3)]) [] (WW Z A sc36 ++ ex) 2 12 := by
    intro k36
    induction k36 with
    | zero => intro sc36 y36_2 y36_3 hIc36 hFc36 j36_1 j36_3 mm36; exact m_no mm36 j36_3 rfl
    | succ k36 ih36 =>
      intro sc36 y36_2 y36_3 hIc36 hFc36 j36_1 j36_3 mm36
      refine gg_w (M := 1 + k36 * 900 + 900) (by omega) ?_
      refine g_iload_n 37 (gd rfl) rfl rfl ?_
      refine g_iload_n 38 (gd rfl) rfl rfl ?_
      refine g_cmp_ge 41 53 (gd rfl) rfl rfl (fun c38 => ?_) (fun c38 => ?_)
      · skip
        refine g_iload_n 54 (gd rfl) rfl rfl ?_
        refine g_calls (As := [.int y36_2]) (r := []) 57 (gd rfl) rfl rfl rfl rfl rfl (Nat.le_of_ble_eq_true rfl) (Nat.zero_le _) (Nat.zero_le _) (k_264 (by omega)) (fun v u h => ?_)
        obtain ⟨z54, rfl, rfl, i54, hb54⟩ := h
        show GG _ _ _ _ _ _ _ _ [.int z54] _ _ _
        exact g_ireturn (gd rfl) rfl rfl (hP _ _ ⟨sc36, hIc36, hFc36, z54, rfl, rfl, in_w (-1) 32 i54 rfl⟩)
      · skip
        have i38 := r_lt1 0 30 c38 j36_3 j36_1 rfl
        have i38a := r_lt2 1 31 c38 j36_3 j36_1 rfl
        refine g_iload_n 42 (gd rfl) rfl rfl ?_
        refine g_iload_n 43 (gd rfl) rfl rfl ?_
        refine g_iconst 1 44 (gd rfl) rfl rfl ?_
        refine g_isub 45 (gd rfl) rfl (fun z44 e44 => ?_)
        refine g_iand 46 (gd rfl) rfl (fun z45 e45 => ?_)
        refine g_istore_n 47 (gd rfl) rfl (Nat.le_of_ble_eq_true rfl) ?_
        refine g_iinc 50 (gd rfl) rfl rfl (Nat.le_of_ble_eq_true rfl) (fun z47 e47 => ?_)
        have i47 := in_add 1 31 e47 i38 (in_c 1 rfl) rfl rfl
        refine g_goto 36 (gd rfl) rfl ?_
        exact gg_w (by omega) (gg_f (gf_cons rfl (gf_cons rfl (gf_cons rfl (gf_cons rfl gf_nil)))) (ih36 sc36 z45 z47 hIc36 hFc36 (in_w 0 31 i38a rfl) (in_w 0 31 i47 rfl) (m_up mm36 (t_add e47 i38 (in_c 1 rfl) rfl) (in_w 1 1 (in_c 1 rfl) rfl))))
  refine g_enter2 (k := 239) (N := 29701) (by omega) rfl (Nat.le_of_ble_eq_true rfl) ?_
  refine g_iload_n 1 (gd rfl) rfl rfl ?_
  refine g_if_lt 4 8 (gd rfl) rfl rfl (fun c1 => ?_) (fun c1 => ?_)
  · skip
    have i1 := z_lt (-2147483648) (-1) c1 (i_rng x1) rfl
    refine g_iconst 0 9 (gd rfl) rfl rfl ?_
    refine g_thr (E := am_IA) (y := yX11_allow) 12 (gd rfl) rfl rfl (Or.inl ⟨rfl, rfl, rfl⟩) (by omega) (Nat.le_of_ble_eq_true rfl) (Nat.le_of_ble_eq_true rfl) (Nat.le_of_ble_eq_true rfl) (fun c9 => ?_) (fun c9 => ?_)
    · skip
      exact zn_ne c9 (in_c 0 rfl) rfl
    · skip
      exact (hX _ _ ⟨rfl, s, hI, fr_rf, rfl⟩)
  · skip
    have i1 := z_ge 0 2147483647 c1 (i_rng x1) rfl
    refine g_iconst 1 5 (gd rfl) rfl rfl ?_
    refine g_goto 9 (gd rfl) rfl ?_
    refine g_thr (E := am_IA) (y := yX11_allow) 12 (gd rfl) rfl rfl (Or.inl ⟨rfl, rfl, rfl⟩) (by omega) (Nat.le_of_ble_eq_true rfl) (Nat.le_of_ble_eq_true rfl) (Nat.le_of_ble_eq_true rfl) (fun c9 => ?_) (fun c9 => ?_)
    · skip
      refine g_aload_n 13 (gd rfl) rfl rfl ?_
      refine g_getA (q2 := 60) 16 (gd rfl) rfl rfl rfl rfl ?_
      refine g_aload_n 17 (gd rfl) rfl rfl ?_
      refine g_callv (X := _) (As := []) (r := [.ref (A 60)]) (b := A 0) (q := 0) 20 (gd rfl) rfl rfl rfl rfl rfl (ww_o rfl) (Nat.le_of_ble_eq_true rfl) (mc := 0) (ms := 0) (Nat.zero_le _) (Nat.zero_le _) (P := fun v u => _) ?_ (fun e u h => h) (fun v u h => h)
      intro po17 xx17 hp17 hx17
      refine g_enter2 (k := 259) (N := 300) (by omega) rfl (Nat.le_of_ble_eq_true rfl) ?_
      refine g_aload_n 1 (gd rfl) rfl rfl ?_
      refine g_getI 4 (gd rfl) rfl rfl rfl (fun z17x1 e17x1 => ?_)
      have q17x1 : u_0_2 = z17x1 := (e_0_2).trans e17x1.symm
      subst q17x1
      refine g_iconst (-1) 5 (gd rfl) rfl rfl ?_
      refine g_cmp_ne 8 18 (gd rfl) rfl rfl (fun c17x5 => ?_) (fun c17x5 => ?_)
      · skip
        have i17x5 := r_ne1 0 4000 c17x5 ro_0_2 (in_c (-1) rfl) rfl
        refine g_aload_n 19 (gd rfl) rfl rfl ?_
        refine g_getA (q2 := 32) 22 (gd rfl) rfl rfl rfl rfl ?_
        refine g_areturn (gd rfl) rfl (hp17 _ _ ?_)
        show GG _ _ _ _ _ _ _ _ [.ref (A 32), .ref (A 60)] _ _ _
        refine g_callv (X := _) (As := [.ref (A 32)]) (r := []) (b := A 60) (q := 60) 23 (gd rfl) rfl rfl rfl rfl rfl (ww_o rfl) (Nat.le_of_ble_eq_true rfl) (mc := 0) (ms := 0) (Nat.zero_le _) (Nat.zero_le _) (P := fun v u => _) ?_ (fun e u h => h) (fun v u h => h)
        intro po20 xx20 hp20 hx20
        refine g_enter2 (k := 41) (N := 300) (by omega) rfl (Nat.le_of_ble_eq_true rfl) ?_
        refine g_aload_n 1 (gd rfl) rfl rfl ?_
        refine g_getI 4 (gd rfl) rfl rfl rfl (fun z20x1 e20x1 => ?_)
        have i20x1 := inv_F hI (-1) 4000 rfl e20x1
        refine g_aload_n 5 (gd rfl) rfl rfl ?_
        refine g_getI 8 (gd rfl) rfl rfl rfl (fun z20x5 e20x5 => ?_)
        have q20x5 : u_32_0 = z20x5 := (e_32_0).trans e20x5.symm
        subst q20x5
        refine g_cmp_eq 11 42 (gd rfl) rfl rfl (fun c20x8 => ?_) (fun c20x8 => ?_)
        · skip
          have i20x8 := r_eq1 0 4000 c20x8 i20x1 ro_32_0 rfl
          refine g_aload_n 43 (gd rfl) rfl rfl ?_
          refine g_getI 46 (gd rfl) rfl rfl rfl (fun z20x43 e20x43 => ?_)
          refine g_ireturn (gd rfl) rfl rfl (hp20 _ _ ?_)
          show GG _ _ _ _ _ _ _ _ [.int z20x43] _ _ _
          refine g_istore_n 24 (gd rfl) rfl (Nat.le_of_ble_eq_true rfl) ?_
          refine g_iload_n 25 (gd rfl) rfl rfl ?_
          refine g_iload_n 26 (gd rfl) rfl rfl ?_
          refine g_calls (As := [.int z20x43]) (r := [.int x1]) 29 (gd rfl) rfl rfl rfl rfl rfl (Nat.le_of_ble_eq_true rfl) (Nat.zero_le _) (Nat.zero_le _) (k_414b (by omega) hI ) (fun v u h => ?_)
          obtain ⟨z26, rfl, rfl, i26⟩ := h
          show GG _ _ _ _ _ _ _ _ [.int z26, .int x1] _ _ _
          refine g_cmp_lt 32 34 (gd rfl) rfl rfl (fun c29 => ?_) (fun c29 => ?_)
          · skip
            have i29 := r_lt1 0 31 c29 i1 i26 rfl
            have i29a := r_lt2 1 32 c29 i1 i26 rfl
            refine g_iconst 0 35 (gd rfl) rfl rfl ?_
            refine g_istore_n 36 (gd rfl) rfl (Nat.le_of_ble_eq_true rfl) ?_
            exact gg_w (by omega) (gg_f (gf_cons rfl (gf_cons rfl (gf_cons rfl (gf_cons rfl gf_nil)))) (ct36 32 s z20x43 (Int32.ofInt 0) hI fr_rf (in_w 0 31 i29 rfl) (in_w 0 31 (in_c 0 rfl) rfl) (m_in 32 (in_w 0 31 (in_c 0 rfl) rfl) rfl)))
          · skip
            refine g_iconst (-1) 33 (gd rfl) rfl rfl ?_
            exact g_ireturn (gd rfl) rfl rfl (hP _ _ ⟨s, hI, fr_rf, (Int32.ofInt (-1)), rfl, rfl, in_w (-1) 32 (in_c (-1) rfl) rfl⟩)
        · skip
          refine g_aload_n 12 (gd rfl) rfl rfl ?_
          refine g_aload_n 13 (gd rfl) rfl rfl ?_
          refine g_getI 16 (gd rfl) rfl rfl rfl (fun z20x13 e20x13 => ?_)
          have q20x13 : u_32_0 = z20x13 := (e_32_0).trans e20x13.symm
          subst q20x13
          refine g_putI 19 (gd rfl) rfl rfl rfl rfl ?_
          have hI20x16 := inv_sF (q := 60) (j := 0) hI rfl (in_w (-1) 4000 ro_32_0 rfl)
          refine g_aload_n 20 (gd rfl) rfl rfl ?_
          refine g_callv (X := _) (As := []) (r := []) (b := A 32) (q := 32) 23 (gd rfl) rfl rfl rfl rfl rfl (ww_o rfl) (Nat.le_of_ble_eq_true rfl) (Nat.zero_le _) (Nat.zero_le _) (k_106_32 (by omega) hI20x16 ) (fun e u h => h) (fun v u h => ?_)
          obtain ⟨s20x20, hI20x20, hF20x20, n20x20, rfl, rfl⟩ := h
          obtain ⟨z20x20a, e20x20⟩ : ∃ w, w = s20x20.2.2.1 32 4 := ⟨_, rfl⟩
          have i20x20a := inv_F hI20x20 (-1) 4000 rfl e20x20
          rw [← (show z20x20a = s20x20.2.2.1 32 4 from e20x20)] at n20x20
          rw [← (show u_32_0 = s20x20.2.2.1 32 0 from fr_F (s := (sF s 60 0 u_32_0)) (sF_ne rfl (e_32_0)) hF20x20 rfl)] at n20x20
          show GG _ _ _ _ _ _ _ _ [] _ _ _
          refine g_aload_n 24 (gd rfl) rfl rfl ?_
          refine g_iconst 0 25 (gd rfl) rfl rfl ?_
          refine g_putI 28 (gd rfl) rfl rfl rfl rfl ?_
          have hI20x25 := inv_sF (q := 60) (j := 1) hI20x20 rfl (in_w (-2147483648) 2147483647 (in_c 0 rfl) rfl)
          refine g_aload_n 29 (gd rfl) rfl rfl ?_
          refine g_aload_n 30 (gd rfl) rfl rfl ?_
          refine g_getA (q2 := 39) 33 (gd rfl) rfl rfl rfl rfl ?_
          refine g_iconst 0 34 (gd rfl) rfl rfl ?_
          refine g_aload_n 35 (gd rfl) rfl rfl ?_
          refine g_callv (X := _) (As := []) (r := [.int (Int32.ofInt 0), .ref (A 39), .ref (A 60)]) (b := A 32) (q := 32) 38 (gd rfl) rfl rfl rfl rfl rfl (ww_o rfl) (Nat.le_of_ble_eq_true rfl) (mc := 0) (ms := 0) (Nat.zero_le _) (Nat.zero_le _) (P := fun v u => _) ?_ (fun e u h => h) (fun v u h => h)
          intro po20x35 xx20x35 hp20x35 hx20x35
          refine g_enter2 (k := 102) (N := 300) (by omega) rfl (Nat.le_of_ble_eq_true rfl) ?_
          refine g_aload_n 1 (gd rfl) rfl rfl ?_
          refine g_getI 4 (gd rfl) rfl rfl rfl (fun z20x35x1 e20x35x1 => ?_)
          have q20x35x1 : u_32_1 = z20x35x1 := (sF_ne rfl (fr_F (s := (sF s 60 0 u_32_0)) (sF_ne rfl (e_32_1)) hF20x20 rfl)).trans e20x35x1.symm
          subst q20x35x1
          refine g_bipush 32 6 (gd rfl) rfl rfl ?_
          refine g_cmp_lt 9 13 (gd rfl) rfl rfl (fun c20x35x6 => ?_) (fun c20x35x6 => ?_)
          · skip
            have i20x35x6 := r_lt1 0 31 c20x35x6 ro_32_1 (in_c 32 rfl) rfl
            refine g_iconst 1 14 (gd rfl) rfl rfl ?_
            refine g_aload_n 15 (gd rfl) rfl rfl ?_
            refine g_getI 18 (gd rfl) rfl rfl rfl (fun z20x35x15 e20x35x15 => ?_)
            have q20x35x15 : u_32_1 = z20x35x15 := (sF_ne rfl (fr_F (s := (sF s 60 0 u_32_0)) (sF_ne rfl (e_32_1)) hF20x20 rfl)).trans e20x35x15.symm
            subst q20x35x15
            refine g_ishl 19 (gd rfl) rfl (fun z20x35x18 e20x35x18 => ?_)
            refine g_iconst 1 20 (gd rfl) rfl rfl ?_
            refine g_isub 21 (gd rfl) rfl (fun z20x35x20 e20x35x20 => ?_)
            refine g_ireturn (gd rfl) rfl rfl (hp20x35 _ _ ?_)
            show GG _ _ _ _ _ _ _ _ [.int z20x35x20, .int (Int32.ofInt 0), .ref (A 39), .ref (A 60)] _ _ _
            refine g_iconst 0 39 (gd rfl) rfl rfl ?_
            refine g_callv (X := _) (As := [.ref (A 39), .int (Int32.ofInt 0), .int z20x35x20, .int (Int32.ofInt 0)]) (r := []) (b := A 60) (q := 60) 42 (gd rfl) rfl rfl rfl rfl rfl (ww_o rfl) (Nat.le_of_ble_eq_true rfl) (Nat.zero_le _) (Nat.zero_le _) (k_42_60_39 (by omega) hI20x25 (in_w 0 32 (in_c 0 rfl) rfl)) (fun e u h => h) (fun v u h => ?_)
            obtain ⟨s20x39, hI20x39, hF20x39, rfl, rfl⟩ := h
            show GG _ _ _ _ _ _ _ _ [] _ _ _
            refine g_aload_n 43 (gd rfl) rfl rfl ?_
            refine g_getI 46 (gd rfl) rfl rfl rfl (fun z20x43 e20x43 => ?_)
            refine g_ireturn (gd rfl) rfl rfl (hp20 _ _ ?_)
            show GG _ _ _ _ _ _ _ _ [.int z20x43] _ _ _
            refine g_istore_n 24 (gd rfl) rfl (Nat.le_of_ble_eq_true rfl) ?_
            refine g_iload_n 25 (gd rfl) rfl rfl ?_
            refine g_iload_n 26 (gd rfl) rfl rfl ?_
            refine g_calls (As := [.int z20x43]) (r := [.int x1]) 29 (gd rfl) rfl rfl rfl rfl rfl (Nat.le_of_ble_eq_true rfl) (Nat.zero_le _) (Nat.zero_le _) (k_414b (by omega) hI20x39 ) (fun v u h => ?_)
            obtain ⟨z26, rfl, rfl, i26⟩ := h
            show GG _ _ _ _ _ _ _ _ [.int z26, .int x1] _ _ _
            refine g_cmp_lt 32 34 (gd rfl) rfl rfl (fun c29 => ?_) (fun c29 => ?_)
            · skip
              have i29 := r_lt1 0 31 c29 i1 i26 rfl
              have i29a := r_lt2 1 32 c29 i1 i26 rfl
              refine g_iconst 0 35 (gd rfl) rfl rfl ?_
              refine g_istore_n 36 (gd rfl) rfl (Nat.le_of_ble_eq_true rfl) ?_
              exact gg_w (by omega) (gg_f (gf_cons rfl (gf_cons rfl (gf_cons rfl (gf_cons rfl gf_nil)))) (ct36 32 s20x39 z20x43 (Int32.ofInt 0) hI20x39 (fr_tr rfl (fr_sF rfl (fr_tr rfl (fr_sF rfl fr_rf) hF20x20)) hF20x39) (in_w 0 31 i29 rfl) (in_w 0 31 (in_c 0 rfl) rfl) (m_in 32 (in_w 0 31 (in_c 0 rfl) rfl) rfl)))
            · skip
              refine g_iconst (-1) 33 (gd rfl) rfl rfl ?_
              exact g_ireturn (gd rfl) rfl rfl (hP _ _ ⟨s20x39, hI20x39, (fr_tr rfl (fr_sF rfl (fr_tr rfl (fr_sF rfl fr_rf) hF20x20)) hF20x39), (Int32.ofInt (-1)), rfl, rfl, in_w (-1) 32 (in_c (-1) rfl) rfl⟩)
          · skip
            have i20x35x6 := r_le2 32 32 c20x35x6 (in_c 32 rfl) ro_32_1 rfl
            refine g_iconst (-1) 10 (gd rfl) rfl rfl ?_
            refine g_goto 21 (gd rfl) rfl ?_
            refine g_ireturn (gd rfl) rfl rfl (hp20x35 _ _ ?_)
            show GG _ _ _ _ _ _ _ _ [.int (Int32.ofInt (-1)), .int (Int32.ofInt 0), .ref (A 39), .ref (A 60)] _ _ _
            refine g_iconst 0 39 (gd rfl) rfl rfl ?_
            refine g_callv (X := _) (As := [.ref (A 39), .int (Int32.ofInt 0), .int (Int32.ofInt (-1)), .int (Int32.ofInt 0)]) (r := []) (b := A 60) (q := 60) 42 (gd rfl) rfl rfl rfl rfl rfl (ww_o rfl) (Nat.le_of_ble_eq_true rfl) (Nat.zero_le _) (Nat.zero_le _) (k_42_60_39 (by omega) hI20x25 (in_w 0 32 (in_c 0 rfl) rfl)) (fun e u h => h) (fun v u h => ?_)
            obtain ⟨s20x39, hI20x39, hF20x39, rfl, rfl⟩ := h
            show GG _ _ _ _ _ _ _ _ [] _ _ _
            refine g_aload_n 43 (gd rfl) rfl rfl ?_
            refine g_getI 46 (gd rfl) rfl rfl rfl (fun z20x43 e20x43 => ?_)
            refine g_ireturn (gd rfl) rfl rfl (hp20 _ _ ?_)
            show GG _ _ _ _ _ _ _ _ [.int z20x43] _ _ _
            refine g_istore_n 24 (gd rfl) rfl (Nat.le_of_ble_eq_true rfl) ?_
            refine g_iload_n 25 (gd rfl) rfl rfl ?_
            refine g_iload_n 26 (gd rfl) rfl rfl ?_
            refine g_calls (As := [.int z20x43]) (r := [.int x1]) 29 (gd rfl) rfl rfl rfl rfl rfl (Nat.le_of_ble_eq_true rfl) (Nat.zero_le _) (Nat.zero_le _) (k_414b (by omega) hI20x39 ) (fun v u h => ?_)
            obtain ⟨z26, rfl, rfl, i26⟩ := h
            show GG _ _ _ _ _ _ _ _ [.int z26, .int x1] _ _ _
            refine g_cmp_lt 32 34 (gd rfl) rfl rfl (fun c29 => ?_) (fun c29 => ?_)
            · skip
              have i29 := r_lt1 0 31 c29 i1 i26 rfl
              have i29a := r_lt2 1 32 c29 i1 i26 rfl
              refine g_iconst 0 35 (gd rfl) rfl rfl ?_
              refine g_istore_n 36 (gd rfl) rfl (Nat.le_of_ble_eq_true rfl) ?_
              exact gg_w (by omega) (gg_f (gf_cons rfl (gf_cons rfl (gf_cons rfl (gf_cons rfl gf_nil)))) (ct36 32 s20x39 z20x43 (Int32.ofInt 0) hI20x39 (fr_tr rfl (fr_sF rfl (fr_tr rfl (fr_sF rfl fr_rf) hF20x20)) hF20x39) (in_w 0 31 i29 rfl) (in_w 0 31 (in_c 0 rfl) rfl) (m_in 32 (in_w 0 31 (in_c 0 rfl) rfl) rfl)))
            · skip
              refine g_iconst (-1) 33 (gd rfl) rfl rfl ?_
              exact g_ireturn (gd rfl) rfl rfl (hP _ _ ⟨s20x39, hI20x39, (fr_tr rfl (fr_sF rfl (fr_tr rfl (fr_sF rfl fr_rf) hF20x20)) hF20x39), (Int32.ofInt (-1)), rfl, rfl, in_w (-1) 32 (in_c (-1) rfl) rfl⟩)
      · skip
        have i17x5 := r_eq1 (-1) (-1) c17x5 ro_0_2 (in_c (-1) rfl) rfl
        refine g_aload_n 9 (gd rfl) rfl rfl ?_
        refine g_getA (q2 := 1) 12 (gd rfl) rfl rfl rfl rfl ?_
        refine g_getA (q2 := 2) 15 (gd rfl) rfl rfl rfl rfl ?_
        refine g_goto 22 (gd rfl) rfl ?_
        refine g_areturn (gd rfl) rfl (hp17 _ _ ?_)
        show GG _ _ _ _ _ _ _ _ [.ref (A 2), .ref (A 60)] _ _ _
        refine g_callv (X := _) (As := [.ref (A 2)]) (r := []) (b := A 60) (q := 60) 23 (gd rfl) rfl rfl rfl rfl rfl (ww_o rfl) (Nat.le_of_ble_eq_true rfl) (mc := 0) (ms := 0) (Nat.zero_le _) (Nat.zero_le _) (P := fun v u => _) ?_ (fun e u h => h) (fun v u h => h)
        intro po20 xx20 hp20 hx20
        refine g_enter2 (k := 41) (N := 300) (by omega) rfl (Nat.le_of_ble_eq_true rfl) ?_
        refine g_aload_n 1 (gd rfl) rfl rfl ?_
        refine g_getI 4 (gd rfl) rfl rfl rfl (fun z20x1 e20x1 => ?_)
        have i20x1 := inv_F hI (-1) 4000 rfl e20x1
        refine g_aload_n 5 (gd rfl) rfl rfl ?_
        refine g_getI 8 (gd rfl) rfl rfl rfl (fun z20x5 e20x5 => ?_)
        have q20x5 : u_2_0 = z20x5 := (e_2_0).trans e20x5.symm
        subst q20x5
        refine g_cmp_eq 11 42 (gd rfl) rfl rfl (fun c20x8 => ?_) (fun c20x8 => ?_)
        · skip
          have i20x8 := r_eq1 0 4000 c20x8 i20x1 ro_2_0 rfl
          refine g_aload_n 43 (gd rfl) rfl rfl ?_
          refine g_getI 46 (gd rfl) rfl rfl rfl (fun z20x43 e20x43 => ?_)
          refine g_ireturn (gd rfl) rfl rfl (hp20 _ _ ?_)
          show GG _ _ _ _ _ _ _ _ [.int z20x43] _ _ _
          refine g_istore_n 24 (gd rfl) rfl (Nat.le_of_ble_eq_true rfl) ?_
          refine g_iload_n 25 (gd rfl) rfl rfl ?_
          refine g_iload_n 26 (gd rfl) rfl rfl ?_
          refine g_calls (As := [.int z20x43]) (r := [.int x1]) 29 (gd rfl) rfl rfl rfl rfl rfl (Nat.le_of_ble_eq_true rfl) (Nat.zero_le _) (Nat.zero_le _) (k_414b (by omega) hI ) (fun v u h => ?_)
          obtain ⟨z26, rfl, rfl, i26⟩ := h
          show GG _ _ _ _ _ _ _ _ [.int z26, .int x1] _ _ _
          refine g_cmp_lt 32 34 (gd rfl) rfl rfl (fun c29 => ?_) (fun c29 => ?_)
          · skip
            have i29 := r_lt1 0 31 c29 i1 i26 rfl
            have i29a := r_lt2 1 32 c29 i1 i26 rfl
            refine g_iconst 0 35 (gd rfl) rfl rfl ?_
            refine g_istore_n 36 (gd rfl) rfl (Nat.le_of_ble_eq_true rfl) ?_
            exact gg_w (by omega) (gg_f (gf_cons rfl (gf_cons rfl (gf_cons rfl (gf_cons rfl gf_nil)))) (ct36 32 s z20x43 (Int32.ofInt 0) hI fr_rf (in_w 0 31 i29 rfl) (in_w 0 31 (in_c 0 rfl) rfl) (m_in 32 (in_w 0 31 (in_c 0 rfl) rfl) rfl)))
          · skip
            refine g_iconst (-1) 33 (gd rfl) rfl rfl ?_
            exact g_ireturn (gd rfl) rfl rfl (hP _ _ ⟨s, hI, fr_rf, (Int32.ofInt (-1)), rfl, rfl, in_w (-1) 32 (in_c (-1) rfl) rfl⟩)
        · skip
          refine g_aload_n 12 (gd rfl) rfl rfl ?_
          refine g_aload_n 13 (gd rfl) rfl rfl ?_
          refine g_getI 16 (gd rfl) rfl rfl rfl (fun z20x13 e20x13 => ?_)
          have q20x13 : u_2_0 = z20x13 := (e_2_0).trans e20x13.symm
          subst q20x13
          refine g_putI 19 (gd rfl) rfl rfl rfl rfl ?_
          have hI20x16 := inv_sF (q := 60) (j := 0) hI rfl (in_w (-1) 4000 ro_2_0 rfl)
          refine g_aload_n 20 (gd rfl) rfl rfl ?_
          refine g_callv (X := _) (As := []) (r := []) (b := A 2) (q := 2) 23 (gd rfl) rfl rfl rfl rfl rfl (ww_o rfl) (Nat.le_of_ble_eq_true rfl) (Nat.zero_le _) (Nat.zero_le _) (k_106_2 (by omega) hI20x16 ) (fun e u h => h) (fun v u h => ?_)
          obtain ⟨s20x20, hI20x20, hF20x20, n20x20, rfl, rfl⟩ := h
          obtain ⟨z20x20a, e20x20⟩ : ∃ w, w = s20x20.2.2.1 2 4 := ⟨_, rfl⟩
          have i20x20a := inv_F hI20x20 (-1) 4000 rfl e20x20
          rw [← (show z20x20a = s20x20.2.2.1 2 4 from e20x20)] at n20x20
          rw [← (show u_2_0 = s20x20.2.2.1 2 0 from fr_F (s := (sF s 60 0 u_2_0)) (sF_ne rfl (e_2_0)) hF20x20 rfl)] at n20x20
          show GG _ _ _ _ _ _ _ _ [] _ _ _
          refine g_aload_n 24 (gd rfl) rfl rfl ?_
          refine g_iconst 0 25 (gd rfl) rfl rfl ?_
          refine g_putI 28 (gd rfl) rfl rfl rfl rfl ?_
          have hI20x25 := inv_sF (q := 60) (j := 1) hI20x20 rfl (in_w (-2147483648) 2147483647 (in_c 0 rfl) rfl)
          refine g_aload_n 29 (gd rfl) rfl rfl ?_
          refine g_aload_n 30 (gd rfl) rfl rfl ?_
          refine g_getA (q2 := 9) 33 (gd rfl) rfl rfl rfl rfl ?_
          refine g_iconst 0 34 (gd rfl) rfl rfl ?_
          refine g_aload_n 35 (gd rfl) rfl rfl ?_
          refine g_callv (X := _) (As := []) (r := [.int (Int32.ofInt 0), .ref (A 9), .ref (A 60)]) (b := A 2) (q := 2) 38 (gd rfl) rfl rfl rfl rfl rfl (ww_o rfl) (Nat.le_of_ble_eq_true rfl) (mc := 0) (ms := 0) (Nat.zero_le _) (Nat.zero_le _) (P := fun v u => _) ?_ (fun e u h => h) (fun v u h => h)
          intro po20x35 xx20x35 hp20x35 hx20x35
          refine g_enter2 (k := 102) (N := 300) (by omega) rfl (Nat.le_of_ble_eq_true rfl) ?_
          refine g_aload_n 1 (gd rfl) rfl rfl ?_
          refine g_getI 4 (gd rfl) rfl rfl rfl (fun z20x35x1 e20x35x1 => ?_)
          have q20x35x1 : u_2_1 = z20x35x1 := (sF_ne rfl (fr_F (s := (sF s 60 0 u_2_0)) (sF_ne rfl (e_2_1)) hF20x20 rfl)).trans e20x35x1.symm
          subst q20x35x1
          refine g_bipush 32 6 (gd rfl) rfl rfl ?_
          refine g_cmp_lt 9 13 (gd rfl) rfl rfl (fun c20x35x6 => ?_) (fun c20x35x6 => ?_)
          · skip
            have i20x35x6 := r_lt1 0 31 c20x35x6 ro_2_1 (in_c 32 rfl) rfl
            refine g_iconst 1 14 (gd rfl) rfl rfl ?_
            refine g_aload_n 15 (gd rfl) rfl rfl ?_
            refine g_getI 18 (gd rfl) rfl rfl rfl (fun z20x35x15 e20x35x15 => ?_)
            have q20x35x15 : u_2_1 = z20x35x15 := (sF_ne rfl (fr_F (s := (sF s 60 0 u_2_0)) (sF_ne rfl (e_2_1)) hF20x20 rfl)).trans e20x35x15.symm
            subst q20x35x15
            refine g_ishl 19 (gd rfl) rfl (fun z20x35x18 e20x35x18 => ?_)
            refine g_iconst 1 20 (gd rfl) rfl rfl ?_
            refine g_isub 21 (gd rfl) rfl (fun z20x35x20 e20x35x20 => ?_)
            refine g_ireturn (gd rfl) rfl rfl (hp20x35 _ _ ?_)
            show GG _ _ _ _ _ _ _ _ [.int z20x35x20, .int (Int32.ofInt 0), .ref (A 9), .ref (A 60)] _ _ _
            refine g_iconst 0 39 (gd rfl) rfl rfl ?_
            refine g_callv (X := _) (As := [.ref (A 9), .int (Int32.ofInt 0), .int z20x35x20, .int (Int32.ofInt 0)]) (r := []) (b := A 60) (q := 60) 42 (gd rfl) rfl rfl rfl rfl rfl (ww_o rfl) (Nat.le_of_ble_eq_true rfl) (Nat.zero_le _) (Nat.zero_le _) (k_42_60_9 (by omega) hI20x25 (in_w 0 32 (in_c 0 rfl) rfl)) (fun e u h => h) (fun v u h => ?_)
            obtain ⟨s20x39, hI20x39, hF20x39, rfl, rfl⟩ := h
            show GG _ _ _ _ _ _ _ _ [] _ _ _
            refine g_aload_n 43 (gd rfl) rfl rfl ?_
            refine g_getI 46 (gd rfl) rfl rfl rfl (fun z20x43 e20x43 => ?_)
            refine g_ireturn (gd rfl) rfl rfl (hp20 _ _ ?_)
            show GG _ _ _ _ _ _ _ _ [.int z20x43] _ _ _
            refine g_istore_n 24 (gd rfl) rfl (Nat.le_of_ble_eq_true rfl) ?_
            refine g_iload_n 25 (gd rfl) rfl rfl ?_
            refine g_iload_n 26 (gd rfl) rfl rfl ?_
            refine g_calls (As := [.int z20x43]) (r := [.int x1]) 29 (gd rfl) rfl rfl rfl rfl rfl (Nat.le_of_ble_eq_true rfl) (Nat.zero_le _) (Nat.zero_le _) (k_414b (by omega) hI20x39 ) (fun v u h => ?_)
            obtain ⟨z26, rfl, rfl, i26⟩ := h
            show GG _ _ _ _ _ _ _ _ [.int z26, .int x1] _ _ _
            refine g_cmp_lt 32 34 (gd rfl) rfl rfl (fun c29 => ?_) (fun c29 => ?_)
            · skip
              have i29 := r_lt1 0 31 c29 i1 i26 rfl
              have i29a := r_lt2 1 32 c29 i1 i26 rfl
              refine g_iconst 0 35 (gd rfl) rfl rfl ?_
              refine g_istore_n 36 (gd rfl) rfl (Nat.le_of_ble_eq_true rfl) ?_
              exact gg_w (by omega) (gg_f (gf_cons rfl (gf_cons rfl (gf_cons rfl (gf_cons rfl gf_nil)))) (ct36 32 s20x39 z20x43 (Int32.ofInt 0) hI20x39 (fr_tr rfl (fr_sF rfl (fr_tr rfl (fr_sF rfl fr_rf) hF20x20)) hF20x39) (in_w 0 31 i29 rfl) (in_w 0 31 (in_c 0 rfl) rfl) (m_in 32 (in_w 0 31 (in_c 0 rfl) rfl) rfl)))
            · skip
              refine g_iconst (-1) 33 (gd rfl) rfl rfl ?_
              exact g_ireturn (gd rfl) rfl rfl (hP _ _ ⟨s20x39, hI20x39, (fr_tr rfl (fr_sF rfl (fr_tr rfl (fr_sF rfl fr_rf) hF20x20)) hF20x39), (Int32.ofInt (-1)), rfl, rfl, in_w (-1) 32 (in_c (-1) rfl) rfl⟩)
          · skip
            have i20x35x6 := r_le2 32 32 c20x35x6 (in_c 32 rfl) ro_2_1 rfl
            refine g_iconst (-1) 10 (gd rfl) rfl rfl ?_
            refine g_goto 21 (gd rfl) rfl ?_
            refine g_ireturn (gd rfl) rfl rfl (hp20x35 _ _ ?_)
            show GG _ _ _ _ _ _ _ _ [.int (Int32.ofInt (-1)), .int (Int32.ofInt 0), .ref (A 9), .ref (A 60)] _ _ _
            refine g_iconst 0 39 (gd rfl) rfl rfl ?_
            refine g_callv (X := _) (As := [.ref (A 9), .int (Int32.ofInt 0), .int (Int32.ofInt (-1)), .int (Int32.ofInt 0)]) (r := []) (b := A 60) (q := 60) 42 (gd rfl) rfl rfl rfl rfl rfl (ww_o rfl) (Nat.le_of_ble_eq_true rfl) (Nat.zero_le _) (Nat.zero_le _) (k_42_60_9 (by omega) hI20x25 (in_w 0 32 (in_c 0 rfl) rfl)) (fun e u h => h) (fun v u h => ?_)
            obtain ⟨s20x39, hI20x39, hF20x39, rfl, rfl⟩ := h
            show GG _ _ _ _ _ _ _ _ [] _ _ _
            refine g_aload_n 43 (gd rfl) rfl rfl ?_
            refine g_getI 46 (gd rfl) rfl rfl rfl (fun z20x43 e20x43 => ?_)
            refine g_ireturn (gd rfl) rfl rfl (hp20 _ _ ?_)
            show GG _ _ _ _ _ _ _ _ [.int z20x43] _ _ _
            refine g_istore_n 24 (gd rfl) rfl (Nat.le_of_ble_eq_true rfl) ?_
            refine g_iload_n 25 (gd rfl) rfl rfl ?_
            refine g_iload_n 26 (gd rfl) rfl rfl ?_
            refine g_calls (As := [.int z20x43]) (r := [.int x1]) 29 (gd rfl) rfl rfl rfl rfl rfl (Nat.le_of_ble_eq_true rfl) (Nat.zero_le _) (Nat.zero_le _) (k_414b (by omega) hI20x39 ) (fun v u h => ?_)
            obtain ⟨z26, rfl, rfl, i26⟩ := h
            show GG _ _ _ _ _ _ _ _ [.int z26, .int x1] _ _ _
            refine g_cmp_lt 32 34 (gd rfl) rfl rfl (fun c29 => ?_) (fun c29 => ?_)
            · skip
              have i29 := r_lt1 0 31 c29 i1 i26 rfl
              have i29a := r_lt2 1 32 c29 i1 i26 rfl
              refine g_iconst 0 35 (gd rfl) rfl rfl ?_
              refine g_istore_n 36 (gd rfl) rfl (Nat.le_of_ble_eq_true rfl) ?_
              exact gg_w (by omega) (gg_f (gf_cons rfl (gf_cons rfl (gf_cons rfl (gf_cons rfl gf_nil)))) (ct36 32 s20x39 z20x43 (Int32.ofInt 0) hI20x39 (fr_tr rfl (fr_sF rfl (fr_tr rfl (fr_sF rfl fr_rf) hF20x20)) hF20x39) (in_w 0 31 i29 rfl) (in_w 0 31 (in_c 0 rfl) rfl) (m_in 32 (in_w 0 31 (in_c 0 rfl) rfl) rfl)))
            · skip
              refine g_iconst (-1) 33 (gd rfl) rfl rfl ?_
              exact g_ireturn (gd rfl) rfl rfl (hP _ _ ⟨s20x39, hI20x39, (fr_tr rfl (fr_sF rfl (fr_tr rfl (fr_sF rfl fr_rf) hF20x20)) hF20x39), (Int32.ofInt (-1)), rfl, rfl, in_w (-1) 32 (in_c (-1) rfl) rfl⟩)
    · skip
      exact zn_eq c9 (in_c 1 rfl) rfl

def fm_252_0 : FM := ([9, 10, 11, 12, 13, 14, 15, 39, 40, 41, 42, 43, 44, 45], [], [(2, 4), (32, 4)], [])
/-- GraphHouse.figures -/
theorem k_252_0 {Z : AmZ} {A : Nat → Nat} {s : GS} {ex : va_W} {d : Nat} {x1 : Int32} (hd : 7 ≤ d) (hI : Inv s)  : GC Z d 252 [.ref (A 0), .int x1] (WW Z A s ++ ex) 3 18 (fun v u => ∃ t : GS, Inv t ∧ Fr fm_252_0 s t ∧ ∃ z : Int64, v = some (.long z) ∧ u = WW Z A t ++ ex) (gE1 Z A ex fm_252_0 s) := by
  intro post xp hP hX
  obtain ⟨u_0_2, e_0_2⟩ : ∃ w, w = s.2.2.1 0 2 := ⟨_, rfl⟩
  have ro_0_2 := inv_F hI (-1) 4000 rfl e_0_2
  refine g_enter2 (k := 252) (N := 900) (by omega) rfl (Nat.le_of_ble_eq_true rfl) ?_
  refine g_iload_n 1 (gd rfl) rfl rfl ?_
  refine g_if_lt 4 13 (gd rfl) rfl rfl (fun c1 => ?_) (fun c1 => ?_)
  · skip
    have i1 := z_lt (-2147483648) (-1) c1 (i_rng x1) rfl
    refine g_iconst 0 14 (gd rfl) rfl rfl ?_
    refine g_thr (E := am_IA) (y := yX11_allow) 17 (gd rfl) rfl rfl (Or.inl ⟨rfl, rfl, rfl⟩) (by omega) (Nat.le_of_ble_eq_true rfl) (Nat.le_of_ble_eq_true rfl) (Nat.le_of_ble_eq_true rfl) (fun c14 => ?_) (fun c14 => ?_)
    · skip
      exact zn_ne c14 (in_c 0 rfl) rfl
    · skip
      exact (hX _ _ ⟨rfl, s, hI, fr_rf, rfl⟩)
  · skip
    have i1 := z_ge 0 2147483647 c1 (i_rng x1) rfl
    refine g_iload_n 5 (gd rfl) rfl rfl ?_
    refine g_iconst 1 6 (gd rfl) rfl rfl ?_
    refine g_cmp_gt 9 13 (gd rfl) rfl rfl (fun c6 => ?_) (fun c6 => ?_)
    · skip
      have i6 := r_lt2 2 2147483647 c6 (in_c 1 rfl) i1 rfl
      refine g_iconst 0 14 (gd rfl) rfl rfl ?_
      refine g_thr (E := am_IA) (y := yX11_allow) 17 (gd rfl) rfl rfl (Or.inl ⟨rfl, rfl, rfl⟩) (by omega) (Nat.le_of_ble_eq_true rfl) (Nat.le_of_ble_eq_true rfl) (Nat.le_of_ble_eq_true rfl) (fun c14 => ?_) (fun c14 => ?_)
      · skip
        exact zn_ne c14 (in_c 0 rfl) rfl
      · skip
        exact (hX _ _ ⟨rfl, s, hI, fr_rf, rfl⟩)
    · skip
      have i6 := r_le1 0 1 c6 i1 (in_c 1 rfl) rfl
      refine g_iconst 1 10 (gd rfl) rfl rfl ?_
      refine g_goto 14 (gd rfl) rfl ?_
      refine g_thr (E := am_IA) (y := yX11_allow) 17 (gd rfl) rfl rfl (Or.inl ⟨rfl, rfl, rfl⟩) (by omega) (Nat.le_of_ble_eq_true rfl) (Nat.le_of_ble_eq_true rfl) (Nat.le_of_ble_eq_true rfl) (fun c14 => ?_) (fun c14 => ?_)
      · skip
        refine g_iload_n 18 (gd rfl) rfl rfl ?_
        refine g_if_ne 21 35 (gd rfl) rfl rfl (fun c18 => ?_) (fun c18 => ?_)
        · skip
          have i18 := z_ne 1 1 c18 i6 rfl
          refine g_aload_n 36 (gd rfl) rfl rfl ?_
          refine g_getA (q2 := 56) 39 (gd rfl) rfl rfl rfl rfl ?_
          refine g_aload_n 40 (gd rfl) rfl rfl ?_
          refine g_callv (X := _) (As := []) (r := [.ref (A 56)]) (b := A 0) (q := 0) 43 (gd rfl) rfl rfl rfl rfl rfl (ww_o rfl) (Nat.le_of_ble_eq_true rfl) (mc := 0) (ms := 0) (Nat.zero_le _) (Nat.zero_le _) (P := fun v u => _) ?_ (fun e u h => h) (fun v u h => h)
          intro po40 xx40 hp40 hx40
          refine g_enter2 (k := 259) (N := 300) (by omega) rfl (Nat.le_of_ble_eq_true rfl) ?_
          refine g_aload_n 1 (gd rfl) rfl rfl ?_
          refine g_getI 4 (gd rfl) rfl rfl rfl (fun z40x1 e40x1 => ?_)
          have q40x1 : u_0_2 = z40x1 := (e_0_2).trans e40x1.symm
          subst q40x1
          refine g_iconst (-1) 5 (gd rfl) rfl rfl ?_
          refine g_cmp_ne 8 18 (gd rfl) rfl rfl (fun c40x5 => ?_) (fun c40x5 => ?_)
          · skip
            have i40x5 := r_ne1 0 4000 c40x5 ro_0_2 (in_c (-1) rfl) rfl
            refine g_aload_n 19 (gd rfl) rfl rfl ?_
            refine g_getA (q2 := 32) 22 (gd rfl) rfl rfl rfl rfl ?_
            refine g_areturn (gd rfl) rfl (hp40 _ _ ?_)
            show GG _ _ _ _ _ _ _ _ [.ref (A 32), .ref (A 56)] _ _ _
            refine g_callv (X := _) (As := [.ref (A 32)]) (r := []) (b := A 56) (q := 56) 46 (gd rfl) rfl rfl rfl rfl rfl (ww_o rfl) (Nat.le_of_ble_eq_true rfl) (Nat.zero_le _) (Nat.zero_le _) (k_152_56_32 (by omega) hI ) (fun e u h => h) (fun v u h => ?_)
            obtain ⟨s43, hI43, hF43, z43, rfl, rfl⟩ := h
            show GG _ _ _ _ _ _ _ _ [.long z43] _ _ _
            exact g_lreturn (gd rfl) rfl (hP _ _ ⟨s43, hI43, (fr_tr rfl fr_rf hF43), z43, rfl, rfl⟩)
          · skip
            have i40x5 := r_eq1 (-1) (-1) c40x5 ro_0_2 (in_c (-1) rfl) rfl
            refine g_aload_n 9 (gd rfl) rfl rfl ?_
            refine g_getA (q2 := 1) 12 (gd rfl) rfl rfl rfl rfl ?_
            refine g_getA (q2 := 2) 15 (gd rfl) rfl rfl rfl rfl ?_
            refine g_goto 22 (gd rfl) rfl ?_
            refine g_areturn (gd rfl) rfl (hp40 _ _ ?_)
            show GG _ _ _ _ _ _ _ _ [.ref (A 2), .ref (A 56)] _ _ _
            refine g_callv (X := _) (As := [.ref (A 2)]) (r := []) (b := A 56) (q := 56) 46 (gd rfl) rfl rfl rfl rfl rfl (ww_o rfl) (Nat.le_of_ble_eq_true rfl) (Nat.zero_le _) (Nat.zero_le _) (k_152_56_2 (by omega) hI ) (fun e u h => h) (fun v u h => ?_)
            obtain ⟨s43, hI43, hF43, z43, rfl, rfl⟩ := h
            show GG _ _ _ _ _ _ _ _ [.long z43] _ _ _
            exact g_lreturn (gd rfl) rfl (hP _ _ ⟨s43, hI43, (fr_tr rfl fr_rf hF43), z43, rfl, rfl⟩)
        · skip
          have i18 := z_eq 0 0 c18 i6 rfl
          refine g_aload_n 22 (gd rfl) rfl rfl ?_
          refine g_getA (q2 := 56) 25 (gd rfl) rfl rfl rfl rfl ?_
          refine g_aload_n 26 (gd rfl) rfl rfl ?_
          refine g_callv (X := _) (As := []) (r := [.ref (A 56)]) (b := A 0) (q := 0) 29 (gd rfl) rfl rfl rfl rfl rfl (ww_o rfl) (Nat.le_of_ble_eq_true rfl) (mc := 0) (ms := 0) (Nat.zero_le _) (Nat.zero_le _) (P := fun v u => _) ?_ (fun e u h => h) (fun v u h => h)
          intro po26 xx26 hp26 hx26
          refine g_enter2 (k := 259) (N := 300) (by omega) rfl (Nat.le_of_ble_eq_true rfl) ?_
          refine g_aload_n 1 (gd rfl) rfl rfl ?_
          refine g_getI 4 (gd rfl) rfl rfl rfl (fun z26x1 e26x1 => ?_)
          have q26x1 : u_0_2 = z26x1 := (e_0_2).trans e26x1.symm
          subst q26x1
          refine g_iconst (-1) 5 (gd rfl) rfl rfl ?_
          refine g_cmp_ne 8 18 (gd rfl) rfl rfl (fun c26x5 => ?_) (fun c26x5 => ?_)
          · skip
            have i26x5 := r_ne1 0 4000 c26x5 ro_0_2 (in_c (-1) rfl) rfl
            refine g_aload_n 19 (gd rfl) rfl rfl ?_
            refine g_getA (q2 := 32) 22 (gd rfl) rfl rfl rfl rfl ?_
            refine g_areturn (gd rfl) rfl (hp26 _ _ ?_)
            show GG _ _ _ _ _ _ _ _ [.ref (A 32), .ref (A 56)] _ _ _
            refine g_callv (X := _) (As := [.ref (A 32)]) (r := []) (b := A 56) (q := 56) 32 (gd rfl) rfl rfl rfl rfl rfl (ww_o rfl) (Nat.le_of_ble_eq_true rfl) (Nat.zero_le _) (Nat.zero_le _) (k_151_56_32 (by omega) hI ) (fun e u h => h) (fun v u h => ?_)
            obtain ⟨s29, hI29, hF29, z29, rfl, rfl⟩ := h
            show GG _ _ _ _ _ _ _ _ [.long z29] _ _ _
            refine g_goto 46 (gd rfl) rfl ?_
            exact g_lreturn (gd rfl) rfl (hP _ _ ⟨s29, hI29, (fr_tr rfl fr_rf hF29), z29, rfl, rfl⟩)
          · skip
            have i26x5 := r_eq1 (-1) (-1) c26x5 ro_0_2 (in_c (-1) rfl) rfl
            refine g_aload_n 9 (gd rfl) rfl rfl ?_
            refine g_getA (q2 := 1) 12 (gd rfl) rfl rfl rfl rfl ?_
            refine g_getA (q2 := 2) 15 (gd rfl) rfl rfl rfl rfl ?_
            refine g_goto 22 (gd rfl) rfl ?_
            refine g_areturn (gd rfl) rfl (hp26 _ _ ?_)
            show GG _ _ _ _ _ _ _ _ [.ref (A 2), .ref (A 56)] _ _ _
            refine g_callv (X := _) (As := [.ref (A 2)]) (r := []) (b := A 56) (q := 56) 32 (gd rfl) rfl rfl rfl rfl rfl (ww_o rfl) (Nat.le_of_ble_eq_true rfl) (Nat.zero_le _) (Nat.zero_le _) (k_151_56_2 (by omega) hI ) (fun e u h => h) (fun v u h => ?_)
            obtain ⟨s29, hI29, hF29, z29, rfl, rfl⟩ := h
            show GG _ _ _ _ _ _ _ _ [.long z29] _ _ _
            refine g_goto 46 (gd rfl) rfl ?_
            exact g_lreturn (gd rfl) rfl (hP _ _ ⟨s29, hI29, (fr_tr rfl fr_rf hF29), z29, rfl, rfl⟩)
      · skip
        exact zn_eq c14 (in_c 1 rfl) rfl

def fm_257_0 : FM := ([], [], [], [])
/-- GraphHouse.state -/
theorem k_257_0 {Z : AmZ} {A : Nat → Nat} {s : GS} {ex : va_W} {d : Nat} {x1 : Int32} (hd : 7 ≤ d) (hI : Inv s)  : GC Z d 257 [.ref (A 0), .int x1] (WW Z A s ++ ex) 3 18 (fun v u => ∃ t : GS, Inv t ∧ Fr fm_257_0 s t ∧ ∃ z : Int64, v = some (.long z) ∧ u = WW Z A t ++ ex) (gE1 Z A ex fm_257_0 s) := by
  intro post xp hP hX
  obtain ⟨u_102_9, e_102_9⟩ : ∃ w, w = s.2.2.1 102 9 := ⟨_, rfl⟩
  have ro_102_9 := inv_F hI 0 32 rfl e_102_9
  refine g_enter2 (k := 257) (N := 900) (by omega) rfl (Nat.le_of_ble_eq_true rfl) ?_
  refine g_iload_n 1 (gd rfl) rfl rfl ?_
  refine g_if_lt 4 19 (gd rfl) rfl rfl (fun c1 => ?_) (fun c1 => ?_)
  · skip
    have i1 := z_lt (-2147483648) (-1) c1 (i_rng x1) rfl
    refine g_iconst 0 20 (gd rfl) rfl rfl ?_
    refine g_thr (E := am_IA) (y := yX11_allow) 23 (gd rfl) rfl rfl (Or.inl ⟨rfl, rfl, rfl⟩) (by omega) (Nat.le_of_ble_eq_true rfl) (Nat.le_of_ble_eq_true rfl) (Nat.le_of_ble_eq_true rfl) (fun c20 => ?_) (fun c20 => ?_)
    · skip
      exact zn_ne c20 (in_c 0 rfl) rfl
    · skip
      exact (hX _ _ ⟨rfl, s, hI, fr_rf, rfl⟩)
  · skip
    have i1 := z_ge 0 2147483647 c1 (i_rng x1) rfl
    refine g_iload_n 5 (gd rfl) rfl rfl ?_
    refine g_aload_n 6 (gd rfl) rfl rfl ?_
    refine g_getA (q2 := 102) 9 (gd rfl) rfl rfl rfl rfl ?_
    refine g_getI 12 (gd rfl) rfl rfl rfl (fun z9 e9 => ?_)
    have q9 : u_102_9 = z9 := (e_102_9).trans e9.symm
    subst q9
    refine g_cmp_ge 15 19 (gd rfl) rfl rfl (fun c12 => ?_) (fun c12 => ?_)
    · skip
      refine g_iconst 0 20 (gd rfl) rfl rfl ?_
      refine g_thr (E := am_IA) (y := yX11_allow) 23 (gd rfl) rfl rfl (Or.inl ⟨rfl, rfl, rfl⟩) (by omega) (Nat.le_of_ble_eq_true rfl) (Nat.le_of_ble_eq_true rfl) (Nat.le_of_ble_eq_true rfl) (fun c20 => ?_) (fun c20 => ?_)
      · skip
        exact zn_ne c20 (in_c 0 rfl) rfl
      · skip
        exact (hX _ _ ⟨rfl, s, hI, fr_rf, rfl⟩)
    · skip
      have i12 := r_lt1 0 31 c12 i1 ro_102_9 rfl
      have i12a := r_lt2 1 32 c12 i1 ro_102_9 rfl
      refine g_iconst 1 16 (gd rfl) rfl rfl ?_
      refine g_goto 20 (gd rfl) rfl ?_
      refine g_thr (E := am_IA) (y := yX11_allow) 23 (gd rfl) rfl rfl (Or.inl ⟨rfl, rfl, rfl⟩) (by omega) (Nat.le_of_ble_eq_true rfl) (Nat.le_of_ble_eq_true rfl) (Nat.le_of_ble_eq_true rfl) (fun c20 => ?_) (fun c20 => ?_)
      · skip
        refine g_aload_n 24 (gd rfl) rfl rfl ?_
        refine g_getA (q2 := 102) 27 (gd rfl) rfl rfl rfl rfl ?_
        refine g_getA (q2 := 107) 30 (gd rfl) rfl rfl rfl rfl ?_
        refine g_iload_n 31 (gd rfl) rfl rfl ?_
        refine g_laload 32 (gd rfl) rfl (n := 32) rfl (in_ix i12 rfl) (fun z31 e31 => ?_)
        exact g_lreturn (gd rfl) rfl (hP _ _ ⟨s, hI, fr_rf, z31, rfl, rfl⟩)
      · skip
        exact zn_eq c20 (in_c 1 rfl) rfl

def fm_258_0 : FM := ([], [], [], [])
/-- GraphHouse.letters -/
theorem k_258_0 {Z : AmZ} {A : Nat → Nat} {s : GS} {ex : va_W} {d : Nat} {x1 : Int32} (hd : 7 ≤ d) (hI : Inv s)  : GC Z d 258 [.ref (A 0), .int x1] (WW Z A s ++ ex) 3 18 (fun v u => ∃ t : GS, Inv t ∧ Fr fm_258_0 s t ∧ ∃ z : Int32, v = some (.int z) ∧ u = WW Z A t ++ ex ∧ In z (-2147483648) 2147483647) (gE1 Z A ex fm_258_0 s) := by
  intro post xp hP hX
  obtain ⟨u_102_10, e_102_10⟩ : ∃ w, w = s.2.2.1 102 10 := ⟨_, rfl⟩
  obtain ⟨u_102_11, e_102_11⟩ : ∃ w, w = s.2.2.1 102 11 := ⟨_, rfl⟩
  obtain ⟨u_102_12, e_102_12⟩ : ∃ w, w = s.2.2.1 102 12 := ⟨_, rfl⟩
  refine g_enter2 (k := 258) (N := 900) (by omega) rfl (Nat.le_of_ble_eq_true rfl) ?_
  refine g_iload_n 1 (gd rfl) rfl rfl ?_
  refine g_if_lt 4 13 (gd rfl) rfl rfl (fun c1 => ?_) (fun c1 => ?_)
  · skip
    have i1 := z_lt (-2147483648) (-1) c1 (i_rng x1) rfl
    refine g_iconst 0 14 (gd rfl) rfl rfl ?_
    refine g_thr (E := am_IA) (y := yX11_allow) 17 (gd rfl) rfl rfl (Or.inl ⟨rfl, rfl, rfl⟩) (by omega) (Nat.le_of_ble_eq_true rfl) (Nat.le_of_ble_eq_true rfl) (Nat.le_of_ble_eq_true rfl) (fun c14 => ?_) (fun c14 => ?_)
    · skip
      exact zn_ne c14 (in_c 0 rfl) rfl
    · skip
      exact (hX _ _ ⟨rfl, s, hI, fr_rf, rfl⟩)
  · skip
    have i1 := z_ge 0 2147483647 c1 (i_rng x1) rfl
    refine g_iload_n 5 (gd rfl) rfl rfl ?_
    refine g_iconst 2 6 (gd rfl) rfl rfl ?_
    refine g_cmp_gt 9 13 (gd rfl) rfl rfl (fun c6 => ?_) (fun c6 => ?_)
    · skip
      have i6 := r_lt2 3 2147483647 c6 (in_c 2 rfl) i1 rfl
      refine g_iconst 0 14 (gd rfl) rfl rfl ?_
      refine g_thr (E := am_IA) (y := yX11_allow) 17 (gd rfl) rfl rfl (Or.inl ⟨rfl, rfl, rfl⟩) (by omega) (Nat.le_of_ble_eq_true rfl) (Nat.le_of_ble_eq_true rfl) (Nat.le_of_ble_eq_true rfl) (fun c14 => ?_) (fun c14 => ?_)
      · skip
        exact zn_ne c14 (in_c 0 rfl) rfl
      · skip
        exact (hX _ _ ⟨rfl, s, hI, fr_rf, rfl⟩)
    · skip
      have i6 := r_le1 0 2 c6 i1 (in_c 2 rfl) rfl
      refine g_iconst 1 10 (gd rfl) rfl rfl ?_
      refine g_goto 14 (gd rfl) rfl ?_
      refine g_thr (E := am_IA) (y := yX11_allow) 17 (gd rfl) rfl rfl (Or.inl ⟨rfl, rfl, rfl⟩) (by omega) (Nat.le_of_ble_eq_true rfl) (Nat.le_of_ble_eq_true rfl) (Nat.le_of_ble_eq_true rfl) (fun c14 => ?_) (fun c14 => ?_)
      · skip
        refine g_iload_n 18 (gd rfl) rfl rfl ?_
        refine g_if_ne 21 29 (gd rfl) rfl rfl (fun c18 => ?_) (fun c18 => ?_)
        · skip
          have i18 := z_ne 1 2 c18 i6 rfl
          refine g_iload_n 30 (gd rfl) rfl rfl ?_
          refine g_iconst 1 31 (gd rfl) rfl rfl ?_
          refine g_cmp_ne 34 44 (gd rfl) rfl rfl (fun c31 => ?_) (fun c31 => ?_)
          · skip
            have i31 := r_ne1 2 2 c31 i18 (in_c 1 rfl) rfl
            refine g_aload_n 45 (gd rfl) rfl rfl ?_
            refine g_getA (q2 := 102) 48 (gd rfl) rfl rfl rfl rfl ?_
            refine g_getI 51 (gd rfl) rfl rfl rfl (fun z48 e48 => ?_)
            have q48 : u_102_12 = z48 := (e_102_12).trans e48.symm
            subst q48
            exact g_ireturn (gd rfl) rfl rfl (hP _ _ ⟨s, hI, fr_rf, u_102_12, rfl, rfl, in_w (-2147483648) 2147483647 (i_rng u_102_12) rfl⟩)
          · skip
            have i31 := r_eq1 1 1 c31 i18 (in_c 1 rfl) rfl
            refine g_aload_n 35 (gd rfl) rfl rfl ?_
            refine g_getA (q2 := 102) 38 (gd rfl) rfl rfl rfl rfl ?_
            refine g_getI 41 (gd rfl) rfl rfl rfl (fun z38 e38 => ?_)
            have q38 : u_102_11 = z38 := (e_102_11).trans e38.symm
            subst q38
            refine g_goto 51 (gd rfl) rfl ?_
            exact g_ireturn (gd rfl) rfl rfl (hP _ _ ⟨s, hI, fr_rf, u_102_11, rfl, rfl, in_w (-2147483648) 2147483647 (i_rng u_102_11) rfl⟩)
        · skip
          have i18 := z_eq 0 0 c18 i6 rfl
          refine g_aload_n 22 (gd rfl) rfl rfl ?_
          refine g_getA (q2 := 102) 25 (gd rfl) rfl rfl rfl rfl ?_
          refine g_getI 28 (gd rfl) rfl rfl rfl (fun z25 e25 => ?_)
          have q25 : u_102_10 = z25 := (e_102_10).trans e25.symm
          subst q25
          exact g_ireturn (gd rfl) rfl rfl (hP _ _ ⟨s, hI, fr_rf, u_102_10, rfl, rfl, in_w (-2147483648) 2147483647 (i_rng u_102_10) rfl⟩)
      · skip
        exact zn_eq c14 (in_c 1 rfl) rfl

/-- GraphHouse.flood -/
theorem k_266_9 {Z : AmZ} {A : Nat → Nat} {s : GS} {ex : va_W} {d : Nat} {X : AmX} {x1 : Int32} {x2 : Int32} (hd : 4 ≤ d) (hI : Inv s)  : GC Z d 266 [.ref (A 9), .int x1, .int x2] (WW Z A s ++ ex) 0 0 (fun v u => ∃ z : Int32, v = some (.int z) ∧ u = WW Z A s ++ ex ∧ In z (-2147483648) 2147483647 ∧ (∀ k, bt x1 k = true → bt z k = true)) X := by
  intro post xp hP hX
  have ct8 : ∀ (k8 : Nat) (y8_3 : Int32) (y8_4 : Int32) (y8_5 : Int32), (In y8_5 0 32) → (∀ k, bt x1 k = true → bt y8_3 k = true) → 32 - (y8_5).toInt < (k8 : Int) → GG Z (d - 1) 266 post (gx xp) (1 + k8 * 900) 8 (fun j => xlook j [(0, .ref (A 9)), (1, .int x1), (2, .int x2), (3, .int y8_3), (4, .int y8_4), (5, .int y8_5)]) [] (WW Z A s ++ ex) 0 0 := by
    intro k8
    induction k8 with
    | zero => intro y8_3 y8_4 y8_5 j8_5 g8_0 mm8; exact m_no mm8 j8_5 rfl
    | succ k8 ih8 =>
      intro y8_3 y8_4 y8_5 j8_5 g8_0 mm8
      refine gg_w (M := 1 + k8 * 900 + 900) (by omega) ?_
      refine g_iload 10 (gd rfl) rfl rfl ?_
      refine g_bipush 32 12 (gd rfl) rfl rfl ?_
      refine g_cmp_ge 15 62 (gd rfl) rfl rfl (fun c12 => ?_) (fun c12 => ?_)
      · skip
        have i12 := r_le2 32 32 c12 (in_c 32 rfl) j8_5 rfl
        refine g_iload_n 63 (gd rfl) rfl rfl ?_
        have n63 : ∀ k, bt x1 k = true → bt y8_3 k = true := by exact g8_0
        exact g_ireturn (gd rfl) rfl rfl (hP _ _ ⟨y8_3, rfl, rfl, in_w (-2147483648) 2147483647 (i_rng y8_3) rfl, n63⟩)
      · skip
        have i12 := r_lt1 0 31 c12 j8_5 (in_c 32 rfl) rfl
        refine g_iload 17 (gd rfl) rfl rfl ?_
        refine g_if_eq 20 62 (gd rfl) rfl rfl (fun c17 => ?_) (fun c17 => ?_)
        · skip
          have i17 := z_eq 0 0 c17 (i_rng y8_4) rfl
          refine g_iload_n 63 (gd rfl) rfl rfl ?_
          have n63 : ∀ k, bt x1 k = true → bt y8_3 k = true := by exact g8_0
          exact g_ireturn (gd rfl) rfl rfl (hP _ _ ⟨y8_3, rfl, rfl, in_w (-2147483648) 2147483647 (i_rng y8_3) rfl, n63⟩)
        · skip
          refine g_aload_n 21 (gd rfl) rfl rfl ?_
          refine g_iload 23 (gd rfl) rfl rfl ?_
          refine g_calls (As := [.int y8_4]) (r := [.ref (A 9)]) 26 (gd rfl) rfl rfl rfl rfl rfl (Nat.le_of_ble_eq_true rfl) (Nat.zero_le _) (Nat.zero_le _) (k_264n (by omega) c17) (fun v u h => ?_)
          obtain ⟨z23, rfl, rfl, i23, hb23, hl23⟩ := h
          show GG _ _ _ _ _ _ _ _ [.int z23, .ref (A 9)] _ _ _
          refine g_iaload 27 (gd rfl) rfl (n := 32) rfl (in_ix i23 rfl) (fun z26 e26 => ?_)
          refine g_iload_n 28 (gd rfl) rfl rfl ?_
          refine g_iand 29 (gd rfl) rfl (fun z28 e28 => ?_)
          refine g_iload_n 30 (gd rfl) rfl rfl ?_
          refine g_iconst (-1) 31 (gd rfl) rfl rfl ?_
          refine g_ixor 32 (gd rfl) rfl (fun z31 e31 => ?_)
          refine g_iand 33 (gd rfl) rfl (fun z32 e32 => ?_)
          refine g_istore 35 (gd rfl) rfl (Nat.le_of_ble_eq_true rfl) ?_
          refine g_iload 37 (gd rfl) rfl rfl ?_
          refine g_iload 39 (gd rfl) rfl rfl ?_
          refine g_iconst 1 40 (gd rfl) rfl rfl ?_
          refine g_isub 41 (gd rfl) rfl (fun z40 e40 => ?_)
          refine g_iand 42 (gd rfl) rfl (fun z41 e41 => ?_)
          refine g_istore 44 (gd rfl) rfl (Nat.le_of_ble_eq_true rfl) ?_
          refine g_iload 46 (gd rfl) rfl rfl ?_
          refine g_iload 48 (gd rfl) rfl rfl ?_
          refine g_ior 49 (gd rfl) rfl (fun z48 e48 => ?_)
          refine g_istore 51 (gd rfl) rfl (Nat.le_of_ble_eq_true rfl) ?_
          refine g_iload_n 52 (gd rfl) rfl rfl ?_
          refine g_iload 54 (gd rfl) rfl rfl ?_
          refine g_ior 55 (gd rfl) rfl (fun z54 e54 => ?_)
          refine g_istore_n 56 (gd rfl) rfl (Nat.le_of_ble_eq_true rfl) ?_
          refine g_iinc 59 (gd rfl) rfl rfl (Nat.le_of_ble_eq_true rfl) (fun z56 e56 => ?_)
          have i56 := in_add 1 32 e56 i12 (in_c 1 rfl) rfl rfl
          refine g_goto 8 (gd rfl) rfl ?_
          have n8 : ∀ k, bt x1 k = true → bt z54 k = true := by first | exact fun k h => h | exact fun k h => bt_orl e54 (g8_0 k h)
          exact gg_w (by omega) (gg_f (gf_cons rfl (gf_cons rfl (gf_cons rfl (gf_cons rfl (gf_cons rfl (gf_cons rfl gf_nil)))))) (ih8  z54 z48 z56  (in_w 0 32 i56 rfl) n8 (m_up mm8 (t_add e56 i12 (in_c 1 rfl) rfl) (in_w 1 1 (in_c 1 rfl) rfl))))
  refine g_enter2 (k := 266) (N := 30601) (by omega) rfl (Nat.le_of_ble_eq_true rfl) ?_
  refine g_iload_n 1 (gd rfl) rfl rfl ?_
  refine g_istore_n 2 (gd rfl) rfl (Nat.le_of_ble_eq_true rfl) ?_
  refine g_iload_n 3 (gd rfl) rfl rfl ?_
  refine g_istore 5 (gd rfl) rfl (Nat.le_of_ble_eq_true rfl) ?_
  refine g_iconst 0 6 (gd rfl) rfl rfl ?_
  refine g_istore 8 (gd rfl) rfl (Nat.le_of_ble_eq_true rfl) ?_
  have n8 : ∀ k, bt x1 k = true → bt x1 k = true := by first | exact fun k h => h | exact fun k h => bt_orl e54 (g8_0 k h)
  exact gg_w (by omega) (gg_f (gf_cons rfl (gf_cons rfl (gf_cons rfl (gf_cons rfl (gf_cons rfl (gf_cons rfl gf_nil)))))) (ct8 33  x1 x1 (Int32.ofInt 0)  (in_w 0 32 (in_c 0 rfl) rfl) n8 (m_in 33 (in_w 0 32 (in_c 0 rfl) rfl) rfl)))

/-- GraphHouse.flood -/
theorem k_266_11 {Z : AmZ} {A : Nat → Nat} {s : GS} {ex : va_W} {d : Nat} {X : AmX} {x1 : Int32} {x2 : Int32} (hd : 4 ≤ d) (hI : Inv s) (h2 : In x2 (-1) (-1)) : GC Z d 266 [.ref (A 11), .int x1, .int x2] (WW Z A s ++ ex) 0 0 (fun v u => ∃ z : Int32, v = some (.int z) ∧ u = WW Z A s ++ ex ∧ In z (-2147483648) 2147483647 ∧ (∀ k, bt x1 k = true → bt z k = true)) X := by
  intro post xp hP hX
  have ct8 : ∀ (k8 : Nat) (y8_3 : Int32) (y8_4 : Int32) (y8_5 : Int32), (In y8_5 0 32) → (∀ k, bt x1 k = true → bt y8_3 k = true) → 32 - (y8_5).toInt < (k8 : Int) → GG Z (d - 1) 266 post (gx xp) (1 + k8 * 900) 8 (fun j => xlook j [(0, .ref (A 11)), (1, .int x1), (2, .int x2), (3, .int y8_3), (4, .int y8_4), (5, .int y8_5)]) [] (WW Z A s ++ ex) 0 0 := by
    intro k8
    induction k8 with
    | zero => intro y8_3 y8_4 y8_5 j8_5 g8_0 mm8; exact m_no mm8 j8_5 rfl
    | succ k8 ih8 =>
      intro y8_3 y8_4 y8_5 j8_5 g8_0 mm8
      refine gg_w (M := 1 + k8 * 900 + 900) (by omega) ?_
      refine g_iload 10 (gd rfl) rfl rfl ?_
      refine g_bipush 32 12 (gd rfl) rfl rfl ?_
      refine g_cmp_ge 15 62 (gd rfl) rfl rfl (fun c12 => ?_) (fun c12 => ?_)
      · skip
        have i12 := r_le2 32 32 c12 (in_c 32 rfl) j8_5 rfl
        refine g_iload_n 63 (gd rfl) rfl rfl ?_
        have n63 : ∀ k, bt x1 k = true → bt y8_3 k = true := by exact g8_0
        exact g_ireturn (gd rfl) rfl rfl (hP _ _ ⟨y8_3, rfl, rfl, in_w (-2147483648) 2147483647 (i_rng y8_3) rfl, n63⟩)
      · skip
        have i12 := r_lt1 0 31 c12 j8_5 (in_c 32 rfl) rfl
        refine g_iload 17 (gd rfl) rfl rfl ?_
        refine g_if_eq 20 62 (gd rfl) rfl rfl (fun c17 => ?_) (fun c17 => ?_)
        · skip
          have i17 := z_eq 0 0 c17 (i_rng y8_4) rfl
          refine g_iload_n 63 (gd rfl) rfl rfl ?_
          have n63 : ∀ k, bt x1 k = true → bt y8_3 k = true := by exact g8_0
          exact g_ireturn (gd rfl) rfl rfl (hP _ _ ⟨y8_3, rfl, rfl, in_w (-2147483648) 2147483647 (i_rng y8_3) rfl, n63⟩)
        · skip
          refine g_aload_n 21 (gd rfl) rfl rfl ?_
          refine g_iload 23 (gd rfl) rfl rfl ?_
          refine g_calls (As := [.int y8_4]) (r := [.ref (A 11)]) 26 (gd rfl) rfl rfl rfl rfl rfl (Nat.le_of_ble_eq_true rfl) (Nat.zero_le _) (Nat.zero_le _) (k_264n (by omega) c17) (fun v u h => ?_)
          obtain ⟨z23, rfl, rfl, i23, hb23, hl23⟩ := h
          show GG _ _ _ _ _ _ _ _ [.int z23, .ref (A 11)] _ _ _
          refine g_iaload 27 (gd rfl) rfl (n := 32) rfl (in_ix i23 rfl) (fun z26 e26 => ?_)
          refine g_iload_n 28 (gd rfl) rfl rfl ?_
          refine g_iand 29 (gd rfl) rfl (fun z28 e28 => ?_)
          refine g_iload_n 30 (gd rfl) rfl rfl ?_
          refine g_iconst (-1) 31 (gd rfl) rfl rfl ?_
          refine g_ixor 32 (gd rfl) rfl (fun z31 e31 => ?_)
          refine g_iand 33 (gd rfl) rfl (fun z32 e32 => ?_)
          refine g_istore 35 (gd rfl) rfl (Nat.le_of_ble_eq_true rfl) ?_
          refine g_iload 37 (gd rfl) rfl rfl ?_
          refine g_iload 39 (gd rfl) rfl rfl ?_
          refine g_iconst 1 40 (gd rfl) rfl rfl ?_
          refine g_isub 41 (gd rfl) rfl (fun z40 e40 => ?_)
          refine g_iand 42 (gd rfl) rfl (fun z41 e41 => ?_)
          refine g_istore 44 (gd rfl) rfl (Nat.le_of_ble_eq_true rfl) ?_
          refine g_iload 46 (gd rfl) rfl rfl ?_
          refine g_iload 48 (gd rfl) rfl rfl ?_
          refine g_ior 49 (gd rfl) rfl (fun z48 e48 => ?_)
          refine g_istore 51 (gd rfl) rfl (Nat.le_of_ble_eq_true rfl) ?_
          refine g_iload_n 52 (gd rfl) rfl rfl ?_
          refine g_iload 54 (gd rfl) rfl rfl ?_
          refine g_ior 55 (gd rfl) rfl (fun z54 e54 => ?_)
          refine g_istore_n 56 (gd rfl) rfl (Nat.le_of_ble_eq_true rfl) ?_
          refine g_iinc 59 (gd rfl) rfl rfl (Nat.le_of_ble_eq_true rfl) (fun z56 e56 => ?_)
          have i56 := in_add 1 32 e56 i12 (in_c 1 rfl) rfl rfl
          refine g_goto 8 (gd rfl) rfl ?_
          have n8 : ∀ k, bt x1 k = true → bt z54 k = true := by first | exact fun k h => h | exact fun k h => bt_orl e54 (g8_0 k h)
          exact gg_w (by omega) (gg_f (gf_cons rfl (gf_cons rfl (gf_cons rfl (gf_cons rfl (gf_cons rfl (gf_cons rfl gf_nil)))))) (ih8  z54 z48 z56  (in_w 0 32 i56 rfl) n8 (m_up mm8 (t_add e56 i12 (in_c 1 rfl) rfl) (in_w 1 1 (in_c 1 rfl) rfl))))
  refine g_enter2 (k := 266) (N := 30601) (by omega) rfl (Nat.le_of_ble_eq_true rfl) ?_
  refine g_iload_n 1 (gd rfl) rfl rfl ?_
  refine g_istore_n 2 (gd rfl) rfl (Nat.le_of_ble_eq_true rfl) ?_
  refine g_iload_n 3 (gd rfl) rfl rfl ?_
  refine g_istore 5 (gd rfl) rfl (Nat.le_of_ble_eq_true rfl) ?_
  refine g_iconst 0 6 (gd rfl) rfl rfl ?_
  refine g_istore 8 (gd rfl) rfl (Nat.le_of_ble_eq_true rfl) ?_
  have n8 : ∀ k, bt x1 k = true → bt x1 k = true := by first | exact fun k h => h | exact fun k h => bt_orl e54 (g8_0 k h)
  exact gg_w (by omega) (gg_f (gf_cons rfl (gf_cons rfl (gf_cons rfl (gf_cons rfl (gf_cons rfl (gf_cons rfl gf_nil)))))) (ct8 33  x1 x1 (Int32.ofInt 0)  (in_w 0 32 (in_c 0 rfl) rfl) n8 (m_in 33 (in_w 0 32 (in_c 0 rfl) rfl) rfl)))

/-- GraphHouse.flood -/
theorem k_266_39 {Z : AmZ} {A : Nat → Nat} {s : GS} {ex : va_W} {d : Nat} {X : AmX} {x1 : Int32} {x2 : Int32} (hd : 4 ≤ d) (hI : Inv s)  : GC Z d 266 [.ref (A 39), .int x1, .int x2] (WW Z A s ++ ex) 0 0 (fun v u => ∃ z : Int32, v = some (.int z) ∧ u = WW Z A s ++ ex ∧ In z (-2147483648) 2147483647 ∧ (∀ k, bt x1 k = true → bt z k = true)) X := by
  intro post xp hP hX
  have ct8 : ∀ (k8 : Nat) (y8_3 : Int32) (y8_4 : Int32) (y8_5 : Int32), (In y8_5 0 32) → (∀ k, bt x1 k = true → bt y8_3 k = true) → 32 - (y8_5).toInt < (k8 : Int) → GG Z (d - 1) 266 post (gx xp) (1 + k8 * 900) 8 (fun j => xlook j [(0, .ref (A 39)), (1, .int x1), (2, .int x2), (3, .int y8_3), (4, .int y8_4), (5, .int y8_5)]) [] (WW Z A s ++ ex) 0 0 := by
    intro k8
    induction k8 with
    | zero => intro y8_3 y8_4 y8_5 j8_5 g8_0 mm8; exact m_no mm8 j8_5 rfl
    | succ k8 ih8 =>
      intro y8_3 y8_4 y8_5 j8_5 g8_0 mm8
      refine gg_w (M := 1 + k8 * 900 + 900) (by omega) ?_
      refine g_iload 10 (gd rfl) rfl rfl ?_
      refine g_bipush 32 12 (gd rfl) rfl rfl ?_
      refine g_cmp_ge 15 62 (gd rfl) rfl rfl (fun c12 => ?_) (fun c12 => ?_)
      · skip
        have i12 := r_le2 32 32 c12 (in_c 32 rfl) j8_5 rfl
        refine g_iload_n 63 (gd rfl) rfl rfl ?_
        have n63 : ∀ k, bt x1 k = true → bt y8_3 k = true := by exact g8_0
        exact g_ireturn (gd rfl) rfl rfl (hP _ _ ⟨y8_3, rfl, rfl, in_w (-2147483648) 2147483647 (i_rng y8_3) rfl, n63⟩)
      · skip
        have i12 := r_lt1 0 31 c12 j8_5 (in_c 32 rfl) rfl
        refine g_iload 17 (gd rfl) rfl rfl ?_
        refine g_if_eq 20 62 (gd rfl) rfl rfl (fun c17 => ?_) (fun c17 => ?_)
        · skip
          have i17 := z_eq 0 0 c17 (i_rng y8_4) rfl
          refine g_iload_n 63 (gd rfl) rfl rfl ?_
          have n63 : ∀ k, bt x1 k = true → bt y8_3 k = true := by exact g8_0
          exact g_ireturn (gd rfl) rfl rfl (hP _ _ ⟨y8_3, rfl, rfl, in_w (-2147483648) 2147483647 (i_rng y8_3) rfl, n63⟩)
        · skip
          refine g_aload_n 21 (gd rfl) rfl rfl ?_
          refine g_iload 23 (gd rfl) rfl rfl ?_
          refine g_calls (As := [.int y8_4]) (r := [.ref (A 39)]) 26 (gd rfl) rfl rfl rfl rfl rfl (Nat.le_of_ble_eq_true rfl) (Nat.zero_le _) (Nat.zero_le _) (k_264n (by omega) c17) (fun v u h => ?_)
          obtain ⟨z23, rfl, rfl, i23, hb23, hl23⟩ := h
          show GG _ _ _ _ _ _ _ _ [.int z23, .ref (A 39)] _ _ _
          refine g_iaload 27 (gd rfl) rfl (n := 32) rfl (in_ix i23 rfl) (fun z26 e26 => ?_)
          refine g_iload_n 28 (gd rfl) rfl rfl ?_
          refine g_iand 29 (gd rfl) rfl (fun z28 e28 => ?_)
          refine g_iload_n 30 (gd rfl) rfl rfl ?_
          refine g_iconst (-1) 31 (gd rfl) rfl rfl ?_
          refine g_ixor 32 (gd rfl) rfl (fun z31 e31 => ?_)
          refine g_iand 33 (gd rfl) rfl (fun z32 e32 => ?_)
          refine g_istore 35 (gd rfl) rfl (Nat.le_of_ble_eq_true rfl) ?_
          refine g_iload 37 (gd rfl) rfl rfl ?_
          refine g_iload 39 (gd rfl) rfl rfl ?_
          refine g_iconst 1 40 (gd rfl) rfl rfl ?_
          refine g_isub 41 (gd rfl) rfl (fun z40 e40 => ?_)
          refine g_iand 42 (gd rfl) rfl (fun z41 e41 => ?_)
          refine g_istore 44 (gd rfl) rfl (Nat.le_of_ble_eq_true rfl) ?_
          refine g_iload 46 (gd rfl) rfl rfl ?_
          refine g_iload 48 (gd rfl) rfl rfl ?_
          refine g_ior 49 (gd rfl) rfl (fun z48 e48 => ?_)
          refine g_istore 51 (gd rfl) rfl (Nat.le_of_ble_eq_true rfl) ?_
          refine g_iload_n 52 (gd rfl) rfl rfl ?_
          refine g_iload 54 (gd rfl) rfl rfl ?_
          refine g_ior 55 (gd rfl) rfl (fun z54 e54 => ?_)
          refine g_istore_n 56 (gd rfl) rfl (Nat.le_of_ble_eq_true rfl) ?_
          refine g_iinc 59 (gd rfl) rfl rfl (Nat.le_of_ble_eq_true rfl) (fun z56 e56 => ?_)
          have i56 := in_add 1 32 e56 i12 (in_c 1 rfl) rfl rfl
          refine g_goto 8 (gd rfl) rfl ?_
          have n8 : ∀ k, bt x1 k = true → bt z54 k = true := by first | exact fun k h => h | exact fun k h => bt_orl e54 (g8_0 k h)
          exact gg_w (by omega) (gg_f (gf_cons rfl (gf_cons rfl (gf_cons rfl (gf_cons rfl (gf_cons rfl (gf_cons rfl gf_nil)))))) (ih8  z54 z48 z56  (in_w 0 32 i56 rfl) n8 (m_up mm8 (t_add e56 i12 (in_c 1 rfl) rfl) (in_w 1 1 (in_c 1 rfl) rfl))))
  refine g_enter2 (k := 266) (N := 30601) (by omega) rfl (Nat.le_of_ble_eq_true rfl) ?_
  refine g_iload_n 1 (gd rfl) rfl rfl ?_
  refine g_istore_n 2 (gd rfl) rfl (Nat.le_of_ble_eq_true rfl) ?_
  refine g_iload_n 3 (gd rfl) rfl rfl ?_
  refine g_istore 5 (gd rfl) rfl (Nat.le_of_ble_eq_true rfl) ?_
  refine g_iconst 0 6 (gd rfl) rfl rfl ?_
  refine g_istore 8 (gd rfl) rfl (Nat.le_of_ble_eq_true rfl) ?_
  have n8 : ∀ k, bt x1 k = true → bt x1 k = true := by first | exact fun k h => h | exact fun k h => bt_orl e54 (g8_0 k h)
  exact gg_w (by omega) (gg_f (gf_cons rfl (gf_cons rfl (gf_cons rfl (gf_cons rfl (gf_cons rfl (gf_cons rfl gf_nil)))))) (ct8 33  x1 x1 (Int32.ofInt 0)  (in_w 0 32 (in_c 0 rfl) rfl) n8 (m_in 33 (in_w 0 32 (in_c 0 rfl) rfl) rfl)))

/-- GraphHouse.flood -/
theorem k_266_41 {Z : AmZ} {A : Nat → Nat} {s : GS} {ex : va_W} {d : Nat} {X : AmX} {x1 : Int32} {x2 : Int32} (hd : 4 ≤ d) (hI : Inv s) (h2 : In x2 (-1) (-1)) : GC Z d 266 [.ref (A 41), .int x1, .int x2] (WW Z A s ++ ex) 0 0 (fun v u => ∃ z : Int32, v = some (.int z) ∧ u = WW Z A s ++ ex ∧ In z (-2147483648) 2147483647 ∧ (∀ k, bt x1 k = true → bt z k = true)) X := by
  intro post xp hP hX
  have ct8 : ∀ (k8 : Nat) (y8_3 : Int32) (y8_4 : Int32) (y8_5 : Int32), (In y8_5 0 32) → (∀ k, bt x1 k = true → bt y8_3 k = true) → 32 - (y8_5).toInt < (k8 : Int) → GG Z (d - 1) 266 post (gx xp) (1 + k8 * 900) 8 (fun j => xlook j [(0, .ref (A 41)), (1, .int x1), (2, .int x2), (3, .int y8_3), (4, .int y8_4), (5, .int y8_5)]) [] (WW Z A s ++ ex) 0 0 := by
    intro k8
    induction k8 with
    | zero => intro y8_3 y8_4 y8_5 j8_5 g8_0 mm8; exact m_no mm8 j8_5 rfl
    | succ k8 ih8 =>
      intro y8_3 y8_4 y8_5 j8_5 g8_0 mm8
      refine gg_w (M := 1 + k8 * 900 + 900) (by omega) ?_
      refine g_iload 10 (gd rfl) rfl rfl ?_
      refine g_bipush 32 12 (gd rfl) rfl rfl ?_
      refine g_cmp_ge 15 62 (gd rfl) rfl rfl (fun c12 => ?_) (fun c12 => ?_)
      · skip
        have i12 := r_le2 32 32 c12 (in_c 32 rfl) j8_5 rfl
        refine g_iload_n 63 (gd rfl) rfl rfl ?_
        have n63 : ∀ k, bt x1 k = true → bt y8_3 k = true := by exact g8_0
        exact g_ireturn (gd rfl) rfl rfl (hP _ _ ⟨y8_3, rfl, rfl, in_w (-2147483648) 2147483647 (i_rng y8_3) rfl, n63⟩)
      · skip
        have i12 := r_lt1 0 31 c12 j8_5 (in_c 32 rfl) rfl
        refine g_iload 17 (gd rfl) rfl rfl ?_
        refine g_if_eq 20 62 (gd rfl) rfl rfl (fun c17 => ?_) (fun c17 => ?_)
        · skip
          have i17 := z_eq 0 0 c17 (i_rng y8_4) rfl
          refine g_iload_n 63 (gd rfl) rfl rfl ?_
          have n63 : ∀ k, bt x1 k = true → bt y8_3 k = true := by exact g8_0
          exact g_ireturn (gd rfl) rfl rfl (hP _ _ ⟨y8_3, rfl, rfl, in_w (-2147483648) 2147483647 (i_rng y8_3) rfl, n63⟩)
        · skip
          refine g_aload_n 21 (gd rfl) rfl rfl ?_
          refine g_iload 23 (gd rfl) rfl rfl ?_
          refine g_calls (As := [.int y8_4]) (r := [.ref (A 41)]) 26 (gd rfl) rfl rfl rfl rfl rfl (Nat.le_of_ble_eq_true rfl) (Nat.zero_le _) (Nat.zero_le _) (k_264n (by omega) c17) (fun v u h => ?_)
          obtain ⟨z23, rfl, rfl, i23, hb23, hl23⟩ := h
          show GG _ _ _ _ _ _ _ _ [.int z23, .ref (A 41)] _ _ _
          refine g_iaload 27 (gd rfl) rfl (n := 32) rfl (in_ix i23 rfl) (fun z26 e26 => ?_)
          refine g_iload_n 28 (gd rfl) rfl rfl ?_
          refine g_iand 29 (gd rfl) rfl (fun z28 e28 => ?_)
          refine g_iload_n 30 (gd rfl) rfl rfl ?_
          refine g_iconst (-1) 31 (gd rfl) rfl rfl ?_
          refine g_ixor 32 (gd rfl) rfl (fun z31 e31 => ?_)
          refine g_iand 33 (gd rfl) rfl (fun z32 e32 => ?_)
          refine g_istore 35 (gd rfl) rfl (Nat.le_of_ble_eq_true rfl) ?_
          refine g_iload 37 (gd rfl) rfl rfl ?_
          refine g_iload 39 (gd rfl) rfl rfl ?_
          refine g_iconst 1 40 (gd rfl) rfl rfl ?_
          refine g_isub 41 (gd rfl) rfl (fun z40 e40 => ?_)
          refine g_iand 42 (gd rfl) rfl (fun z41 e41 => ?_)
          refine g_istore 44 (gd rfl) rfl (Nat.le_of_ble_eq_true rfl) ?_
          refine g_iload 46 (gd rfl) rfl rfl ?_
          refine g_iload 48 (gd rfl) rfl rfl ?_
          refine g_ior 49 (gd rfl) rfl (fun z48 e48 => ?_)
          refine g_istore 51 (gd rfl) rfl (Nat.le_of_ble_eq_true rfl) ?_
          refine g_iload_n 52 (gd rfl) rfl rfl ?_
          refine g_iload 54 (gd rfl) rfl rfl ?_
          refine g_ior 55 (gd rfl) rfl (fun z54 e54 => ?_)
          refine g_istore_n 56 (gd rfl) rfl (Nat.le_of_ble_eq_true rfl) ?_
          refine g_iinc 59 (gd rfl) rfl rfl (Nat.le_of_ble_eq_true rfl) (fun z56 e56 => ?_)
          have i56 := in_add 1 32 e56 i12 (in_c 1 rfl) rfl rfl
          refine g_goto 8 (gd rfl) rfl ?_
          have n8 : ∀ k, bt x1 k = true → bt z54 k = true := by first | exact fun k h => h | exact fun k h => bt_orl e54 (g8_0 k h)
          exact gg_w (by omega) (gg_f (gf_cons rfl (gf_cons rfl (gf_cons rfl (gf_cons rfl (gf_cons rfl (gf_cons rfl gf_nil)))))) (ih8  z54 z48 z56  (in_w 0 32 i56 rfl) n8 (m_up mm8 (t_add e56 i12 (in_c 1 rfl) rfl) (in_w 1 1 (in_c 1 rfl) rfl))))
  refine g_enter2 (k := 266) (N := 30601) (by omega) rfl (Nat.le_of_ble_eq_true rfl) ?_
  refine g_iload_n 1 (gd rfl) rfl rfl ?_
  refine g_istore_n 2 (gd rfl) rfl (Nat.le_of_ble_eq_true rfl) ?_
  refine g_iload_n 3 (gd rfl) rfl rfl ?_
  refine g_istore 5 (gd rfl) rfl (Nat.le_of_ble_eq_true rfl) ?_
  refine g_iconst 0 6 (gd rfl) rfl rfl ?_
  refine g_istore 8 (gd rfl) rfl (Nat.le_of_ble_eq_true rfl) ?_
  have n8 : ∀ k, bt x1 k = true → bt x1 k = true := by first | exact fun k h => h | exact fun k h => bt_orl e54 (g8_0 k h)
  exact gg_w (by omega) (gg_f (gf_cons rfl (gf_cons rfl (gf_cons rfl (gf_cons rfl (gf_cons rfl (gf_cons rfl gf_nil)))))) (ct8 33  x1 x1 (Int32.ofInt 0)  (in_w 0 32 (in_c 0 rfl) rfl) n8 (m_in 33 (in_w 0 32 (in_c 0 rfl) rfl) rfl)))

/-- GraphHouse.flood -/
theorem k_266_84 {Z : AmZ} {A : Nat → Nat} {s : GS} {ex : va_W} {d : Nat} {X : AmX} {x1 : Int32} {x2 : Int32} (hd : 4 ≤ d) (hI : Inv s) (h2 : In x2 (-1) (-1)) : GC Z d 266 [.ref (A 84), .int x1, .int x2] (WW Z A s ++ ex) 0 0 (fun v u => ∃ z : Int32, v = some (.int z) ∧ u = WW Z A s ++ ex ∧ In z (-2147483648) 2147483647 ∧ (∀ k, bt x1 k = true → bt z k = true)) X := by
  intro post xp hP hX
  have ct8 : ∀ (k8 : Nat) (y8_3 : Int32) (y8_4 : Int32) (y8_5 : Int32), (In y8_5 0 32) → (∀ k, bt x1 k = true → bt y8_3 k = true) → 32 - (y8_5).toInt < (k8 : Int) → GG Z (d - 1) 266 post (gx xp) (1 + k8 * 900) 8 (fun j => xlook j [(0, .ref (A 84)), (1, .int x1), (2, .int x2), (3, .int y8_3), (4, .int y8_4), (5, .int y8_5)]) [] (WW Z A s ++ ex) 0 0 := by
    intro k8
    induction k8 with
    | zero => intro y8_3 y8_4 y8_5 j8_5 g8_0 mm8; exact m_no mm8 j8_5 rfl
    | succ k8 ih8 =>
      intro y8_3 y8_4 y8_5 j8_5 g8_0 mm8
      refine gg_w (M := 1 + k8 * 900 + 900) (by omega) ?_
      refine g_iload 10 (gd rfl) rfl rfl ?_
      refine g_bipush 32 12 (gd rfl) rfl rfl ?_
      refine g_cmp_ge 15 62 (gd rfl) rfl rfl (fun c12 => ?_) (fun c12 => ?_)
      · skip
        have i12 := r_le2 32 32 c12 (in_c 32 rfl) j8_5 rfl
        refine g_iload_n 63 (gd rfl) rfl rfl ?_
        have n63 : ∀ k, bt x1 k = true → bt y8_3 k = true := by exact g8_0
        exact g_ireturn (gd rfl) rfl rfl (hP _ _ ⟨y8_3, rfl, rfl, in_w (-2147483648) 2147483647 (i_rng y8_3) rfl, n63⟩)
      · skip
        have i12 := r_lt1 0 31 c12 j8_5 (in_c 32 rfl) rfl
        refine g_iload 17 (gd rfl) rfl rfl ?_
        refine g_if_eq 20 62 (gd rfl) rfl rfl (fun c17 => ?_) (fun c17 => ?_)
        · skip
          have i17 := z_eq 0 0 c17 (i_rng y8_4) rfl
          refine g_iload_n 63 (gd rfl) rfl rfl ?_
          have n63 : ∀ k, bt x1 k = true → bt y8_3 k = true := by exact g8_0
          exact g_ireturn (gd rfl) rfl rfl (hP _ _ ⟨y8_3, rfl, rfl, in_w (-2147483648) 2147483647 (i_rng y8_3) rfl, n63⟩)
        · skip
          refine g_aload_n 21 (gd rfl) rfl rfl ?_
          refine g_iload 23 (gd rfl) rfl rfl ?_
          refine g_calls (As := [.int y8_4]) (r := [.ref (A 84)]) 26 (gd rfl) rfl rfl rfl rfl rfl (Nat.le_of_ble_eq_true rfl) (Nat.zero_le _) (Nat.zero_le _) (k_264n (by omega) c17) (fun v u h => ?_)
          obtain ⟨z23, rfl, rfl, i23, hb23, hl23⟩ := h
          show GG _ _ _ _ _ _ _ _ [.int z23, .ref (A 84)] _ _ _
          refine g_iaload 27 (gd rfl) rfl (n := 32) rfl (in_ix i23 rfl) (fun z26 e26 => ?_)
          refine g_iload_n 28 (gd rfl) rfl rfl ?_
          refine g_iand 29 (gd rfl) rfl (fun z28 e28 => ?_)
          refine g_iload_n 30 (gd rfl) rfl rfl ?_
          refine g_iconst (-1) 31 (gd rfl) rfl rfl ?_
          refine g_ixor 32 (gd rfl) rfl (fun z31 e31 => ?_)
          refine g_iand 33 (gd rfl) rfl (fun z32 e32 => ?_)
          refine g_istore 35 (gd rfl) rfl (Nat.le_of_ble_eq_true rfl) ?_
          refine g_iload 37 (gd rfl) rfl rfl ?_
          refine g_iload 39 (gd rfl) rfl rfl ?_
          refine g_iconst 1 40 (gd rfl) rfl rfl ?_
          refine g_isub 41 (gd rfl) rfl (fun z40 e40 => ?_)
          refine g_iand 42 (gd rfl) rfl (fun z41 e41 => ?_)
          refine g_istore 44 (gd rfl) rfl (Nat.le_of_ble_eq_true rfl) ?_
          refine g_iload 46 (gd rfl) rfl rfl ?_
          refine g_iload 48 (gd rfl) rfl rfl ?_
          refine g_ior 49 (gd rfl) rfl (fun z48 e48 => ?_)
          refine g_istore 51 (gd rfl) rfl (Nat.le_of_ble_eq_true rfl) ?_
          refine g_iload_n 52 (gd rfl) rfl rfl ?_
          refine g_iload 54 (gd rfl) rfl rfl ?_
          refine g_ior 55 (gd rfl) rfl (fun z54 e54 => ?_)
          refine g_istore_n 56 (gd rfl) rfl (Nat.le_of_ble_eq_true rfl) ?_
          refine g_iinc 59 (gd rfl) rfl rfl (Nat.le_of_ble_eq_true rfl) (fun z56 e56 => ?_)
          have i56 := in_add 1 32 e56 i12 (in_c 1 rfl) rfl rfl
          refine g_goto 8 (gd rfl) rfl ?_
          have n8 : ∀ k, bt x1 k = true → bt z54 k = true := by first | exact fun k h => h | exact fun k h => bt_orl e54 (g8_0 k h)
          exact gg_w (by omega) (gg_f (gf_cons rfl (gf_cons rfl (gf_cons rfl (gf_cons rfl (gf_cons rfl (gf_cons rfl gf_nil)))))) (ih8  z54 z48 z56  (in_w 0 32 i56 rfl) n8 (m_up mm8 (t_add e56 i12 (in_c 1 rfl) rfl) (in_w 1 1 (in_c 1 rfl) rfl))))
  refine g_enter2 (k := 266) (N := 30601) (by omega) rfl (Nat.le_of_ble_eq_true rfl) ?_
  refine g_iload_n 1 (gd rfl) rfl rfl ?_
  refine g_istore_n 2 (gd rfl) rfl (Nat.le_of_ble_eq_true rfl) ?_
  refine g_iload_n 3 (gd rfl) rfl rfl ?_
  refine g_istore 5 (gd rfl) rfl (Nat.le_of_ble_eq_true rfl) ?_
  refine g_iconst 0 6 (gd rfl) rfl rfl ?_
  refine g_istore 8 (gd rfl) rfl (Nat.le_of_ble_eq_true rfl) ?_
  have n8 : ∀ k, bt x1 k = true → bt x1 k = true := by first | exact fun k h => h | exact fun k h => bt_orl e54 (g8_0 k h)
  exact gg_w (by omega) (gg_f (gf_cons rfl (gf_cons rfl (gf_cons rfl (gf_cons rfl (gf_cons rfl (gf_cons rfl gf_nil)))))) (ct8 33  x1 x1 (Int32.ofInt 0)  (in_w 0 32 (in_c 0 rfl) rfl) n8 (m_in 33 (in_w 0 32 (in_c 0 rfl) rfl) rfl)))
