/-! methods, by vc.py -/
def fm_158_94_46 : FM := ([97], [95, 96, 98], [], [(94, 0), (94, 1)])
/-- GraphHouse$Question.build -/
theorem k_158_94_46 {Z : AmZ} {A : Nat → Nat} {s : GS} {ex : va_W} {d : Nat} {X : AmX} {u_46_1 : Int32} (hd : 5 ≤ d) (hI : Inv s) (e_46_1 : u_46_1 = s.2.2.1 46 1) (r_46_1 : In u_46_1 0 60) : GC Z d 158 [.ref (A 94), .ref (A 46)] (WW Z A s ++ ex) 0 0 (fun v u => ∃ t : GS, Inv t ∧ Fr fm_158_94_46 s t ∧ v = none ∧ u = WW Z A t ++ ex) X := by
  intro post xp hP hX
  have ct42 : ∀ (k42 : Nat) (sc42 : GS) (y42_2 : Int32) (y42_3 : Int32), Inv sc42 → Fr fm_158_94_46 s sc42 → (In y42_2 0 10) → (In y42_3 0 60) → 60 - (y42_3).toInt < (k42 : Int) → GG Z (d - 1) 158 post (gx xp) (1 + k42 * 900) 42 (fun j => xlook j [(0, .ref (A 94)), (1, .ref (A 46)), (2, .int y42_2), (3, .int y42_3)]) [] (WW Z A sc42 ++ ex) 0 0 := by
    intro k42
    induction k42 with
    | zero => intro sc42 y42_2 y42_3 hIc42 hFc42 j42_2 j42_3 mm42; exact m_no mm42 j42_3 rfl
    | succ k42 ih42 =>
      intro sc42 y42_2 y42_3 hIc42 hFc42 j42_2 j42_3 mm42
      refine gg_w (M := 1 + k42 * 900 + 900) (by omega) ?_
      refine g_iload_n 43 (gd rfl) rfl rfl ?_
      refine g_aload_n 44 (gd rfl) rfl rfl ?_
      refine g_getI 47 (gd rfl) rfl rfl rfl (fun z44 e44 => ?_)
      have q44 : u_46_1 = z44 := (fr_F e_46_1 hFc42 rfl).trans e44.symm
      subst q44
      refine g_cmp_ge 50 170 (gd rfl) rfl rfl (fun c47 => ?_) (fun c47 => ?_)
      · skip
        refine g_aload_n 171 (gd rfl) rfl rfl ?_
        refine g_aload_n 172 (gd rfl) rfl rfl ?_
        refine g_getA (q2 := 98) 175 (gd rfl) rfl rfl rfl rfl ?_
        refine g_iconst 0 176 (gd rfl) rfl rfl ?_
        refine g_laload 177 (gd rfl) rfl (n := 11) rfl (in_ix (in_c 0 rfl) rfl) (fun z176 e176 => ?_)
        have i176 := inv_L hIc42 (n := 11) 0 1152921504606846975 rfl (in_ix (in_c 0 rfl) rfl) rfl e176
        refine g_aload_n 178 (gd rfl) rfl rfl ?_
        refine g_getL 181 (gd rfl) rfl rfl rfl (fun z178 e178 => ?_)
        have i178 := inv_G hIc42 0 2305843009213693951 rfl e178
        have p181 : InL z176 0 1152921504606846975 := by exact lw 0 1152921504606846975 i176 rfl
        have p181a : InL z178 0 2305843009213693951 := by exact lw 0 2305843009213693951 i178 rfl
        refine g_callv (X := _) (As := [.long z176, .long z178]) (r := []) (b := A 94) (q := 94) 184 (gd rfl) rfl rfl rfl rfl rfl (ww_o rfl) (Nat.le_of_ble_eq_true rfl) (Nat.zero_le _) (Nat.zero_le _) (k_159_94 (by omega) hIc42 p181 p181a) (fun e u h => h) (fun v u h => ?_)
        obtain ⟨s181, hI181, hF181, rfl, rfl⟩ := h
        show GG _ _ _ _ _ _ _ _ [] _ _ _
        refine g_aload_n 185 (gd rfl) rfl rfl ?_
        refine g_aload_n 186 (gd rfl) rfl rfl ?_
        refine g_getI 189 (gd rfl) rfl rfl rfl (fun z186 e186 => ?_)
        have q186 : u_46_1 = z186 := (fr_F (fr_F e_46_1 hFc42 rfl) hF181 rfl).trans e186.symm
        subst q186
        refine g_callv (X := _) (As := [.int u_46_1]) (r := []) (b := A 94) (q := 94) 192 (gd rfl) rfl rfl rfl rfl rfl (ww_o rfl) (Nat.le_of_ble_eq_true rfl) (Nat.zero_le _) (Nat.zero_le _) (k_162_94 (by omega) hI181 (in_w 0 60 r_46_1 rfl)) (fun e u h => h) (fun v u h => ?_)
        obtain ⟨s189, hI189, hF189, rfl, rfl⟩ := h
        show GG _ _ _ _ _ _ _ _ [] _ _ _
        exact g_return (gd rfl) rfl (hP _ _ ⟨s189, hI189, (fr_tr rfl (fr_tr rfl hFc42 hF181) hF189), rfl, rfl⟩)
      · skip
        have i47 := r_lt1 0 59 c47 j42_3 r_46_1 rfl
        have i47a := r_lt2 1 60 c47 j42_3 r_46_1 rfl
        refine g_aload_n 51 (gd rfl) rfl rfl ?_
        refine g_getA (q2 := 47) 54 (gd rfl) rfl rfl rfl rfl ?_
        refine g_iload_n 55 (gd rfl) rfl rfl ?_
        refine g_caload 56 (gd rfl) rfl (n := 1000) rfl (in_ix i47 rfl) (fun z55 e55 => ?_)
        have i55 := inv_I hIc42 (n := 1000) (t := 2) 0 65535 rfl (in_ix i47 rfl) rfl e55
        refine g_istore 58 (gd rfl) rfl (Nat.le_of_ble_eq_true rfl) ?_
        refine g_iload_n 59 (gd rfl) rfl rfl ?_
        refine g_istore 61 (gd rfl) rfl (Nat.le_of_ble_eq_true rfl) ?_
        refine g_iload 63 (gd rfl) rfl rfl ?_
        refine g_bipush 40 65 (gd rfl) rfl rfl ?_
        refine g_cmp_ne 68 94 (gd rfl) rfl rfl (fun c65 => ?_) (fun c65 => ?_)
        · skip
          refine g_iload 96 (gd rfl) rfl rfl ?_
          refine g_bipush 41 98 (gd rfl) rfl rfl ?_
          refine g_cmp_ne 101 129 (gd rfl) rfl rfl (fun c98 => ?_) (fun c98 => ?_)
          · skip
            refine g_aload_n 130 (gd rfl) rfl rfl ?_
            refine g_iload 132 (gd rfl) rfl rfl ?_
            refine g_iload_n 133 (gd rfl) rfl rfl ?_
            refine g_iload_n 134 (gd rfl) rfl rfl ?_
            refine g_callv (X := _) (As := [.int z55, .int y42_3, .int y42_2]) (r := []) (b := A 94) (q := 94) 137 (gd rfl) rfl rfl rfl rfl rfl (ww_o rfl) (Nat.le_of_ble_eq_true rfl) (Nat.zero_le _) (Nat.zero_le _) (k_160_94 (by omega) hIc42 (in_w 0 65535 i55 rfl) (in_w 0 59 i47 rfl) (in_w 0 10 j42_2 rfl)) (fun e u h => h) (fun v u h => ?_)
            obtain ⟨s134, hI134, hF134, rfl, rfl⟩ := h
            show GG _ _ _ _ _ _ _ _ [] _ _ _
            refine g_iload_n 138 (gd rfl) rfl rfl ?_
            refine g_iconst 1 139 (gd rfl) rfl rfl ?_
            refine g_iadd 140 (gd rfl) rfl (fun z139 e139 => ?_)
            have i139 := in_add 1 60 e139 i47 (in_c 1 rfl) rfl rfl
            refine g_aload_n 141 (gd rfl) rfl rfl ?_
            refine g_getI 144 (gd rfl) rfl rfl rfl (fun z141 e141 => ?_)
            have q141 : u_46_1 = z141 := (fr_F (fr_F e_46_1 hFc42 rfl) hF134 rfl).trans e141.symm
            subst q141
            refine g_cmp_ge 147 164 (gd rfl) rfl rfl (fun c144 => ?_) (fun c144 => ?_)
            · skip
              refine g_iinc 167 (gd rfl) rfl rfl (Nat.le_of_ble_eq_true rfl) (fun z164 e164 => ?_)
              have i164 := in_add 1 60 e164 i47 (in_c 1 rfl) rfl rfl
              refine g_goto 42 (gd rfl) rfl ?_
              exact gg_w (by omega) (gg_f (gf_cons rfl (gf_cons rfl (gf_cons rfl (gf_cons rfl gf_nil)))) (ih42 s134 y42_2 z164 hI134 (fr_tr rfl hFc42 hF134) (in_w 0 10 j42_2 rfl) (in_w 0 60 i164 rfl) (m_up mm42 (t_add e164 i47 (in_c 1 rfl) rfl) (in_w 1 1 (in_c 1 rfl) rfl))))
            · skip
              have i144 := r_lt1 1 59 c144 i139 i47a rfl
              have i144a := r_lt2 2 60 c144 i139 i47a rfl
              refine g_aload_n 148 (gd rfl) rfl rfl ?_
              refine g_aload_n 149 (gd rfl) rfl rfl ?_
              refine g_getA (q2 := 47) 152 (gd rfl) rfl rfl rfl rfl ?_
              refine g_iload_n 153 (gd rfl) rfl rfl ?_
              refine g_iconst 1 154 (gd rfl) rfl rfl ?_
              refine g_iadd 155 (gd rfl) rfl (fun z154 e154 => ?_)
              have i154 := in_add 1 60 e154 i47 (in_c 1 rfl) rfl rfl
              refine g_caload 156 (gd rfl) rfl (n := 1000) rfl (in_ix i154 rfl) (fun z155 e155 => ?_)
              have i155 := inv_I hI134 (n := 1000) (t := 2) 0 65535 rfl (in_ix i154 rfl) rfl e155
              refine g_iload 158 (gd rfl) rfl rfl ?_
              refine g_iload_n 159 (gd rfl) rfl rfl ?_
              refine g_iconst 1 160 (gd rfl) rfl rfl ?_
              refine g_iadd 161 (gd rfl) rfl (fun z160 e160 => ?_)
              have i160 := in_add 1 60 e160 i47 (in_c 1 rfl) rfl rfl
              refine g_callv (X := _) (As := [.int z155, .int y42_3, .int z160]) (r := []) (b := A 94) (q := 94) 164 (gd rfl) rfl rfl rfl rfl rfl (ww_o rfl) (Nat.le_of_ble_eq_true rfl) (mc := 0) (ms := 0) (Nat.zero_le _) (Nat.zero_le _) (P := fun v u => _) ?_ (fun e u h => h) (fun v u h => h)
              intro po161 xx161 hp161 hx161
              refine g_enter2 (k := 161) (N := 300) (by omega) rfl (Nat.le_of_ble_eq_true rfl) ?_
              refine g_iload_n 1 (gd rfl) rfl rfl ?_
              refine g_bipush 42 3 (gd rfl) rfl rfl ?_
              refine g_cmp_eq 6 12 (gd rfl) rfl rfl (fun c161x3 => ?_) (fun c161x3 => ?_)
              · skip
                have i161x3 := r_eq1 42 42 c161x3 i155 (in_c 42 rfl) rfl
                refine g_aload_n 13 (gd rfl) rfl rfl ?_
                refine g_getA (q2 := 95) 16 (gd rfl) rfl rfl rfl rfl ?_
                refine g_iload_n 17 (gd rfl) rfl rfl ?_
                refine g_dup2 18 (gd rfl) rfl rfl rfl ?_
                refine g_laload 19 (gd rfl) rfl (n := 61) rfl (in_ix i160 rfl) (fun z161x18 e161x18 => ?_)
                have i161x18 := inv_L hI134 (n := 61) 0 2305843009213693951 rfl (in_ix i160 rfl) rfl e161x18
                refine g_lconst 1 20 (gd rfl) rfl rfl ?_
                refine g_iload_n 21 (gd rfl) rfl rfl ?_
                refine g_lshl 22 (gd rfl) rfl (fun z161x21 e161x21 => ?_)
                have i161x21 := l_shl 59 e161x21 i47 rfl
                refine g_lor 23 (gd rfl) rfl (fun z161x22 e161x22 => ?_)
                have i161x22 := inl_or 61 e161x22 (lw 0 2305843009213693951 i161x18 rfl) (lw 0 2305843009213693951 i161x21 rfl) rfl
                refine g_lastore 24 (gd rfl) rfl (n := 61) rfl (in_ix i160 rfl) ?_
                have hI161x23 := inv_sL (q := 95) (j := z160.toNatClampNeg) (x := z161x22) hI134 rfl (lw 0 2305843009213693951 i161x22 rfl)
                refine g_iload_n 25 (gd rfl) rfl rfl ?_
                refine g_bipush 42 27 (gd rfl) rfl rfl ?_
                refine g_cmp_eq 30 36 (gd rfl) rfl rfl (fun c161x27 => ?_) (fun c161x27 => ?_)
                · skip
                  refine g_aload_n 37 (gd rfl) rfl rfl ?_
                  refine g_getA (q2 := 95) 40 (gd rfl) rfl rfl rfl rfl ?_
                  refine g_iload_n 41 (gd rfl) rfl rfl ?_
                  refine g_dup2 42 (gd rfl) rfl rfl rfl ?_
                  refine g_laload 43 (gd rfl) rfl (n := 61) rfl (in_ix i47 rfl) (fun z161x42 e161x42 => ?_)
                  have i161x42 := inv_L hI161x23 (n := 61) 0 2305843009213693951 rfl (in_ix i47 rfl) rfl e161x42
                  refine g_lconst 1 44 (gd rfl) rfl rfl ?_
                  refine g_iload_n 45 (gd rfl) rfl rfl ?_
                  refine g_lshl 46 (gd rfl) rfl (fun z161x45 e161x45 => ?_)
                  have i161x45 := l_shl 60 e161x45 i160 rfl
                  refine g_lor 47 (gd rfl) rfl (fun z161x46 e161x46 => ?_)
                  have i161x46 := inl_or 61 e161x46 (lw 0 2305843009213693951 i161x42 rfl) (lw 0 2305843009213693951 i161x45 rfl) rfl
                  refine g_lastore 48 (gd rfl) rfl (n := 61) rfl (in_ix i47 rfl) ?_
                  have hI161x47 := inv_sL (q := 95) (j := y42_3.toNatClampNeg) (x := z161x46) hI161x23 rfl (lw 0 2305843009213693951 i161x46 rfl)
                  refine g_return (gd rfl) rfl (hp161 _ _ ?_)
                  show GG _ _ _ _ _ _ _ _ [] _ _ _
                  refine g_iinc 167 (gd rfl) rfl rfl (Nat.le_of_ble_eq_true rfl) (fun z164 e164 => ?_)
                  have i164 := in_add 1 60 e164 i47 (in_c 1 rfl) rfl rfl
                  refine g_goto 42 (gd rfl) rfl ?_
                  exact gg_w (by omega) (gg_f (gf_cons rfl (gf_cons rfl (gf_cons rfl (gf_cons rfl gf_nil)))) (ih42 (sL (sL s134 95 z160.toNatClampNeg z161x22) 95 y42_3.toNatClampNeg z161x46) y42_2 z164 hI161x47 (fr_sL rfl (fr_sL rfl (fr_tr rfl hFc42 hF134))) (in_w 0 10 j42_2 rfl) (in_w 0 60 i164 rfl) (m_up mm42 (t_add e164 i47 (in_c 1 rfl) rfl) (in_w 1 1 (in_c 1 rfl) rfl))))
                · skip
                  exact n_ne c161x27 i161x3 (in_c 42 rfl) rfl
              · skip
                refine g_iload_n 7 (gd rfl) rfl rfl ?_
                refine g_bipush 43 9 (gd rfl) rfl rfl ?_
                refine g_cmp_ne 12 24 (gd rfl) rfl rfl (fun c161x9 => ?_) (fun c161x9 => ?_)
                · skip
                  refine g_iload_n 25 (gd rfl) rfl rfl ?_
                  refine g_bipush 42 27 (gd rfl) rfl rfl ?_
                  refine g_cmp_eq 30 36 (gd rfl) rfl rfl (fun c161x27 => ?_) (fun c161x27 => ?_)
                  · skip
                    exact absurd c161x27 c161x3
                  · skip
                    refine g_iload_n 31 (gd rfl) rfl rfl ?_
                    refine g_bipush 63 33 (gd rfl) rfl rfl ?_
                    refine g_cmp_ne 36 48 (gd rfl) rfl rfl (fun c161x33 => ?_) (fun c161x33 => ?_)
                    · skip
                      refine g_return (gd rfl) rfl (hp161 _ _ ?_)
                      show GG _ _ _ _ _ _ _ _ [] _ _ _
                      refine g_iinc 167 (gd rfl) rfl rfl (Nat.le_of_ble_eq_true rfl) (fun z164 e164 => ?_)
                      have i164 := in_add 1 60 e164 i47 (in_c 1 rfl) rfl rfl
                      refine g_goto 42 (gd rfl) rfl ?_
                      exact gg_w (by omega) (gg_f (gf_cons rfl (gf_cons rfl (gf_cons rfl (gf_cons rfl gf_nil)))) (ih42 s134 y42_2 z164 hI134 (fr_tr rfl hFc42 hF134) (in_w 0 10 j42_2 rfl) (in_w 0 60 i164 rfl) (m_up mm42 (t_add e164 i47 (in_c 1 rfl) rfl) (in_w 1 1 (in_c 1 rfl) rfl))))
                    · skip
                      have i161x33 := r_eq1 63 63 c161x33 i155 (in_c 63 rfl) rfl
                      refine g_aload_n 37 (gd rfl) rfl rfl ?_
                      refine g_getA (q2 := 95) 40 (gd rfl) rfl rfl rfl rfl ?_
                      refine g_iload_n 41 (gd rfl) rfl rfl ?_
                      refine g_dup2 42 (gd rfl) rfl rfl rfl ?_
                      refine g_laload 43 (gd rfl) rfl (n := 61) rfl (in_ix i47 rfl) (fun z161x42 e161x42 => ?_)
                      have i161x42 := inv_L hI134 (n := 61) 0 2305843009213693951 rfl (in_ix i47 rfl) rfl e161x42
                      refine g_lconst 1 44 (gd rfl) rfl rfl ?_
                      refine g_iload_n 45 (gd rfl) rfl rfl ?_
                      refine g_lshl 46 (gd rfl) rfl (fun z161x45 e161x45 => ?_)
                      have i161x45 := l_shl 60 e161x45 i160 rfl
                      refine g_lor 47 (gd rfl) rfl (fun z161x46 e161x46 => ?_)
                      have i161x46 := inl_or 61 e161x46 (lw 0 2305843009213693951 i161x42 rfl) (lw 0 2305843009213693951 i161x45 rfl) rfl
                      refine g_lastore 48 (gd rfl) rfl (n := 61) rfl (in_ix i47 rfl) ?_
                      have hI161x47 := inv_sL (q := 95) (j := y42_3.toNatClampNeg) (x := z161x46) hI134 rfl (lw 0 2305843009213693951 i161x46 rfl)
                      refine g_return (gd rfl) rfl (hp161 _ _ ?_)
                      show GG _ _ _ _ _ _ _ _ [] _ _ _
                      refine g_iinc 167 (gd rfl) rfl rfl (Nat.le_of_ble_eq_true rfl) (fun z164 e164 => ?_)
                      have i164 := in_add 1 60 e164 i47 (in_c 1 rfl) rfl rfl
                      refine g_goto 42 (gd rfl) rfl ?_
                      exact gg_w (by omega) (gg_f (gf_cons rfl (gf_cons rfl (gf_cons rfl (gf_cons rfl gf_nil)))) (ih42 (sL s134 95 y42_3.toNatClampNeg z161x46) y42_2 z164 hI161x47 (fr_sL rfl (fr_tr rfl hFc42 hF134)) (in_w 0 10 j42_2 rfl) (in_w 0 60 i164 rfl) (m_up mm42 (t_add e164 i47 (in_c 1 rfl) rfl) (in_w 1 1 (in_c 1 rfl) rfl))))
                · skip
                  have i161x9 := r_eq1 43 43 c161x9 i155 (in_c 43 rfl) rfl
                  refine g_aload_n 13 (gd rfl) rfl rfl ?_
                  refine g_getA (q2 := 95) 16 (gd rfl) rfl rfl rfl rfl ?_
                  refine g_iload_n 17 (gd rfl) rfl rfl ?_
                  refine g_dup2 18 (gd rfl) rfl rfl rfl ?_
                  refine g_laload 19 (gd rfl) rfl (n := 61) rfl (in_ix i160 rfl) (fun z161x18 e161x18 => ?_)
                  have i161x18 := inv_L hI134 (n := 61) 0 2305843009213693951 rfl (in_ix i160 rfl) rfl e161x18
                  refine g_lconst 1 20 (gd rfl) rfl rfl ?_
                  refine g_iload_n 21 (gd rfl) rfl rfl ?_
                  refine g_lshl 22 (gd rfl) rfl (fun z161x21 e161x21 => ?_)
                  have i161x21 := l_shl 59 e161x21 i47 rfl
                  refine g_lor 23 (gd rfl) rfl (fun z161x22 e161x22 => ?_)
                  have i161x22 := inl_or 61 e161x22 (lw 0 2305843009213693951 i161x18 rfl) (lw 0 2305843009213693951 i161x21 rfl) rfl
                  refine g_lastore 24 (gd rfl) rfl (n := 61) rfl (in_ix i160 rfl) ?_
                  have hI161x23 := inv_sL (q := 95) (j := z160.toNatClampNeg) (x := z161x22) hI134 rfl (lw 0 2305843009213693951 i161x22 rfl)
                  refine g_iload_n 25 (gd rfl) rfl rfl ?_
                  refine g_bipush 42 27 (gd rfl) rfl rfl ?_
                  refine g_cmp_eq 30 36 (gd rfl) rfl rfl (fun c161x27 => ?_) (fun c161x27 => ?_)
                  · skip
                    exact absurd c161x27 c161x3
                  · skip
                    refine g_iload_n 31 (gd rfl) rfl rfl ?_
                    refine g_bipush 63 33 (gd rfl) rfl rfl ?_
                    refine g_cmp_ne 36 48 (gd rfl) rfl rfl (fun c161x33 => ?_) (fun c161x33 => ?_)
                    · skip
                      refine g_return (gd rfl) rfl (hp161 _ _ ?_)
                      show GG _ _ _ _ _ _ _ _ [] _ _ _
                      refine g_iinc 167 (gd rfl) rfl rfl (Nat.le_of_ble_eq_true rfl) (fun z164 e164 => ?_)
                      have i164 := in_add 1 60 e164 i47 (in_c 1 rfl) rfl rfl
                      refine g_goto 42 (gd rfl) rfl ?_
                      exact gg_w (by omega) (gg_f (gf_cons rfl (gf_cons rfl (gf_cons rfl (gf_cons rfl gf_nil)))) (ih42 (sL s134 95 z160.toNatClampNeg z161x22) y42_2 z164 hI161x23 (fr_sL rfl (fr_tr rfl hFc42 hF134)) (in_w 0 10 j42_2 rfl) (in_w 0 60 i164 rfl) (m_up mm42 (t_add e164 i47 (in_c 1 rfl) rfl) (in_w 1 1 (in_c 1 rfl) rfl))))
                    · skip
                      exact n_eq c161x33 i161x9 (in_c 63 rfl) rfl
          · skip
            have i98 := r_eq1 41 41 c98 i55 (in_c 41 rfl) rfl
            refine g_iload_n 102 (gd rfl) rfl rfl ?_
            refine g_if_le 105 129 (gd rfl) rfl rfl (fun c102 => ?_) (fun c102 => ?_)
            · skip
              have i102 := z_le 0 0 c102 j42_2 rfl
              refine g_aload_n 130 (gd rfl) rfl rfl ?_
              refine g_iload 132 (gd rfl) rfl rfl ?_
              refine g_iload_n 133 (gd rfl) rfl rfl ?_
              refine g_iload_n 134 (gd rfl) rfl rfl ?_
              refine g_callv (X := _) (As := [.int z55, .int y42_3, .int y42_2]) (r := []) (b := A 94) (q := 94) 137 (gd rfl) rfl rfl rfl rfl rfl (ww_o rfl) (Nat.le_of_ble_eq_true rfl) (Nat.zero_le _) (Nat.zero_le _) (k_160_94 (by omega) hIc42 (in_w 0 65535 i98 rfl) (in_w 0 59 i47 rfl) (in_w 0 10 i102 rfl)) (fun e u h => h) (fun v u h => ?_)
              obtain ⟨s134, hI134, hF134, rfl, rfl⟩ := h
              show GG _ _ _ _ _ _ _ _ [] _ _ _
              refine g_iload_n 138 (gd rfl) rfl rfl ?_
              refine g_iconst 1 139 (gd rfl) rfl rfl ?_
              refine g_iadd 140 (gd rfl) rfl (fun z139 e139 => ?_)
              have i139 := in_add 1 60 e139 i47 (in_c 1 rfl) rfl rfl
              refine g_aload_n 141 (gd rfl) rfl rfl ?_
              refine g_getI 144 (gd rfl) rfl rfl rfl (fun z141 e141 => ?_)
              have q141 : u_46_1 = z141 := (fr_F (fr_F e_46_1 hFc42 rfl) hF134 rfl).trans e141.symm
              subst q141
              refine g_cmp_ge 147 164 (gd rfl) rfl rfl (fun c144 => ?_) (fun c144 => ?_)
              · skip
                refine g_iinc 167 (gd rfl) rfl rfl (Nat.le_of_ble_eq_true rfl) (fun z164 e164 => ?_)
                have i164 := in_add 1 60 e164 i47 (in_c 1 rfl) rfl rfl
                refine g_goto 42 (gd rfl) rfl ?_
                exact gg_w (by omega) (gg_f (gf_cons rfl (gf_cons rfl (gf_cons rfl (gf_cons rfl gf_nil)))) (ih42 s134 y42_2 z164 hI134 (fr_tr rfl hFc42 hF134) (in_w 0 10 i102 rfl) (in_w 0 60 i164 rfl) (m_up mm42 (t_add e164 i47 (in_c 1 rfl) rfl) (in_w 1 1 (in_c 1 rfl) rfl))))
              · skip
                have i144 := r_lt1 1 59 c144 i139 i47a rfl
                have i144a := r_lt2 2 60 c144 i139 i47a rfl
                refine g_aload_n 148 (gd rfl) rfl rfl ?_
                refine g_aload_n 149 (gd rfl) rfl rfl ?_
                refine g_getA (q2 := 47) 152 (gd rfl) rfl rfl rfl rfl ?_
                refine g_iload_n 153 (gd rfl) rfl rfl ?_
                refine g_iconst 1 154 (gd rfl) rfl rfl ?_
                refine g_iadd 155 (gd rfl) rfl (fun z154 e154 => ?_)
                have i154 := in_add 1 60 e154 i47 (in_c 1 rfl) rfl rfl
                refine g_caload 156 (gd rfl) rfl (n := 1000) rfl (in_ix i154 rfl) (fun z155 e155 => ?_)
                have i155 := inv_I hI134 (n := 1000) (t := 2) 0 65535 rfl (in_ix i154 rfl) rfl e155
                refine g_iload 158 (gd rfl) rfl rfl ?_
                refine g_iload_n 159 (gd rfl) rfl rfl ?_
                refine g_iconst 1 160 (gd rfl) rfl rfl ?_
                refine g_iadd 161 (gd rfl) rfl (fun z160 e160 => ?_)
                have i160 := in_add 1 60 e160 i47 (in_c 1 rfl) rfl rfl
                refine g_callv (X := _) (As := [.int z155, .int y42_3, .int z160]) (r := []) (b := A 94) (q := 94) 164 (gd rfl) rfl rfl rfl rfl rfl (ww_o rfl) (Nat.le_of_ble_eq_true rfl) (mc := 0) (ms := 0) (Nat.zero_le _) (Nat.zero_le _) (P := fun v u => _) ?_ (fun e u h => h) (fun v u h => h)
                intro po161 xx161 hp161 hx161
                refine g_enter2 (k := 161) (N := 300) (by omega) rfl (Nat.le_of_ble_eq_true rfl) ?_
                refine g_iload_n 1 (gd rfl) rfl rfl ?_
                refine g_bipush 42 3 (gd rfl) rfl rfl ?_
                refine g_cmp_eq 6 12 (gd rfl) rfl rfl (fun c161x3 => ?_) (fun c161x3 => ?_)
                · skip
                  have i161x3 := r_eq1 42 42 c161x3 i155 (in_c 42 rfl) rfl
                  refine g_aload_n 13 (gd rfl) rfl rfl ?_
                  refine g_getA (q2 := 95) 16 (gd rfl) rfl rfl rfl rfl ?_
                  refine g_iload_n 17 (gd rfl) rfl rfl ?_
                  refine g_dup2 18 (gd rfl) rfl rfl rfl ?_
                  refine g_laload 19 (gd rfl) rfl (n := 61) rfl (in_ix i160 rfl) (fun z161x18 e161x18 => ?_)
                  have i161x18 := inv_L hI134 (n := 61) 0 2305843009213693951 rfl (in_ix i160 rfl) rfl e161x18
                  refine g_lconst 1 20 (gd rfl) rfl rfl ?_
                  refine g_iload_n 21 (gd rfl) rfl rfl ?_
                  refine g_lshl 22 (gd rfl) rfl (fun z161x21 e161x21 => ?_)
                  have i161x21 := l_shl 59 e161x21 i47 rfl
                  refine g_lor 23 (gd rfl) rfl (fun z161x22 e161x22 => ?_)
                  have i161x22 := inl_or 61 e161x22 (lw 0 2305843009213693951 i161x18 rfl) (lw 0 2305843009213693951 i161x21 rfl) rfl
                  refine g_lastore 24 (gd rfl) rfl (n := 61) rfl (in_ix i160 rfl) ?_
                  have hI161x23 := inv_sL (q := 95) (j := z160.toNatClampNeg) (x := z161x22) hI134 rfl (lw 0 2305843009213693951 i161x22 rfl)
                  refine g_iload_n 25 (gd rfl) rfl rfl ?_
                  refine g_bipush 42 27 (gd rfl) rfl rfl ?_
                  refine g_cmp_eq 30 36 (gd rfl) rfl rfl (fun c161x27 => ?_) (fun c161x27 => ?_)
                  · skip
                    refine g_aload_n 37 (gd rfl) rfl rfl ?_
                    refine g_getA (q2 := 95) 40 (gd rfl) rfl rfl rfl rfl ?_
                    refine g_iload_n 41 (gd rfl) rfl rfl ?_
                    refine g_dup2 42 (gd rfl) rfl rfl rfl ?_
                    refine g_laload 43 (gd rfl) rfl (n := 61) rfl (in_ix i47 rfl) (fun z161x42 e161x42 => ?_)
                    have i161x42 := inv_L hI161x23 (n := 61) 0 2305843009213693951 rfl (in_ix i47 rfl) rfl e161x42
                    refine g_lconst 1 44 (gd rfl) rfl rfl ?_
                    refine g_iload_n 45 (gd rfl) rfl rfl ?_
                    refine g_lshl 46 (gd rfl) rfl (fun z161x45 e161x45 => ?_)
                    have i161x45 := l_shl 60 e161x45 i160 rfl
                    refine g_lor 47 (gd rfl) rfl (fun z161x46 e161x46 => ?_)
                    have i161x46 := inl_or 61 e161x46 (lw 0 2305843009213693951 i161x42 rfl) (lw 0 2305843009213693951 i161x45 rfl) rfl
                    refine g_lastore 48 (gd rfl) rfl (n := 61) rfl (in_ix i47 rfl) ?_
                    have hI161x47 := inv_sL (q := 95) (j := y42_3.toNatClampNeg) (x := z161x46) hI161x23 rfl (lw 0 2305843009213693951 i161x46 rfl)
                    refine g_return (gd rfl) rfl (hp161 _ _ ?_)
                    show GG _ _ _ _ _ _ _ _ [] _ _ _
                    refine g_iinc 167 (gd rfl) rfl rfl (Nat.le_of_ble_eq_true rfl) (fun z164 e164 => ?_)
                    have i164 := in_add 1 60 e164 i47 (in_c 1 rfl) rfl rfl
                    refine g_goto 42 (gd rfl) rfl ?_
                    exact gg_w (by omega) (gg_f (gf_cons rfl (gf_cons rfl (gf_cons rfl (gf_cons rfl gf_nil)))) (ih42 (sL (sL s134 95 z160.toNatClampNeg z161x22) 95 y42_3.toNatClampNeg z161x46) y42_2 z164 hI161x47 (fr_sL rfl (fr_sL rfl (fr_tr rfl hFc42 hF134))) (in_w 0 10 i102 rfl) (in_w 0 60 i164 rfl) (m_up mm42 (t_add e164 i47 (in_c 1 rfl) rfl) (in_w 1 1 (in_c 1 rfl) rfl))))
                  · skip
                    exact n_ne c161x27 i161x3 (in_c 42 rfl) rfl
                · skip
                  refine g_iload_n 7 (gd rfl) rfl rfl ?_
                  refine g_bipush 43 9 (gd rfl) rfl rfl ?_
                  refine g_cmp_ne 12 24 (gd rfl) rfl rfl (fun c161x9 => ?_) (fun c161x9 => ?_)
                  · skip
                    refine g_iload_n 25 (gd rfl) rfl rfl ?_
                    refine g_bipush 42 27 (gd rfl) rfl rfl ?_
                    refine g_cmp_eq 30 36 (gd rfl) rfl rfl (fun c161x27 => ?_) (fun c161x27 => ?_)
                    · skip
                      exact absurd c161x27 c161x3
                    · skip
                      refine g_iload_n 31 (gd rfl) rfl rfl ?_
                      refine g_bipush 63 33 (gd rfl) rfl rfl ?_
                      refine g_cmp_ne 36 48 (gd rfl) rfl rfl (fun c161x33 => ?_) (fun c161x33 => ?_)
                      · skip
                        refine g_return (gd rfl) rfl (hp161 _ _ ?_)
                        show GG _ _ _ _ _ _ _ _ [] _ _ _
                        refine g_iinc 167 (gd rfl) rfl rfl (Nat.le_of_ble_eq_true rfl) (fun z164 e164 => ?_)
                        have i164 := in_add 1 60 e164 i47 (in_c 1 rfl) rfl rfl
                        refine g_goto 42 (gd rfl) rfl ?_
                        exact gg_w (by omega) (gg_f (gf_cons rfl (gf_cons rfl (gf_cons rfl (gf_cons rfl gf_nil)))) (ih42 s134 y42_2 z164 hI134 (fr_tr rfl hFc42 hF134) (in_w 0 10 i102 rfl) (in_w 0 60 i164 rfl) (m_up mm42 (t_add e164 i47 (in_c 1 rfl) rfl) (in_w 1 1 (in_c 1 rfl) rfl))))
                      · skip
                        have i161x33 := r_eq1 63 63 c161x33 i155 (in_c 63 rfl) rfl
                        refine g_aload_n 37 (gd rfl) rfl rfl ?_
                        refine g_getA (q2 := 95) 40 (gd rfl) rfl rfl rfl rfl ?_
                        refine g_iload_n 41 (gd rfl) rfl rfl ?_
                        refine g_dup2 42 (gd rfl) rfl rfl rfl ?_
                        refine g_laload 43 (gd rfl) rfl (n := 61) rfl (in_ix i47 rfl) (fun z161x42 e161x42 => ?_)
                        have i161x42 := inv_L hI134 (n := 61) 0 2305843009213693951 rfl (in_ix i47 rfl) rfl e161x42
                        refine g_lconst 1 44 (gd rfl) rfl rfl ?_
                        refine g_iload_n 45 (gd rfl) rfl rfl ?_
                        refine g_lshl 46 (gd rfl) rfl (fun z161x45 e161x45 => ?_)
                        have i161x45 := l_shl 60 e161x45 i160 rfl
                        refine g_lor 47 (gd rfl) rfl (fun z161x46 e161x46 => ?_)
                        have i161x46 := inl_or 61 e161x46 (lw 0 2305843009213693951 i161x42 rfl) (lw 0 2305843009213693951 i161x45 rfl) rfl
                        refine g_lastore 48 (gd rfl) rfl (n := 61) rfl (in_ix i47 rfl) ?_
                        have hI161x47 := inv_sL (q := 95) (j := y42_3.toNatClampNeg) (x := z161x46) hI134 rfl (lw 0 2305843009213693951 i161x46 rfl)
                        refine g_return (gd rfl) rfl (hp161 _ _ ?_)
                        show GG _ _ _ _ _ _ _ _ [] _ _ _
                        refine g_iinc 167 (gd rfl) rfl rfl (Nat.le_of_ble_eq_true rfl) (fun z164 e164 => ?_)
                        have i164 := in_add 1 60 e164 i47 (in_c 1 rfl) rfl rfl
                        refine g_goto 42 (gd rfl) rfl ?_
                        exact gg_w (by omega) (gg_f (gf_cons rfl (gf_cons rfl (gf_cons rfl (gf_cons rfl gf_nil)))) (ih42 (sL s134 95 y42_3.toNatClampNeg z161x46) y42_2 z164 hI161x47 (fr_sL rfl (fr_tr rfl hFc42 hF134)) (in_w 0 10 i102 rfl) (in_w 0 60 i164 rfl) (m_up mm42 (t_add e164 i47 (in_c 1 rfl) rfl) (in_w 1 1 (in_c 1 rfl) rfl))))
                  · skip
                    have i161x9 := r_eq1 43 43 c161x9 i155 (in_c 43 rfl) rfl
                    refine g_aload_n 13 (gd rfl) rfl rfl ?_
                    refine g_getA (q2 := 95) 16 (gd rfl) rfl rfl rfl rfl ?_
                    refine g_iload_n 17 (gd rfl) rfl rfl ?_
                    refine g_dup2 18 (gd rfl) rfl rfl rfl ?_
                    refine g_laload 19 (gd rfl) rfl (n := 61) rfl (in_ix i160 rfl) (fun z161x18 e161x18 => ?_)
                    have i161x18 := inv_L hI134 (n := 61) 0 2305843009213693951 rfl (in_ix i160 rfl) rfl e161x18
                    refine g_lconst 1 20 (gd rfl) rfl rfl ?_
                    refine g_iload_n 21 (gd rfl) rfl rfl ?_
                    refine g_lshl 22 (gd rfl) rfl (fun z161x21 e161x21 => ?_)
                    have i161x21 := l_shl 59 e161x21 i47 rfl
                    refine g_lor 23 (gd rfl) rfl (fun z161x22 e161x22 => ?_)
                    have i161x22 := inl_or 61 e161x22 (lw 0 2305843009213693951 i161x18 rfl) (lw 0 2305843009213693951 i161x21 rfl) rfl
                    refine g_lastore 24 (gd rfl) rfl (n := 61) rfl (in_ix i160 rfl) ?_
                    have hI161x23 := inv_sL (q := 95) (j := z160.toNatClampNeg) (x := z161x22) hI134 rfl (lw 0 2305843009213693951 i161x22 rfl)
                    refine g_iload_n 25 (gd rfl) rfl rfl ?_
                    refine g_bipush 42 27 (gd rfl) rfl rfl ?_
                    refine g_cmp_eq 30 36 (gd rfl) rfl rfl (fun c161x27 => ?_) (fun c161x27 => ?_)
                    · skip
                      exact absurd c161x27 c161x3
                    · skip
                      refine g_iload_n 31 (gd rfl) rfl rfl ?_
                      refine g_bipush 63 33 (gd rfl) rfl rfl ?_
                      refine g_cmp_ne 36 48 (gd rfl) rfl rfl (fun c161x33 => ?_) (fun c161x33 => ?_)
                      · skip
                        refine g_return (gd rfl) rfl (hp161 _ _ ?_)
                        show GG _ _ _ _ _ _ _ _ [] _ _ _
                        refine g_iinc 167 (gd rfl) rfl rfl (Nat.le_of_ble_eq_true rfl) (fun z164 e164 => ?_)
                        have i164 := in_add 1 60 e164 i47 (in_c 1 rfl) rfl rfl
                        refine g_goto 42 (gd rfl) rfl ?_
                        exact gg_w (by omega) (gg_f (gf_cons rfl (gf_cons rfl (gf_cons rfl (gf_cons rfl gf_nil)))) (ih42 (sL s134 95 z160.toNatClampNeg z161x22) y42_2 z164 hI161x23 (fr_sL rfl (fr_tr rfl hFc42 hF134)) (in_w 0 10 i102 rfl) (in_w 0 60 i164 rfl) (m_up mm42 (t_add e164 i47 (in_c 1 rfl) rfl) (in_w 1 1 (in_c 1 rfl) rfl))))
                      · skip
                        exact n_eq c161x33 i161x9 (in_c 63 rfl) rfl
            · skip
              have i102 := z_gt 1 10 c102 j42_2 rfl
              refine g_aload_n 106 (gd rfl) rfl rfl ?_
              refine g_getA (q2 := 97) 109 (gd rfl) rfl rfl rfl rfl ?_
              refine g_iload_n 110 (gd rfl) rfl rfl ?_
              refine g_iaload 111 (gd rfl) rfl (n := 11) rfl (in_ix i102 rfl) (fun z110 e110 => ?_)
              have i110 := inv_I hIc42 (n := 11) (t := 0) 0 60 rfl (in_ix i102 rfl) rfl e110
              refine g_istore 113 (gd rfl) rfl (Nat.le_of_ble_eq_true rfl) ?_
              refine g_aload_n 114 (gd rfl) rfl rfl ?_
              refine g_aload_n 115 (gd rfl) rfl rfl ?_
              refine g_getA (q2 := 98) 118 (gd rfl) rfl rfl rfl rfl ?_
              refine g_iload_n 119 (gd rfl) rfl rfl ?_
              refine g_laload 120 (gd rfl) rfl (n := 11) rfl (in_ix i102 rfl) (fun z119 e119 => ?_)
              have i119 := inv_L hIc42 (n := 11) 0 1152921504606846975 rfl (in_ix i102 rfl) rfl e119
              refine g_lconst 1 121 (gd rfl) rfl rfl ?_
              refine g_iload_n 122 (gd rfl) rfl rfl ?_
              refine g_lshl 123 (gd rfl) rfl (fun z122 e122 => ?_)
              have i122 := l_shl 59 e122 i47 rfl
              have p123 : InL z119 0 1152921504606846975 := by exact lw 0 1152921504606846975 i119 rfl
              have p123a : InL z122 0 2305843009213693951 := by exact lw 0 2305843009213693951 i122 rfl
              refine g_callv (X := _) (As := [.long z119, .long z122]) (r := []) (b := A 94) (q := 94) 126 (gd rfl) rfl rfl rfl rfl rfl (ww_o rfl) (Nat.le_of_ble_eq_true rfl) (Nat.zero_le _) (Nat.zero_le _) (k_159_94 (by omega) hIc42 p123 p123a) (fun e u h => h) (fun v u h => ?_)
              obtain ⟨s123, hI123, hF123, rfl, rfl⟩ := h
              show GG _ _ _ _ _ _ _ _ [] _ _ _
              refine g_iinc 129 (gd rfl) rfl rfl (Nat.le_of_ble_eq_true rfl) (fun z126 e126 => ?_)
              have i126 := in_add 0 9 e126 i102 (in_c (-1) rfl) rfl rfl
              refine g_aload_n 130 (gd rfl) rfl rfl ?_
              refine g_iload 132 (gd rfl) rfl rfl ?_
              refine g_iload_n 133 (gd rfl) rfl rfl ?_
              refine g_iload_n 134 (gd rfl) rfl rfl ?_
              refine g_callv (X := _) (As := [.int z55, .int y42_3, .int z126]) (r := []) (b := A 94) (q := 94) 137 (gd rfl) rfl rfl rfl rfl rfl (ww_o rfl) (Nat.le_of_ble_eq_true rfl) (Nat.zero_le _) (Nat.zero_le _) (k_160_94 (by omega) hI123 (in_w 0 65535 i98 rfl) (in_w 0 59 i47 rfl) (in_w 0 10 i126 rfl)) (fun e u h => h) (fun v u h => ?_)
              obtain ⟨s134, hI134, hF134, rfl, rfl⟩ := h
              show GG _ _ _ _ _ _ _ _ [] _ _ _
              refine g_iload_n 138 (gd rfl) rfl rfl ?_
              refine g_iconst 1 139 (gd rfl) rfl rfl ?_
              refine g_iadd 140 (gd rfl) rfl (fun z139 e139 => ?_)
              have i139 := in_add 1 60 e139 i47 (in_c 1 rfl) rfl rfl
              refine g_aload_n 141 (gd rfl) rfl rfl ?_
              refine g_getI 144 (gd rfl) rfl rfl rfl (fun z141 e141 => ?_)
              have q141 : u_46_1 = z141 := (fr_F (fr_F (fr_F e_46_1 hFc42 rfl) hF123 rfl) hF134 rfl).trans e141.symm
              subst q141
              refine g_cmp_ge 147 164 (gd rfl) rfl rfl (fun c144 => ?_) (fun c144 => ?_)
              · skip
                refine g_iinc 167 (gd rfl) rfl rfl (Nat.le_of_ble_eq_true rfl) (fun z164 e164 => ?_)
                have i164 := in_add 1 60 e164 i47 (in_c 1 rfl) rfl rfl
                refine g_goto 42 (gd rfl) rfl ?_
                exact gg_w (by omega) (gg_f (gf_cons rfl (gf_cons rfl (gf_cons rfl (gf_cons rfl gf_nil)))) (ih42 s134 z126 z164 hI134 (fr_tr rfl (fr_tr rfl hFc42 hF123) hF134) (in_w 0 10 i126 rfl) (in_w 0 60 i164 rfl) (m_up mm42 (t_add e164 i47 (in_c 1 rfl) rfl) (in_w 1 1 (in_c 1 rfl) rfl))))
              · skip
                have i144 := r_lt1 1 59 c144 i139 i47a rfl
                have i144a := r_lt2 2 60 c144 i139 i47a rfl
                refine g_aload_n 148 (gd rfl) rfl rfl ?_
                refine g_aload_n 149 (gd rfl) rfl rfl ?_
                refine g_getA (q2 := 47) 152 (gd rfl) rfl rfl rfl rfl ?_
                refine g_iload_n 153 (gd rfl) rfl rfl ?_
                refine g_iconst 1 154 (gd rfl) rfl rfl ?_
                refine g_iadd 155 (gd rfl) rfl (fun z154 e154 => ?_)
                have i154 := in_add 1 60 e154 i47 (in_c 1 rfl) rfl rfl
                refine g_caload 156 (gd rfl) rfl (n := 1000) rfl (in_ix i154 rfl) (fun z155 e155 => ?_)
                have i155 := inv_I hI134 (n := 1000) (t := 2) 0 65535 rfl (in_ix i154 rfl) rfl e155
                refine g_iload 158 (gd rfl) rfl rfl ?_
                refine g_iload_n 159 (gd rfl) rfl rfl ?_
                refine g_iconst 1 160 (gd rfl) rfl rfl ?_
                refine g_iadd 161 (gd rfl) rfl (fun z160 e160 => ?_)
                have i160 := in_add 1 60 e160 i47 (in_c 1 rfl) rfl rfl
                refine g_callv (X := _) (As := [.int z155, .int z110, .int z160]) (r := []) (b := A 94) (q := 94) 164 (gd rfl) rfl rfl rfl rfl rfl (ww_o rfl) (Nat.le_of_ble_eq_true rfl) (mc := 0) (ms := 0) (Nat.zero_le _) (Nat.zero_le _) (P := fun v u => _) ?_ (fun e u h => h) (fun v u h => h)
                intro po161 xx161 hp161 hx161
                refine g_enter2 (k := 161) (N := 300) (by omega) rfl (Nat.le_of_ble_eq_true rfl) ?_
                refine g_iload_n 1 (gd rfl) rfl rfl ?_
                refine g_bipush 42 3 (gd rfl) rfl rfl ?_
                refine g_cmp_eq 6 12 (gd rfl) rfl rfl (fun c161x3 => ?_) (fun c161x3 => ?_)
                · skip
                  have i161x3 := r_eq1 42 42 c161x3 i155 (in_c 42 rfl) rfl
                  refine g_aload_n 13 (gd rfl) rfl rfl ?_
                  refine g_getA (q2 := 95) 16 (gd rfl) rfl rfl rfl rfl ?_
                  refine g_iload_n 17 (gd rfl) rfl rfl ?_
                  refine g_dup2 18 (gd rfl) rfl rfl rfl ?_
                  refine g_laload 19 (gd rfl) rfl (n := 61) rfl (in_ix i160 rfl) (fun z161x18 e161x18 => ?_)
                  have i161x18 := inv_L hI134 (n := 61) 0 2305843009213693951 rfl (in_ix i160 rfl) rfl e161x18
                  refine g_lconst 1 20 (gd rfl) rfl rfl ?_
                  refine g_iload_n 21 (gd rfl) rfl rfl ?_
                  refine g_lshl 22 (gd rfl) rfl (fun z161x21 e161x21 => ?_)
                  have i161x21 := l_shl 60 e161x21 i110 rfl
                  refine g_lor 23 (gd rfl) rfl (fun z161x22 e161x22 => ?_)
                  have i161x22 := inl_or 61 e161x22 (lw 0 2305843009213693951 i161x18 rfl) (lw 0 2305843009213693951 i161x21 rfl) rfl
                  refine g_lastore 24 (gd rfl) rfl (n := 61) rfl (in_ix i160 rfl) ?_
                  have hI161x23 := inv_sL (q := 95) (j := z160.toNatClampNeg) (x := z161x22) hI134 rfl (lw 0 2305843009213693951 i161x22 rfl)
                  refine g_iload_n 25 (gd rfl) rfl rfl ?_
                  refine g_bipush 42 27 (gd rfl) rfl rfl ?_
                  refine g_cmp_eq 30 36 (gd rfl) rfl rfl (fun c161x27 => ?_) (fun c161x27 => ?_)
                  · skip
                    refine g_aload_n 37 (gd rfl) rfl rfl ?_
                    refine g_getA (q2 := 95) 40 (gd rfl) rfl rfl rfl rfl ?_
                    refine g_iload_n 41 (gd rfl) rfl rfl ?_
                    refine g_dup2 42 (gd rfl) rfl rfl rfl ?_
                    refine g_laload 43 (gd rfl) rfl (n := 61) rfl (in_ix i110 rfl) (fun z161x42 e161x42 => ?_)
                    have i161x42 := inv_L hI161x23 (n := 61) 0 2305843009213693951 rfl (in_ix i110 rfl) rfl e161x42
                    refine g_lconst 1 44 (gd rfl) rfl rfl ?_
                    refine g_iload_n 45 (gd rfl) rfl rfl ?_
                    refine g_lshl 46 (gd rfl) rfl (fun z161x45 e161x45 => ?_)
                    have i161x45 := l_shl 60 e161x45 i160 rfl
                    refine g_lor 47 (gd rfl) rfl (fun z161x46 e161x46 => ?_)
                    have i161x46 := inl_or 61 e161x46 (lw 0 2305843009213693951 i161x42 rfl) (lw 0 2305843009213693951 i161x45 rfl) rfl
                    refine g_lastore 48 (gd rfl) rfl (n := 61) rfl (in_ix i110 rfl) ?_
                    have hI161x47 := inv_sL (q := 95) (j := z110.toNatClampNeg) (x := z161x46) hI161x23 rfl (lw 0 2305843009213693951 i161x46 rfl)
                    refine g_return (gd rfl) rfl (hp161 _ _ ?_)
                    show GG _ _ _ _ _ _ _ _ [] _ _ _
                    refine g_iinc 167 (gd rfl) rfl rfl (Nat.le_of_ble_eq_true rfl) (fun z164 e164 => ?_)
                    have i164 := in_add 1 60 e164 i47 (in_c 1 rfl) rfl rfl
                    refine g_goto 42 (gd rfl) rfl ?_
                    exact gg_w (by omega) (gg_f (gf_cons rfl (gf_cons rfl (gf_cons rfl (gf_cons rfl gf_nil)))) (ih42 (sL (sL s134 95 z160.toNatClampNeg z161x22) 95 z110.toNatClampNeg z161x46) z126 z164 hI161x47 (fr_sL rfl (fr_sL rfl (fr_tr rfl (fr_tr rfl hFc42 hF123) hF134))) (in_w 0 10 i126 rfl) (in_w 0 60 i164 rfl) (m_up mm42 (t_add e164 i47 (in_c 1 rfl) rfl) (in_w 1 1 (in_c 1 rfl) rfl))))
                  · skip
                    exact n_ne c161x27 i161x3 (in_c 42 rfl) rfl
                · skip
                  refine g_iload_n 7 (gd rfl) rfl rfl ?_
                  refine g_bipush 43 9 (gd rfl) rfl rfl ?_
                  refine g_cmp_ne 12 24 (gd rfl) rfl rfl (fun c161x9 => ?_) (fun c161x9 => ?_)
                  · skip
                    refine g_iload_n 25 (gd rfl) rfl rfl ?_
                    refine g_bipush 42 27 (gd rfl) rfl rfl ?_
                    refine g_cmp_eq 30 36 (gd rfl) rfl rfl (fun c161x27 => ?_) (fun c161x27 => ?_)
                    · skip
                      exact absurd c161x27 c161x3
                    · skip
                      refine g_iload_n 31 (gd rfl) rfl rfl ?_
                      refine g_bipush 63 33 (gd rfl) rfl rfl ?_
                      refine g_cmp_ne 36 48 (gd rfl) rfl rfl (fun c161x33 => ?_) (fun c161x33 => ?_)
                      · skip
                        refine g_return (gd rfl) rfl (hp161 _ _ ?_)
                        show GG _ _ _ _ _ _ _ _ [] _ _ _
                        refine g_iinc 167 (gd rfl) rfl rfl (Nat.le_of_ble_eq_true rfl) (fun z164 e164 => ?_)
                        have i164 := in_add 1 60 e164 i47 (in_c 1 rfl) rfl rfl
                        refine g_goto 42 (gd rfl) rfl ?_
                        exact gg_w (by omega) (gg_f (gf_cons rfl (gf_cons rfl (gf_cons rfl (gf_cons rfl gf_nil)))) (ih42 s134 z126 z164 hI134 (fr_tr rfl (fr_tr rfl hFc42 hF123) hF134) (in_w 0 10 i126 rfl) (in_w 0 60 i164 rfl) (m_up mm42 (t_add e164 i47 (in_c 1 rfl) rfl) (in_w 1 1 (in_c 1 rfl) rfl))))
                      · skip
                        have i161x33 := r_eq1 63 63 c161x33 i155 (in_c 63 rfl) rfl
                        refine g_aload_n 37 (gd rfl) rfl rfl ?_
                        refine g_getA (q2 := 95) 40 (gd rfl) rfl rfl rfl rfl ?_
                        refine g_iload_n 41 (gd rfl) rfl rfl ?_
                        refine g_dup2 42 (gd rfl) rfl rfl rfl ?_
                        refine g_laload 43 (gd rfl) rfl (n := 61) rfl (in_ix i110 rfl) (fun z161x42 e161x42 => ?_)
                        have i161x42 := inv_L hI134 (n := 61) 0 2305843009213693951 rfl (in_ix i110 rfl) rfl e161x42
                        refine g_lconst 1 44 (gd rfl) rfl rfl ?_
                        refine g_iload_n 45 (gd rfl) rfl rfl ?_
                        refine g_lshl 46 (gd rfl) rfl (fun z161x45 e161x45 => ?_)
                        have i161x45 := l_shl 60 e161x45 i160 rfl
                        refine g_lor 47 (gd rfl) rfl (fun z161x46 e161x46 => ?_)
                        have i161x46 := inl_or 61 e161x46 (lw 0 2305843009213693951 i161x42 rfl) (lw 0 2305843009213693951 i161x45 rfl) rfl
                        refine g_lastore 48 (gd rfl) rfl (n := 61) rfl (in_ix i110 rfl) ?_
                        have hI161x47 := inv_sL (q := 95) (j := z110.toNatClampNeg) (x := z161x46) hI134 rfl (lw 0 2305843009213693951 i161x46 rfl)
                        refine g_return (gd rfl) rfl (hp161 _ _ ?_)
                        show GG _ _ _ _ _ _ _ _ [] _ _ _
                        refine g_iinc 167 (gd rfl) rfl rfl (Nat.le_of_ble_eq_true rfl) (fun z164 e164 => ?_)
                        have i164 := in_add 1 60 e164 i47 (in_c 1 rfl) rfl rfl
                        refine g_goto 42 (gd rfl) rfl ?_
                        exact gg_w (by omega) (gg_f (gf_cons rfl (gf_cons rfl (gf_cons rfl (gf_cons rfl gf_nil)))) (ih42 (sL s134 95 z110.toNatClampNeg z161x46) z126 z164 hI161x47 (fr_sL rfl (fr_tr rfl (fr_tr rfl hFc42 hF123) hF134)) (in_w 0 10 i126 rfl) (in_w 0 60 i164 rfl) (m_up mm42 (t_add e164 i47 (in_c 1 rfl) rfl) (in_w 1 1 (in_c 1 rfl) rfl))))
                  · skip
                    have i161x9 := r_eq1 43 43 c161x9 i155 (in_c 43 rfl) rfl
                    refine g_aload_n 13 (gd rfl) rfl rfl ?_
                    refine g_getA (q2 := 95) 16 (gd rfl) rfl rfl rfl rfl ?_
                    refine g_iload_n 17 (gd rfl) rfl rfl ?_
                    refine g_dup2 18 (gd rfl) rfl rfl rfl ?_
                    refine g_laload 19 (gd rfl) rfl (n := 61) rfl (in_ix i160 rfl) (fun z161x18 e161x18 => ?_)
                    have i161x18 := inv_L hI134 (n := 61) 0 2305843009213693951 rfl (in_ix i160 rfl) rfl e161x18
                    refine g_lconst 1 20 (gd rfl) rfl rfl ?_
                    refine g_iload_n 21 (gd rfl) rfl rfl ?_
                    refine g_lshl 22 (gd rfl) rfl (fun z161x21 e161x21 => ?_)
                    have i161x21 := l_shl 60 e161x21 i110 rfl
                    refine g_lor 23 (gd rfl) rfl (fun z161x22 e161x22 => ?_)
                    have i161x22 := inl_or 61 e161x22 (lw 0 2305843009213693951 i161x18 rfl) (lw 0 2305843009213693951 i161x21 rfl) rfl
                    refine g_lastore 24 (gd rfl) rfl (n := 61) rfl (in_ix i160 rfl) ?_
                    have hI161x23 := inv_sL (q := 95) (j := z160.toNatClampNeg) (x := z161x22) hI134 rfl (lw 0 2305843009213693951 i161x22 rfl)
                    refine g_iload_n 25 (gd rfl) rfl rfl ?_
                    refine g_bipush 42 27 (gd rfl) rfl rfl ?_
                    refine g_cmp_eq 30 36 (gd rfl) rfl rfl (fun c161x27 => ?_) (fun c161x27 => ?_)
                    · skip
                      exact absurd c161x27 c161x3
                    · skip
                      refine g_iload_n 31 (gd rfl) rfl rfl ?_
                      refine g_bipush 63 33 (gd rfl) rfl rfl ?_
                      refine g_cmp_ne 36 48 (gd rfl) rfl rfl (fun c161x33 => ?_) (fun c161x33 => ?_)
                      · skip
                        refine g_return (gd rfl) rfl (hp161 _ _ ?_)
                        show GG _ _ _ _ _ _ _ _ [] _ _ _
                        refine g_iinc 167 (gd rfl) rfl rfl (Nat.le_of_ble_eq_true rfl) (fun z164 e164 => ?_)
                        have i164 := in_add 1 60 e164 i47 (in_c 1 rfl) rfl rfl
                        refine g_goto 42 (gd rfl) rfl ?_
                        exact gg_w (by omega) (gg_f (gf_cons rfl (gf_cons rfl (gf_cons rfl (gf_cons rfl gf_nil)))) (ih42 (sL s134 95 z160.toNatClampNeg z161x22) z126 z164 hI161x23 (fr_sL rfl (fr_tr rfl (fr_tr rfl hFc42 hF123) hF134)) (in_w 0 10 i126 rfl) (in_w 0 60 i164 rfl) (m_up mm42 (t_add e164 i47 (in_c 1 rfl) rfl) (in_w 1 1 (in_c 1 rfl) rfl))))
                      · skip
                        exact n_eq c161x33 i161x9 (in_c 63 rfl) rfl
        · skip
          have i65 := r_eq1 40 40 c65 i55 (in_c 40 rfl) rfl
          refine g_iload_n 69 (gd rfl) rfl rfl ?_
          refine g_bipush 10 71 (gd rfl) rfl rfl ?_
          refine g_cmp_ge 74 94 (gd rfl) rfl rfl (fun c71 => ?_) (fun c71 => ?_)
          · skip
            have i71 := r_le2 10 10 c71 (in_c 10 rfl) j42_2 rfl
            refine g_iload 96 (gd rfl) rfl rfl ?_
            refine g_bipush 41 98 (gd rfl) rfl rfl ?_
            refine g_cmp_ne 101 129 (gd rfl) rfl rfl (fun c98 => ?_) (fun c98 => ?_)
            · skip
              refine g_aload_n 130 (gd rfl) rfl rfl ?_
              refine g_iload 132 (gd rfl) rfl rfl ?_
              refine g_iload_n 133 (gd rfl) rfl rfl ?_
              refine g_iload_n 134 (gd rfl) rfl rfl ?_
              refine g_callv (X := _) (As := [.int z55, .int y42_3, .int y42_2]) (r := []) (b := A 94) (q := 94) 137 (gd rfl) rfl rfl rfl rfl rfl (ww_o rfl) (Nat.le_of_ble_eq_true rfl) (Nat.zero_le _) (Nat.zero_le _) (k_160_94 (by omega) hIc42 (in_w 0 65535 i65 rfl) (in_w 0 59 i47 rfl) (in_w 0 10 i71 rfl)) (fun e u h => h) (fun v u h => ?_)
              obtain ⟨s134, hI134, hF134, rfl, rfl⟩ := h
              show GG _ _ _ _ _ _ _ _ [] _ _ _
              refine g_iload_n 138 (gd rfl) rfl rfl ?_
              refine g_iconst 1 139 (gd rfl) rfl rfl ?_
              refine g_iadd 140 (gd rfl) rfl (fun z139 e139 => ?_)
              have i139 := in_add 1 60 e139 i47 (in_c 1 rfl) rfl rfl
              refine g_aload_n 141 (gd rfl) rfl rfl ?_
              refine g_getI 144 (gd rfl) rfl rfl rfl (fun z141 e141 => ?_)
              have q141 : u_46_1 = z141 := (fr_F (fr_F e_46_1 hFc42 rfl) hF134 rfl).trans e141.symm
              subst q141
              refine g_cmp_ge 147 164 (gd rfl) rfl rfl (fun c144 => ?_) (fun c144 => ?_)
              · skip
                refine g_iinc 167 (gd rfl) rfl rfl (Nat.le_of_ble_eq_true rfl) (fun z164 e164 => ?_)
                have i164 := in_add 1 60 e164 i47 (in_c 1 rfl) rfl rfl
                refine g_goto 42 (gd rfl) rfl ?_
                exact gg_w (by omega) (gg_f (gf_cons rfl (gf_cons rfl (gf_cons rfl (gf_cons rfl gf_nil)))) (ih42 s134 y42_2 z164 hI134 (fr_tr rfl hFc42 hF134) (in_w 0 10 i71 rfl) (in_w 0 60 i164 rfl) (m_up mm42 (t_add e164 i47 (in_c 1 rfl) rfl) (in_w 1 1 (in_c 1 rfl) rfl))))
              · skip
                have i144 := r_lt1 1 59 c144 i139 i47a rfl
                have i144a := r_lt2 2 60 c144 i139 i47a rfl
                refine g_aload_n 148 (gd rfl) rfl rfl ?_
                refine g_aload_n 149 (gd rfl) rfl rfl ?_
                refine g_getA (q2 := 47) 152 (gd rfl) rfl rfl rfl rfl ?_
                refine g_iload_n 153 (gd rfl) rfl rfl ?_
                refine g_iconst 1 154 (gd rfl) rfl rfl ?_
                refine g_iadd 155 (gd rfl) rfl (fun z154 e154 => ?_)
                have i154 := in_add 1 60 e154 i47 (in_c 1 rfl) rfl rfl
                refine g_caload 156 (gd rfl) rfl (n := 1000) rfl (in_ix i154 rfl) (fun z155 e155 => ?_)
                have i155 := inv_I hI134 (n := 1000) (t := 2) 0 65535 rfl (in_ix i154 rfl) rfl e155
                refine g_iload 158 (gd rfl) rfl rfl ?_
                refine g_iload_n 159 (gd rfl) rfl rfl ?_
                refine g_iconst 1 160 (gd rfl) rfl rfl ?_
                refine g_iadd 161 (gd rfl) rfl (fun z160 e160 => ?_)
                have i160 := in_add 1 60 e160 i47 (in_c 1 rfl) rfl rfl
                refine g_callv (X := _) (As := [.int z155, .int y42_3, .int z160]) (r := []) (b := A 94) (q := 94) 164 (gd rfl) rfl rfl rfl rfl rfl (ww_o rfl) (Nat.le_of_ble_eq_true rfl) (mc := 0) (ms := 0) (Nat.zero_le _) (Nat.zero_le _) (P := fun v u => _) ?_ (fun e u h => h) (fun v u h => h)
                intro po161 xx161 hp161 hx161
                refine g_enter2 (k := 161) (N := 300) (by omega) rfl (Nat.le_of_ble_eq_true rfl) ?_
                refine g_iload_n 1 (gd rfl) rfl rfl ?_
                refine g_bipush 42 3 (gd rfl) rfl rfl ?_
                refine g_cmp_eq 6 12 (gd rfl) rfl rfl (fun c161x3 => ?_) (fun c161x3 => ?_)
                · skip
                  have i161x3 := r_eq1 42 42 c161x3 i155 (in_c 42 rfl) rfl
                  refine g_aload_n 13 (gd rfl) rfl rfl ?_
                  refine g_getA (q2 := 95) 16 (gd rfl) rfl rfl rfl rfl ?_
                  refine g_iload_n 17 (gd rfl) rfl rfl ?_
                  refine g_dup2 18 (gd rfl) rfl rfl rfl ?_
                  refine g_laload 19 (gd rfl) rfl (n := 61) rfl (in_ix i160 rfl) (fun z161x18 e161x18 => ?_)
                  have i161x18 := inv_L hI134 (n := 61) 0 2305843009213693951 rfl (in_ix i160 rfl) rfl e161x18
                  refine g_lconst 1 20 (gd rfl) rfl rfl ?_
                  refine g_iload_n 21 (gd rfl) rfl rfl ?_
                  refine g_lshl 22 (gd rfl) rfl (fun z161x21 e161x21 => ?_)
                  have i161x21 := l_shl 59 e161x21 i47 rfl
                  refine g_lor 23 (gd rfl) rfl (fun z161x22 e161x22 => ?_)
                  have i161x22 := inl_or 61 e161x22 (lw 0 2305843009213693951 i161x18 rfl) (lw 0 2305843009213693951 i161x21 rfl) rfl
                  refine g_lastore 24 (gd rfl) rfl (n := 61) rfl (in_ix i160 rfl) ?_
                  have hI161x23 := inv_sL (q := 95) (j := z160.toNatClampNeg) (x := z161x22) hI134 rfl (lw 0 2305843009213693951 i161x22 rfl)
                  refine g_iload_n 25 (gd rfl) rfl rfl ?_
                  refine g_bipush 42 27 (gd rfl) rfl rfl ?_
                  refine g_cmp_eq 30 36 (gd rfl) rfl rfl (fun c161x27 => ?_) (fun c161x27 => ?_)
                  · skip
                    refine g_aload_n 37 (gd rfl) rfl rfl ?_
                    refine g_getA (q2 := 95) 40 (gd rfl) rfl rfl rfl rfl ?_
                    refine g_iload_n 41 (gd rfl) rfl rfl ?_
                    refine g_dup2 42 (gd rfl) rfl rfl rfl ?_
                    refine g_laload 43 (gd rfl) rfl (n := 61) rfl (in_ix i47 rfl) (fun z161x42 e161x42 => ?_)
                    have i161x42 := inv_L hI161x23 (n := 61) 0 2305843009213693951 rfl (in_ix i47 rfl) rfl e161x42
                    refine g_lconst 1 44 (gd rfl) rfl rfl ?_
                    refine g_iload_n 45 (gd rfl) rfl rfl ?_
                    refine g_lshl 46 (gd rfl) rfl (fun z161x45 e161x45 => ?_)
                    have i161x45 := l_shl 60 e161x45 i160 rfl
                    refine g_lor 47 (gd rfl) rfl (fun z161x46 e161x46 => ?_)
                    have i161x46 := inl_or 61 e161x46 (lw 0 2305843009213693951 i161x42 rfl) (lw 0 2305843009213693951 i161x45 rfl) rfl
                    refine g_lastore 48 (gd rfl) rfl (n := 61) rfl (in_ix i47 rfl) ?_
                    have hI161x47 := inv_sL (q := 95) (j := y42_3.toNatClampNeg) (x := z161x46) hI161x23 rfl (lw 0 2305843009213693951 i161x46 rfl)
                    refine g_return (gd rfl) rfl (hp161 _ _ ?_)
                    show GG _ _ _ _ _ _ _ _ [] _ _ _
                    refine g_iinc 167 (gd rfl) rfl rfl (Nat.le_of_ble_eq_true rfl) (fun z164 e164 => ?_)
                    have i164 := in_add 1 60 e164 i47 (in_c 1 rfl) rfl rfl
                    refine g_goto 42 (gd rfl) rfl ?_
                    exact gg_w (by omega) (gg_f (gf_cons rfl (gf_cons rfl (gf_cons rfl (gf_cons rfl gf_nil)))) (ih42 (sL (sL s134 95 z160.toNatClampNeg z161x22) 95 y42_3.toNatClampNeg z161x46) y42_2 z164 hI161x47 (fr_sL rfl (fr_sL rfl (fr_tr rfl hFc42 hF134))) (in_w 0 10 i71 rfl) (in_w 0 60 i164 rfl) (m_up mm42 (t_add e164 i47 (in_c 1 rfl) rfl) (in_w 1 1 (in_c 1 rfl) rfl))))
                  · skip
                    exact n_ne c161x27 i161x3 (in_c 42 rfl) rfl
                · skip
                  refine g_iload_n 7 (gd rfl) rfl rfl ?_
                  refine g_bipush 43 9 (gd rfl) rfl rfl ?_
                  refine g_cmp_ne 12 24 (gd rfl) rfl rfl (fun c161x9 => ?_) (fun c161x9 => ?_)
                  · skip
                    refine g_iload_n 25 (gd rfl) rfl rfl ?_
                    refine g_bipush 42 27 (gd rfl) rfl rfl ?_
                    refine g_cmp_eq 30 36 (gd rfl) rfl rfl (fun c161x27 => ?_) (fun c161x27 => ?_)
                    · skip
                      exact absurd c161x27 c161x3
                    · skip
                      refine g_iload_n 31 (gd rfl) rfl rfl ?_
                      refine g_bipush 63 33 (gd rfl) rfl rfl ?_
                      refine g_cmp_ne 36 48 (gd rfl) rfl rfl (fun c161x33 => ?_) (fun c161x33 => ?_)
                      · skip
                        refine g_return (gd rfl) rfl (hp161 _ _ ?_)
                        show GG _ _ _ _ _ _ _ _ [] _ _ _
                        refine g_iinc 167 (gd rfl) rfl rfl (Nat.le_of_ble_eq_true rfl) (fun z164 e164 => ?_)
                        have i164 := in_add 1 60 e164 i47 (in_c 1 rfl) rfl rfl
                        refine g_goto 42 (gd rfl) rfl ?_
                        exact gg_w (by omega) (gg_f (gf_cons rfl (gf_cons rfl (gf_cons rfl (gf_cons rfl gf_nil)))) (ih42 s134 y42_2 z164 hI134 (fr_tr rfl hFc42 hF134) (in_w 0 10 i71 rfl) (in_w 0 60 i164 rfl) (m_up mm42 (t_add e164 i47 (in_c 1 rfl) rfl) (in_w 1 1 (in_c 1 rfl) rfl))))
                      · skip
                        have i161x33 := r_eq1 63 63 c161x33 i155 (in_c 63 rfl) rfl
                        refine g_aload_n 37 (gd rfl) rfl rfl ?_
                        refine g_getA (q2 := 95) 40 (gd rfl) rfl rfl rfl rfl ?_
                        refine g_iload_n 41 (gd rfl) rfl rfl ?_
                        refine g_dup2 42 (gd rfl) rfl rfl rfl ?_
                        refine g_laload 43 (gd rfl) rfl (n := 61) rfl (in_ix i47 rfl) (fun z161x42 e161x42 => ?_)
                        have i161x42 := inv_L hI134 (n := 61) 0 2305843009213693951 rfl (in_ix i47 rfl) rfl e161x42
                        refine g_lconst 1 44 (gd rfl) rfl rfl ?_
                        refine g_iload_n 45 (gd rfl) rfl rfl ?_
                        refine g_lshl 46 (gd rfl) rfl (fun z161x45 e161x45 => ?_)
                        have i161x45 := l_shl 60 e161x45 i160 rfl
                        refine g_lor 47 (gd rfl) rfl (fun z161x46 e161x46 => ?_)
                        have i161x46 := inl_or 61 e161x46 (lw 0 2305843009213693951 i161x42 rfl) (lw 0 2305843009213693951 i161x45 rfl) rfl
                        refine g_lastore 48 (gd rfl) rfl (n := 61) rfl (in_ix i47 rfl) ?_
                        have hI161x47 := inv_sL (q := 95) (j := y42_3.toNatClampNeg) (x := z161x46) hI134 rfl (lw 0 2305843009213693951 i161x46 rfl)
                        refine g_return (gd rfl) rfl (hp161 _ _ ?_)
                        show GG _ _ _ _ _ _ _ _ [] _ _ _
                        refine g_iinc 167 (gd rfl) rfl rfl (Nat.le_of_ble_eq_true rfl) (fun z164 e164 => ?_)
                        have i164 := in_add 1 60 e164 i47 (in_c 1 rfl) rfl rfl
                        refine g_goto 42 (gd rfl) rfl ?_
                        exact gg_w (by omega) (gg_f (gf_cons rfl (gf_cons rfl (gf_cons rfl (gf_cons rfl gf_nil)))) (ih42 (sL s134 95 y42_3.toNatClampNeg z161x46) y42_2 z164 hI161x47 (fr_sL rfl (fr_tr rfl hFc42 hF134)) (in_w 0 10 i71 rfl) (in_w 0 60 i164 rfl) (m_up mm42 (t_add e164 i47 (in_c 1 rfl) rfl) (in_w 1 1 (in_c 1 rfl) rfl))))
                  · skip
                    have i161x9 := r_eq1 43 43 c161x9 i155 (in_c 43 rfl) rfl
                    refine g_aload_n 13 (gd rfl) rfl rfl ?_
                    refine g_getA (q2 := 95) 16 (gd rfl) rfl rfl rfl rfl ?_
                    refine g_iload_n 17 (gd rfl) rfl rfl ?_
                    refine g_dup2 18 (gd rfl) rfl rfl rfl ?_
                    refine g_laload 19 (gd rfl) rfl (n := 61) rfl (in_ix i160 rfl) (fun z161x18 e161x18 => ?_)
                    have i161x18 := inv_L hI134 (n := 61) 0 2305843009213693951 rfl (in_ix i160 rfl) rfl e161x18
                    refine g_lconst 1 20 (gd rfl) rfl rfl ?_
                    refine g_iload_n 21 (gd rfl) rfl rfl ?_
                    refine g_lshl 22 (gd rfl) rfl (fun z161x21 e161x21 => ?_)
                    have i161x21 := l_shl 59 e161x21 i47 rfl
                    refine g_lor 23 (gd rfl) rfl (fun z161x22 e161x22 => ?_)
                    have i161x22 := inl_or 61 e161x22 (lw 0 2305843009213693951 i161x18 rfl) (lw 0 2305843009213693951 i161x21 rfl) rfl
                    refine g_lastore 24 (gd rfl) rfl (n := 61) rfl (in_ix i160 rfl) ?_
                    have hI161x23 := inv_sL (q := 95) (j := z160.toNatClampNeg) (x := z161x22) hI134 rfl (lw 0 2305843009213693951 i161x22 rfl)
                    refine g_iload_n 25 (gd rfl) rfl rfl ?_
                    refine g_bipush 42 27 (gd rfl) rfl rfl ?_
                    refine g_cmp_eq 30 36 (gd rfl) rfl rfl (fun c161x27 => ?_) (fun c161x27 => ?_)
                    · skip
                      exact absurd c161x27 c161x3
                    · skip
                      refine g_iload_n 31 (gd rfl) rfl rfl ?_
                      refine g_bipush 63 33 (gd rfl) rfl rfl ?_
                      refine g_cmp_ne 36 48 (gd rfl) rfl rfl (fun c161x33 => ?_) (fun c161x33 => ?_)
                      · skip
                        refine g_return (gd rfl) rfl (hp161 _ _ ?_)
                        show GG _ _ _ _ _ _ _ _ [] _ _ _
                        refine g_iinc 167 (gd rfl) rfl rfl (Nat.le_of_ble_eq_true rfl) (fun z164 e164 => ?_)
                        have i164 := in_add 1 60 e164 i47 (in_c 1 rfl) rfl rfl
                        refine g_goto 42 (gd rfl) rfl ?_
                        exact gg_w (by omega) (gg_f (gf_cons rfl (gf_cons rfl (gf_cons rfl (gf_cons rfl gf_nil)))) (ih42 (sL s134 95 z160.toNatClampNeg z161x22) y42_2 z164 hI161x23 (fr_sL rfl (fr_tr rfl hFc42 hF134)) (in_w 0 10 i71 rfl) (in_w 0 60 i164 rfl) (m_up mm42 (t_add e164 i47 (in_c 1 rfl) rfl) (in_w 1 1 (in_c 1 rfl) rfl))))
                      · skip
                        exact n_eq c161x33 i161x9 (in_c 63 rfl) rfl
            · skip
              exact n_eq c98 i65 (in_c 41 rfl) rfl
          · skip
            have i71 := r_lt1 0 9 c71 j42_2 (in_c 10 rfl) rfl
            refine g_iinc 77 (gd rfl) rfl rfl (Nat.le_of_ble_eq_true rfl) (fun z74 e74 => ?_)
            have i74 := in_add 1 10 e74 i71 (in_c 1 rfl) rfl rfl
            refine g_aload_n 78 (gd rfl) rfl rfl ?_
            refine g_getA (q2 := 97) 81 (gd rfl) rfl rfl rfl rfl ?_
            refine g_iload_n 82 (gd rfl) rfl rfl ?_
            refine g_iload_n 83 (gd rfl) rfl rfl ?_
            refine g_iastore 84 (gd rfl) rfl (n := 11) rfl (in_ix i74 rfl) ?_
            have hI83 := inv_sI (q := 97) (j := z74.toNatClampNeg) hIc42 rfl (in_w 0 60 i47 rfl)
            refine g_aload_n 85 (gd rfl) rfl rfl ?_
            refine g_getA (q2 := 98) 88 (gd rfl) rfl rfl rfl rfl ?_
            refine g_iload_n 89 (gd rfl) rfl rfl ?_
            refine g_lconst 0 90 (gd rfl) rfl rfl ?_
            refine g_lastore 91 (gd rfl) rfl (n := 11) rfl (in_ix i74 rfl) ?_
            have hI90 := inv_sL (q := 98) (j := z74.toNatClampNeg) (x := (Int64.ofInt 0)) hI83 rfl (lw 0 1152921504606846975 (l_c 0 rfl) rfl)
            refine g_goto 129 (gd rfl) rfl ?_
            refine g_aload_n 130 (gd rfl) rfl rfl ?_
            refine g_iload 132 (gd rfl) rfl rfl ?_
            refine g_iload_n 133 (gd rfl) rfl rfl ?_
            refine g_iload_n 134 (gd rfl) rfl rfl ?_
            refine g_callv (X := _) (As := [.int z55, .int y42_3, .int z74]) (r := []) (b := A 94) (q := 94) 137 (gd rfl) rfl rfl rfl rfl rfl (ww_o rfl) (Nat.le_of_ble_eq_true rfl) (Nat.zero_le _) (Nat.zero_le _) (k_160_94 (by omega) hI90 (in_w 0 65535 i65 rfl) (in_w 0 59 i47 rfl) (in_w 0 10 i74 rfl)) (fun e u h => h) (fun v u h => ?_)
            obtain ⟨s134, hI134, hF134, rfl, rfl⟩ := h
            show GG _ _ _ _ _ _ _ _ [] _ _ _
            refine g_iload_n 138 (gd rfl) rfl rfl ?_
            refine g_iconst 1 139 (gd rfl) rfl rfl ?_
            refine g_iadd 140 (gd rfl) rfl (fun z139 e139 => ?_)
            have i139 := in_add 1 60 e139 i47 (in_c 1 rfl) rfl rfl
            refine g_aload_n 141 (gd rfl) rfl rfl ?_
            refine g_getI 144 (gd rfl) rfl rfl rfl (fun z141 e141 => ?_)
            have q141 : u_46_1 = z141 := (fr_F (s := (sL (sI sc42 97 z74.toNatClampNeg y42_3) 98 z74.toNatClampNeg (Int64.ofInt 0))) (sL_F (sI_F (fr_F e_46_1 hFc42 rfl))) hF134 rfl).trans e141.symm
            subst q141
            refine g_cmp_ge 147 164 (gd rfl) rfl rfl (fun c144 => ?_) (fun c144 => ?_)
            · skip
              refine g_iinc 167 (gd rfl) rfl rfl (Nat.le_of_ble_eq_true rfl) (fun z164 e164 => ?_)
              have i164 := in_add 1 60 e164 i47 (in_c 1 rfl) rfl rfl
              refine g_goto 42 (gd rfl) rfl ?_
              exact gg_w (by omega) (gg_f (gf_cons rfl (gf_cons rfl (gf_cons rfl (gf_cons rfl gf_nil)))) (ih42 s134 z74 z164 hI134 (fr_tr rfl (fr_sL rfl (fr_sI rfl hFc42)) hF134) (in_w 0 10 i74 rfl) (in_w 0 60 i164 rfl) (m_up mm42 (t_add e164 i47 (in_c 1 rfl) rfl) (in_w 1 1 (in_c 1 rfl) rfl))))
            · skip
              have i144 := r_lt1 1 59 c144 i139 i47a rfl
              have i144a := r_lt2 2 60 c144 i139 i47a rfl
              refine g_aload_n 148 (gd rfl) rfl rfl ?_
              refine g_aload_n 149 (gd rfl) rfl rfl ?_
              refine g_getA (q2 := 47) 152 (gd rfl) rfl rfl rfl rfl ?_
              refine g_iload_n 153 (gd rfl) rfl rfl ?_
              refine g_iconst 1 154 (gd rfl) rfl rfl ?_
              refine g_iadd 155 (gd rfl) rfl (fun z154 e154 => ?_)
              have i154 := in_add 1 60 e154 i47 (in_c 1 rfl) rfl rfl
              refine g_caload 156 (gd rfl) rfl (n := 1000) rfl (in_ix i154 rfl) (fun z155 e155 => ?_)
              have i155 := inv_I hI134 (n := 1000) (t := 2) 0 65535 rfl (in_ix i154 rfl) rfl e155
              refine g_iload 158 (gd rfl) rfl rfl ?_
              refine g_iload_n 159 (gd rfl) rfl rfl ?_
              refine g_iconst 1 160 (gd rfl) rfl rfl ?_
              refine g_iadd 161 (gd rfl) rfl (fun z160 e160 => ?_)
              have i160 := in_add 1 60 e160 i47 (in_c 1 rfl) rfl rfl
              refine g_callv (X := _) (As := [.int z155, .int y42_3, .int z160]) (r := []) (b := A 94) (q := 94) 164 (gd rfl) rfl rfl rfl rfl rfl (ww_o rfl) (Nat.le_of_ble_eq_true rfl) (mc := 0) (ms := 0) (Nat.zero_le _) (Nat.zero_le _) (P := fun v u => _) ?_ (fun e u h => h) (fun v u h => h)
              intro po161 xx161 hp161 hx161
              refine g_enter2 (k := 161) (N := 300) (by omega) rfl (Nat.le_of_ble_eq_true rfl) ?_
              refine g_iload_n 1 (gd rfl) rfl rfl ?_
              refine g_bipush 42 3 (gd rfl) rfl rfl ?_
              refine g_cmp_eq 6 12 (gd rfl) rfl rfl (fun c161x3 => ?_) (fun c161x3 => ?_)
              · skip
                have i161x3 := r_eq1 42 42 c161x3 i155 (in_c 42 rfl) rfl
                refine g_aload_n 13 (gd rfl) rfl rfl ?_
                refine g_getA (q2 := 95) 16 (gd rfl) rfl rfl rfl rfl ?_
                refine g_iload_n 17 (gd rfl) rfl rfl ?_
                refine g_dup2 18 (gd rfl) rfl rfl rfl ?_
                refine g_laload 19 (gd rfl) rfl (n := 61) rfl (in_ix i160 rfl) (fun z161x18 e161x18 => ?_)
                have i161x18 := inv_L hI134 (n := 61) 0 2305843009213693951 rfl (in_ix i160 rfl) rfl e161x18
                refine g_lconst 1 20 (gd rfl) rfl rfl ?_
                refine g_iload_n 21 (gd rfl) rfl rfl ?_
                refine g_lshl 22 (gd rfl) rfl (fun z161x21 e161x21 => ?_)
                have i161x21 := l_shl 59 e161x21 i47 rfl
                refine g_lor 23 (gd rfl) rfl (fun z161x22 e161x22 => ?_)
                have i161x22 := inl_or 61 e161x22 (lw 0 2305843009213693951 i161x18 rfl) (lw 0 2305843009213693951 i161x21 rfl) rfl
                refine g_lastore 24 (gd rfl) rfl (n := 61) rfl (in_ix i160 rfl) ?_
                have hI161x23 := inv_sL (q := 95) (j := z160.toNatClampNeg) (x := z161x22) hI134 rfl (lw 0 2305843009213693951 i161x22 rfl)
                refine g_iload_n 25 (gd rfl) rfl rfl ?_
                refine g_bipush 42 27 (gd rfl) rfl rfl ?_
                refine g_cmp_eq 30 36 (gd rfl) rfl rfl (fun c161x27 => ?_) (fun c161x27 => ?_)
                · skip
                  refine g_aload_n 37 (gd rfl) rfl rfl ?_
                  refine g_getA (q2 := 95) 40 (gd rfl) rfl rfl rfl rfl ?_
                  refine g_iload_n 41 (gd rfl) rfl rfl ?_
                  refine g_dup2 42 (gd rfl) rfl rfl rfl ?_
                  refine g_laload 43 (gd rfl) rfl (n := 61) rfl (in_ix i47 rfl) (fun z161x42 e161x42 => ?_)
                  have i161x42 := inv_L hI161x23 (n := 61) 0 2305843009213693951 rfl (in_ix i47 rfl) rfl e161x42
                  refine g_lconst 1 44 (gd rfl) rfl rfl ?_
                  refine g_iload_n 45 (gd rfl) rfl rfl ?_
                  refine g_lshl 46 (gd rfl) rfl (fun z161x45 e161x45 => ?_)
                  have i161x45 := l_shl 60 e161x45 i160 rfl
                  refine g_lor 47 (gd rfl) rfl (fun z161x46 e161x46 => ?_)
                  have i161x46 := inl_or 61 e161x46 (lw 0 2305843009213693951 i161x42 rfl) (lw 0 2305843009213693951 i161x45 rfl) rfl
                  refine g_lastore 48 (gd rfl) rfl (n := 61) rfl (in_ix i47 rfl) ?_
                  have hI161x47 := inv_sL (q := 95) (j := y42_3.toNatClampNeg) (x := z161x46) hI161x23 rfl (lw 0 2305843009213693951 i161x46 rfl)
                  refine g_return (gd rfl) rfl (hp161 _ _ ?_)
                  show GG _ _ _ _ _ _ _ _ [] _ _ _
                  refine g_iinc 167 (gd rfl) rfl rfl (Nat.le_of_ble_eq_true rfl) (fun z164 e164 => ?_)
                  have i164 := in_add 1 60 e164 i47 (in_c 1 rfl) rfl rfl
                  refine g_goto 42 (gd rfl) rfl ?_
                  exact gg_w (by omega) (gg_f (gf_cons rfl (gf_cons rfl (gf_cons rfl (gf_cons rfl gf_nil)))) (ih42 (sL (sL s134 95 z160.toNatClampNeg z161x22) 95 y42_3.toNatClampNeg z161x46) z74 z164 hI161x47 (fr_sL rfl (fr_sL rfl (fr_tr rfl (fr_sL rfl (fr_sI rfl hFc42)) hF134))) (in_w 0 10 i74 rfl) (in_w 0 60 i164 rfl) (m_up mm42 (t_add e164 i47 (in_c 1 rfl) rfl) (in_w 1 1 (in_c 1 rfl) rfl))))
                · skip
                  exact n_ne c161x27 i161x3 (in_c 42 rfl) rfl
              · skip
                refine g_iload_n 7 (gd rfl) rfl rfl ?_
                refine g_bipush 43 9 (gd rfl) rfl rfl ?_
                refine g_cmp_ne 12 24 (gd rfl) rfl rfl (fun c161x9 => ?_) (fun c161x9 => ?_)
                · skip
                  refine g_iload_n 25 (gd rfl) rfl rfl ?_
                  refine g_bipush 42 27 (gd rfl) rfl rfl ?_
                  refine g_cmp_eq 30 36 (gd rfl) rfl rfl (fun c161x27 => ?_) (fun c161x27 => ?_)
                  · skip
                    exact absurd c161x27 c161x3
                  · skip
                    refine g_iload_n 31 (gd rfl) rfl rfl ?_
                    refine g_bipush 63 33 (gd rfl) rfl rfl ?_
                    refine g_cmp_ne 36 48 (gd rfl) rfl rfl (fun c161x33 => ?_) (fun c161x33 => ?_)
                    · skip
                      refine g_return (gd rfl) rfl (hp161 _ _ ?_)
                      show GG _ _ _ _ _ _ _ _ [] _ _ _
                      refine g_iinc 167 (gd rfl) rfl rfl (Nat.le_of_ble_eq_true rfl) (fun z164 e164 => ?_)
                      have i164 := in_add 1 60 e164 i47 (in_c 1 rfl) rfl rfl
                      refine g_goto 42 (gd rfl) rfl ?_
                      exact gg_w (by omega) (gg_f (gf_cons rfl (gf_cons rfl (gf_cons rfl (gf_cons rfl gf_nil)))) (ih42 s134 z74 z164 hI134 (fr_tr rfl (fr_sL rfl (fr_sI rfl hFc42)) hF134) (in_w 0 10 i74 rfl) (in_w 0 60 i164 rfl) (m_up mm42 (t_add e164 i47 (in_c 1 rfl) rfl) (in_w 1 1 (in_c 1 rfl) rfl))))
                    · skip
                      have i161x33 := r_eq1 63 63 c161x33 i155 (in_c 63 rfl) rfl
                      refine g_aload_n 37 (gd rfl) rfl rfl ?_
                      refine g_getA (q2 := 95) 40 (gd rfl) rfl rfl rfl rfl ?_
                      refine g_iload_n 41 (gd rfl) rfl rfl ?_
                      refine g_dup2 42 (gd rfl) rfl rfl rfl ?_
                      refine g_laload 43 (gd rfl) rfl (n := 61) rfl (in_ix i47 rfl) (fun z161x42 e161x42 => ?_)
                      have i161x42 := inv_L hI134 (n := 61) 0 2305843009213693951 rfl (in_ix i47 rfl) rfl e161x42
                      refine g_lconst 1 44 (gd rfl) rfl rfl ?_
                      refine g_iload_n 45 (gd rfl) rfl rfl ?_
                      refine g_lshl 46 (gd rfl) rfl (fun z161x45 e161x45 => ?_)
                      have i161x45 := l_shl 60 e161x45 i160 rfl
                      refine g_lor 47 (gd rfl) rfl (fun z161x46 e161x46 => ?_)
                      have i161x46 := inl_or 61 e161x46 (lw 0 2305843009213693951 i161x42 rfl) (lw 0 2305843009213693951 i161x45 rfl) rfl
                      refine g_lastore 48 (gd rfl) rfl (n := 61) rfl (in_ix i47 rfl) ?_
                      have hI161x47 := inv_sL (q := 95) (j := y42_3.toNatClampNeg) (x := z161x46) hI134 rfl (lw 0 2305843009213693951 i161x46 rfl)
                      refine g_return (gd rfl) rfl (hp161 _ _ ?_)
                      show GG _ _ _ _ _ _ _ _ [] _ _ _
                      refine g_iinc 167 (gd rfl) rfl rfl (Nat.le_of_ble_eq_true rfl) (fun z164 e164 => ?_)
                      have i164 := in_add 1 60 e164 i47 (in_c 1 rfl) rfl rfl
                      refine g_goto 42 (gd rfl) rfl ?_
                      exact gg_w (by omega) (gg_f (gf_cons rfl (gf_cons rfl (gf_cons rfl (gf_cons rfl gf_nil)))) (ih42 (sL s134 95 y42_3.toNatClampNeg z161x46) z74 z164 hI161x47 (fr_sL rfl (fr_tr rfl (fr_sL rfl (fr_sI rfl hFc42)) hF134)) (in_w 0 10 i74 rfl) (in_w 0 60 i164 rfl) (m_up mm42 (t_add e164 i47 (in_c 1 rfl) rfl) (in_w 1 1 (in_c 1 rfl) rfl))))
                · skip
                  have i161x9 := r_eq1 43 43 c161x9 i155 (in_c 43 rfl) rfl
                  refine g_aload_n 13 (gd rfl) rfl rfl ?_
                  refine g_getA (q2 := 95) 16 (gd rfl) rfl rfl rfl rfl ?_
                  refine g_iload_n 17 (gd rfl) rfl rfl ?_
                  refine g_dup2 18 (gd rfl) rfl rfl rfl ?_
                  refine g_laload 19 (gd rfl) rfl (n := 61) rfl (in_ix i160 rfl) (fun z161x18 e161x18 => ?_)
                  have i161x18 := inv_L hI134 (n := 61) 0 2305843009213693951 rfl (in_ix i160 rfl) rfl e161x18
                  refine g_lconst 1 20 (gd rfl) rfl rfl ?_
                  refine g_iload_n 21 (gd rfl) rfl rfl ?_
                  refine g_lshl 22 (gd rfl) rfl (fun z161x21 e161x21 => ?_)
                  have i161x21 := l_shl 59 e161x21 i47 rfl
                  refine g_lor 23 (gd rfl) rfl (fun z161x22 e161x22 => ?_)
                  have i161x22 := inl_or 61 e161x22 (lw 0 2305843009213693951 i161x18 rfl) (lw 0 2305843009213693951 i161x21 rfl) rfl
                  refine g_lastore 24 (gd rfl) rfl (n := 61) rfl (in_ix i160 rfl) ?_
                  have hI161x23 := inv_sL (q := 95) (j := z160.toNatClampNeg) (x := z161x22) hI134 rfl (lw 0 2305843009213693951 i161x22 rfl)
                  refine g_iload_n 25 (gd rfl) rfl rfl ?_
                  refine g_bipush 42 27 (gd rfl) rfl rfl ?_
                  refine g_cmp_eq 30 36 (gd rfl) rfl rfl (fun c161x27 => ?_) (fun c161x27 => ?_)
                  · skip
                    exact absurd c161x27 c161x3
                  · skip
                    refine g_iload_n 31 (gd rfl) rfl rfl ?_
                    refine g_bipush 63 33 (gd rfl) rfl rfl ?_
                    refine g_cmp_ne 36 48 (gd rfl) rfl rfl (fun c161x33 => ?_) (fun c161x33 => ?_)
                    · skip
                      refine g_return (gd rfl) rfl (hp161 _ _ ?_)
                      show GG _ _ _ _ _ _ _ _ [] _ _ _
                      refine g_iinc 167 (gd rfl) rfl rfl (Nat.le_of_ble_eq_true rfl) (fun z164 e164 => ?_)
                      have i164 := in_add 1 60 e164 i47 (in_c 1 rfl) rfl rfl
                      refine g_goto 42 (gd rfl) rfl ?_
                      exact gg_w (by omega) (gg_f (gf_cons rfl (gf_cons rfl (gf_cons rfl (gf_cons rfl gf_nil)))) (ih42 (sL s134 95 z160.toNatClampNeg z161x22) z74 z164 hI161x23 (fr_sL rfl (fr_tr rfl (fr_sL rfl (fr_sI rfl hFc42)) hF134)) (in_w 0 10 i74 rfl) (in_w 0 60 i164 rfl) (m_up mm42 (t_add e164 i47 (in_c 1 rfl) rfl) (in_w 1 1 (in_c 1 rfl) rfl))))
                    · skip
                      exact n_eq c161x33 i161x9 (in_c 63 rfl) rfl
  refine g_enter2 (k := 158) (N := 55801) (by omega) rfl (Nat.le_of_ble_eq_true rfl) ?_
  refine g_aload_n 1 (gd rfl) rfl rfl ?_
  refine g_getA (q2 := 95) 4 (gd rfl) rfl rfl rfl rfl ?_
  refine g_lconst 0 5 (gd rfl) rfl rfl ?_
  refine g_calls (As := [.ref (A 95), .long (Int64.ofInt 0)]) (r := []) 8 (gd rfl) rfl rfl rfl rfl rfl (Nat.le_of_ble_eq_true rfl) (Nat.zero_le _) (Nat.zero_le _) (k_fillL 95 (by omega) hI (n := 61) rfl rfl rfl (lw 0 2305843009213693951 (l_c 0 rfl) rfl)) (fun v u h => ?_)
  obtain ⟨s5, hI5, hF5, rfl, rfl, fl5⟩ := h
  show GG _ _ _ _ _ _ _ _ [] _ _ _
  refine g_aload_n 9 (gd rfl) rfl rfl ?_
  refine g_getA (q2 := 96) 12 (gd rfl) rfl rfl rfl rfl ?_
  refine g_lconst 0 13 (gd rfl) rfl rfl ?_
  refine g_calls (As := [.ref (A 96), .long (Int64.ofInt 0)]) (r := []) 16 (gd rfl) rfl rfl rfl rfl rfl (Nat.le_of_ble_eq_true rfl) (Nat.zero_le _) (Nat.zero_le _) (k_fillL 96 (by omega) hI5 (n := 26) rfl rfl rfl (lw 0 1152921504606846975 (l_c 0 rfl) rfl)) (fun v u h => ?_)
  obtain ⟨s13, hI13, hF13, rfl, rfl, fl13⟩ := h
  show GG _ _ _ _ _ _ _ _ [] _ _ _
  refine g_aload_n 17 (gd rfl) rfl rfl ?_
  refine g_lconst 1 18 (gd rfl) rfl rfl ?_
  refine g_putL 21 (gd rfl) rfl rfl rfl rfl ?_
  have hI18 := inv_sG (q := 94) (j := 0) (x := (Int64.ofInt 1)) hI13 rfl (lw 0 2305843009213693951 (l_c 1 rfl) rfl)
  refine g_aload_n 22 (gd rfl) rfl rfl ?_
  refine g_lconst 1 23 (gd rfl) rfl rfl ?_
  refine g_aload_n 24 (gd rfl) rfl rfl ?_
  refine g_getI 27 (gd rfl) rfl rfl rfl (fun z24 e24 => ?_)
  have q24 : u_46_1 = z24 := (sG_F (fr_F (fr_F (e_46_1) hF5 rfl) hF13 rfl)).trans e24.symm
  subst q24
  refine g_lshl 28 (gd rfl) rfl (fun z27 e27 => ?_)
  have i27 := l_shl 60 e27 r_46_1 rfl
  refine g_putL 31 (gd rfl) rfl rfl rfl rfl ?_
  have hI28 := inv_sG (q := 94) (j := 1) (x := z27) hI18 rfl (lw 0 2305843009213693951 i27 rfl)
  refine g_aload_n 32 (gd rfl) rfl rfl ?_
  refine g_getA (q2 := 98) 35 (gd rfl) rfl rfl rfl rfl ?_
  refine g_iconst 0 36 (gd rfl) rfl rfl ?_
  refine g_lconst 0 37 (gd rfl) rfl rfl ?_
  refine g_lastore 38 (gd rfl) rfl (n := 11) rfl (in_ix (in_c 0 rfl) rfl) ?_
  have hI37 := inv_sL (q := 98) (j := (Int32.ofInt 0).toNatClampNeg) (x := (Int64.ofInt 0)) hI28 rfl (lw 0 1152921504606846975 (l_c 0 rfl) rfl)
  refine g_iconst 0 39 (gd rfl) rfl rfl ?_
  refine g_istore_n 40 (gd rfl) rfl (Nat.le_of_ble_eq_true rfl) ?_
  refine g_iconst 0 41 (gd rfl) rfl rfl ?_
  refine g_istore_n 42 (gd rfl) rfl (Nat.le_of_ble_eq_true rfl) ?_
  exact gg_w (by omega) (gg_f (gf_cons rfl (gf_cons rfl (gf_cons rfl (gf_cons rfl gf_nil)))) (ct42 61 (sL (sG (sG s13 94 0 (Int64.ofInt 1)) 94 1 z27) 98 (Int32.ofInt 0).toNatClampNeg (Int64.ofInt 0)) (Int32.ofInt 0) (Int32.ofInt 0) hI37 (fr_sL rfl (fr_sG rfl (fr_sG rfl (fr_tr rfl (fr_tr rfl fr_rf hF5) hF13)))) (in_w 0 10 (in_c 0 rfl) rfl) (in_w 0 60 (in_c 0 rfl) rfl) (m_in 61 (in_w 0 60 (in_c 0 rfl) rfl) rfl)))

def fm_164_94_2 : FM := ([], [99, 100, 101], [], [])
/-- GraphHouse$Question.step -/
theorem k_164_94_2 {Z : AmZ} {A : Nat → Nat} {s : GS} {ex : va_W} {d : Nat} {X : AmX}  (hd : 5 ≤ d) (hI : Inv s)  : GC Z d 164 [.ref (A 94), .ref (A 2)] (WW Z A s ++ ex) 0 0 (fun v u => ∃ t : GS, Inv t ∧ Fr fm_164_94_2 s t ∧ ∃ z : Int32, v = some (.int z) ∧ u = WW Z A t ++ ex ∧ In z 0 1) X := by
  intro post xp hP hX
  obtain ⟨u_2_1, e_2_1⟩ : ∃ w, w = s.2.2.1 2 1 := ⟨_, rfl⟩
  have ro_2_1 := inv_F hI 0 32 rfl e_2_1
  have ct12 : ∀ (k12 : Nat) (sc12 : GS) (y12_2 : Int32) (y12_3 : Int32), Inv sc12 → Fr fm_164_94_2 s sc12 → (In y12_2 0 1) → (In y12_3 0 32) → 32 - (y12_3).toInt < (k12 : Int) → GG Z (d - 1) 164 post (gx xp) (1 + k12 * 147601) 12 (fun j => xlook j [(0, .ref (A 94)), (1, .ref (A 2)), (2, .int y12_2), (3, .int y12_3)]) [] (WW Z A sc12 ++ ex) 0 0 := by
    intro k12
    induction k12 with
    | zero => intro sc12 y12_2 y12_3 hIc12 hFc12 j12_2 j12_3 mm12; exact m_no mm12 j12_3 rfl
    | succ k12 ih12 =>
      intro sc12 y12_2 y12_3 hIc12 hFc12 j12_2 j12_3 mm12
      refine gg_w (M := 1 + k12 * 147601 + 147601) (by omega) ?_
      have ct28 : ∀ (k28 : Nat) (sc28 : GS) (y28_2 : Int32) (y28_4 : Int32), Inv sc28 → Fr fm_164_94_2 s sc28 → (In y28_2 0 1) → (In y12_3 0 31) → (In y28_4 0 160) → 160 - (y28_4).toInt < (k28 : Int) → GG Z (d - 1) 164 post (gx xp) (1 + k12 * 147601 + 1 + k28 * 900) 28 (fun j => xlook j [(0, .ref (A 94)), (1, .ref (A 2)), (2, .int y28_2), (3, .int y12_3), (4, .int y28_4)]) [] (WW Z A sc28 ++ ex) 0 0 := by
        intro k28
        induction k28 with
        | zero => intro sc28 y28_2 y28_4 hIc28 hFc28 j28_2 j28_3 j28_4 mm28; exact m_no mm28 j28_4 rfl
        | succ k28 ih28 =>
          intro sc28 y28_2 y28_4 hIc28 hFc28 j28_2 j28_3 j28_4 mm28
          refine gg_w (M := 1 + k12 * 147601 + 1 + k28 * 900 + 900) (by omega) ?_
          refine g_iload 30 (gd rfl) rfl rfl ?_
          refine g_aload_n 31 (gd rfl) rfl rfl ?_
          refine g_getA (q2 := 12) 34 (gd rfl) rfl rfl rfl rfl ?_
          refine g_iload_n 35 (gd rfl) rfl rfl ?_
          refine g_iconst 1 36 (gd rfl) rfl rfl ?_
          refine g_iadd 37 (gd rfl) rfl (fun z36 e36 => ?_)
          have i36 := in_add 1 32 e36 j28_3 (in_c 1 rfl) rfl rfl
          refine g_iaload 38 (gd rfl) rfl (n := 33) rfl (in_ix i36 rfl) (fun z37 e37 => ?_)
          have i37 := inv_I hIc28 (n := 33) (t := 0) 0 160 rfl (in_ix i36 rfl) rfl e37
          refine g_cmp_ge 41 152 (gd rfl) rfl rfl (fun c38 => ?_) (fun c38 => ?_)
          · skip
            refine g_iinc 155 (gd rfl) rfl rfl (Nat.le_of_ble_eq_true rfl) (fun z152 e152 => ?_)
            have i152 := in_add 1 32 e152 j28_3 (in_c 1 rfl) rfl rfl
            refine g_goto 12 (gd rfl) rfl ?_
            exact gg_w (by omega) (gg_f (gf_cons rfl (gf_cons rfl (gf_cons rfl (gf_cons rfl gf_nil)))) (ih12 sc28 y28_2 z152 hIc28 hFc28 (in_w 0 1 j28_2 rfl) (in_w 0 32 i152 rfl) (m_up mm12 (t_add e152 j28_3 (in_c 1 rfl) rfl) (in_w 1 1 (in_c 1 rfl) rfl))))
          · skip
            have i38 := r_lt1 0 159 c38 j28_4 i37 rfl
            have i38a := r_lt2 1 160 c38 j28_4 i37 rfl
            refine g_aload_n 42 (gd rfl) rfl rfl ?_
            refine g_getA (q2 := 99) 45 (gd rfl) rfl rfl rfl rfl ?_
            refine g_iload_n 46 (gd rfl) rfl rfl ?_
            refine g_laload 47 (gd rfl) rfl (n := 32) rfl (in_ix j28_3 rfl) (fun z46 e46 => ?_)
            have i46 := inv_L hIc28 (n := 32) 0 2305843009213693951 rfl (in_ix j28_3 rfl) rfl e46
            refine g_lconst 0 48 (gd rfl) rfl rfl ?_
            refine g_lcmp 49 (gd rfl) rfl (fun z48 e48 => ?_)
            have i48 := lc_in e48
            refine g_if_eq 52 152 (gd rfl) rfl rfl (fun c49 => ?_) (fun c49 => ?_)
            · skip
              have i49 := z_eq 0 0 c49 i48 rfl
              have c49a := lc_eq e48 c49
              have i49a := lr_eq1 0 0 c49a i46 (l_c 0 rfl) rfl
              refine g_iinc 155 (gd rfl) rfl rfl (Nat.le_of_ble_eq_true rfl) (fun z152 e152 => ?_)
              have i152 := in_add 1 32 e152 j28_3 (in_c 1 rfl) rfl rfl
              refine g_goto 12 (gd rfl) rfl ?_
              exact gg_w (by omega) (gg_f (gf_cons rfl (gf_cons rfl (gf_cons rfl (gf_cons rfl gf_nil)))) (ih12 sc28 y28_2 z152 hIc28 hFc28 (in_w 0 1 j28_2 rfl) (in_w 0 32 i152 rfl) (m_up mm12 (t_add e152 j28_3 (in_c 1 rfl) rfl) (in_w 1 1 (in_c 1 rfl) rfl))))
            · skip
              have c49a := lc_ne e48 c49
              have i49 := lr_ne1 1 2305843009213693951 c49a i46 (l_c 0 rfl) rfl
              refine g_aload_n 53 (gd rfl) rfl rfl ?_
              refine g_getA (q2 := 13) 56 (gd rfl) rfl rfl rfl rfl ?_
              refine g_iload 58 (gd rfl) rfl rfl ?_
              refine g_iaload 59 (gd rfl) rfl (n := 160) rfl (in_ix i38 rfl) (fun z58 e58 => ?_)
              have i58 := inv_I hIc28 (n := 160) (t := 0) 0 159 rfl (in_ix i38 rfl) rfl e58
              refine g_istore 61 (gd rfl) rfl (Nat.le_of_ble_eq_true rfl) ?_
              refine g_aload_n 62 (gd rfl) rfl rfl ?_
              refine g_getA (q2 := 5) 65 (gd rfl) rfl rfl rfl rfl ?_
              refine g_iload 67 (gd rfl) rfl rfl ?_
              refine g_iaload 68 (gd rfl) rfl (n := 160) rfl (in_ix i58 rfl) (fun z67 e67 => ?_)
              have i67 := inv_I hIc28 (n := 160) (t := 0) 0 31 rfl (in_ix i58 rfl) rfl e67
              refine g_istore 70 (gd rfl) rfl (Nat.le_of_ble_eq_true rfl) ?_
              refine g_aload_n 71 (gd rfl) rfl rfl ?_
              refine g_aload_n 72 (gd rfl) rfl rfl ?_
              refine g_getA (q2 := 99) 75 (gd rfl) rfl rfl rfl rfl ?_
              refine g_iload_n 76 (gd rfl) rfl rfl ?_
              refine g_laload 77 (gd rfl) rfl (n := 32) rfl (in_ix j28_3 rfl) (fun z76 e76 => ?_)
              have i76 := inv_L hIc28 (n := 32) 0 2305843009213693951 rfl (in_ix j28_3 rfl) rfl e76
              refine g_aload_n 78 (gd rfl) rfl rfl ?_
              refine g_getA (q2 := 96) 81 (gd rfl) rfl rfl rfl rfl ?_
              refine g_aload_n 82 (gd rfl) rfl rfl ?_
              refine g_getA (q2 := 8) 85 (gd rfl) rfl rfl rfl rfl ?_
              refine g_iload 87 (gd rfl) rfl rfl ?_
              refine g_iaload 88 (gd rfl) rfl (n := 160) rfl (in_ix i58 rfl) (fun z87 e87 => ?_)
              have i87 := inv_I hIc28 (n := 160) (t := 0) 0 25 rfl (in_ix i58 rfl) rfl e87
              refine g_laload 89 (gd rfl) rfl (n := 26) rfl (in_ix i87 rfl) (fun z88 e88 => ?_)
              have i88 := inv_L hIc28 (n := 26) 0 1152921504606846975 rfl (in_ix i87 rfl) rfl e88
              refine g_land 90 (gd rfl) rfl (fun z89 e89 => ?_)
              have i89 := inl_and2 e89 i88 rfl
              have p90 : InL z89 0 1152921504606846975 := by exact lw 0 1152921504606846975 i89 rfl
              refine g_callv (X := _) (As := [.long z89]) (r := []) (b := A 94) (q := 94) 93 (gd rfl) rfl rfl rfl rfl rfl (ww_o rfl) (Nat.le_of_ble_eq_true rfl) (Nat.zero_le _) (Nat.zero_le _) (k_165_94 (by omega) hIc28 p90) (fun e u h => h) (fun v u h => ?_)
              obtain ⟨z90, rfl, rfl, p90a⟩ := h
              show GG _ _ _ _ _ _ _ _ [.long z90] _ _ _
              have i93 : InL z90 0 2305843009213693951 := by exact p90a
              refine g_aload_n 94 (gd rfl) rfl rfl ?_
              refine g_getA (q2 := 101) 97 (gd rfl) rfl rfl rfl rfl ?_
              refine g_iload 99 (gd rfl) rfl rfl ?_
              refine g_laload 100 (gd rfl) rfl (n := 32) rfl (in_ix i67 rfl) (fun z99 e99 => ?_)
              have i99 := inv_L hIc28 (n := 32) 0 2305843009213693951 rfl (in_ix i67 rfl) rfl e99
              refine g_ldc2_w (-1) 103 (gd rfl) rfl rfl ?_
              refine g_lxor 104 (gd rfl) rfl (fun z103 e103 => ?_)
              refine g_land 105 (gd rfl) rfl (fun z104 e104 => ?_)
              have i104 := inl_and1 e104 i93 rfl
              refine g_lstore 107 (gd rfl) rfl (Nat.le_of_ble_eq_true rfl) ?_
              refine g_aload_n 108 (gd rfl) rfl rfl ?_
              refine g_getA (q2 := 100) 111 (gd rfl) rfl rfl rfl rfl ?_
              refine g_iload 113 (gd rfl) rfl rfl ?_
              refine g_dup2 114 (gd rfl) rfl rfl rfl ?_
              refine g_laload 115 (gd rfl) rfl (n := 32) rfl (in_ix i67 rfl) (fun z114 e114 => ?_)
              have i114 := inv_L hIc28 (n := 32) 0 2305843009213693951 rfl (in_ix i67 rfl) rfl e114
              refine g_lload 117 (gd rfl) rfl rfl ?_
              refine g_lor 118 (gd rfl) rfl (fun z117 e117 => ?_)
              have i117 := inl_or 61 e117 (lw 0 2305843009213693951 i114 rfl) (lw 0 2305843009213693951 i104 rfl) rfl
              refine g_lastore 119 (gd rfl) rfl (n := 32) rfl (in_ix i67 rfl) ?_
              have hI118 := inv_sL (q := 100) (j := z67.toNatClampNeg) (x := z117) hIc28 rfl (lw 0 2305843009213693951 i117 rfl)
              refine g_aload_n 120 (gd rfl) rfl rfl ?_
              refine g_getA (q2 := 101) 123 (gd rfl) rfl rfl rfl rfl ?_
              refine g_iload 125 (gd rfl) rfl rfl ?_
              refine g_dup2 126 (gd rfl) rfl rfl rfl ?_
              refine g_laload 127 (gd rfl) rfl (n := 32) rfl (in_ix i67 rfl) (fun z126 e126 => ?_)
              have i126 := inv_L hI118 (n := 32) 0 2305843009213693951 rfl (in_ix i67 rfl) rfl e126
              refine g_lload 129 (gd rfl) rfl rfl ?_
              refine g_lor 130 (gd rfl) rfl (fun z129 e129 => ?_)
              have i129 := inl_or 61 e129 (lw 0 2305843009213693951 i126 rfl) (lw 0 2305843009213693951 i104 rfl) rfl
              refine g_lastore 131 (gd rfl) rfl (n := 32) rfl (in_ix i67 rfl) ?_
              have hI130 := inv_sL (q := 101) (j := z67.toNatClampNeg) (x := z129) hI118 rfl (lw 0 2305843009213693951 i129 rfl)
              refine g_iload_n 132 (gd rfl) rfl rfl ?_
              refine g_lload 134 (gd rfl) rfl rfl ?_
              refine g_lconst 0 135 (gd rfl) rfl rfl ?_
              refine g_lcmp 136 (gd rfl) rfl (fun z135 e135 => ?_)
              have i135 := lc_in e135
              refine g_if_eq 139 143 (gd rfl) rfl rfl (fun c136 => ?_) (fun c136 => ?_)
              · skip
                have i136 := z_eq 0 0 c136 i135 rfl
                have c136a := lc_eq e135 c136
                have i136a := lr_eq1 0 0 c136a i104 (l_c 0 rfl) rfl
                refine g_iconst 0 144 (gd rfl) rfl rfl ?_
                refine g_ior 145 (gd rfl) rfl (fun z144 e144 => ?_)
                have i144 := in_or 1 e144 (in_w 0 1 j28_2 rfl) (in_w 0 1 (in_c 0 rfl) rfl) rfl
                refine g_istore_n 146 (gd rfl) rfl (Nat.le_of_ble_eq_true rfl) ?_
                refine g_iinc 149 (gd rfl) rfl rfl (Nat.le_of_ble_eq_true rfl) (fun z146 e146 => ?_)
                have i146 := in_add 1 160 e146 i38 (in_c 1 rfl) rfl rfl
                refine g_goto 28 (gd rfl) rfl ?_
                exact gg_w (by omega) (gg_f (gf_cons rfl (gf_cons rfl (gf_cons rfl (gf_cons rfl (gf_cons rfl gf_nil))))) (ih28 (sL (sL sc28 100 z67.toNatClampNeg z117) 101 z67.toNatClampNeg z129) z144 z146 hI130 (fr_sL rfl (fr_sL rfl hFc28)) (in_w 0 1 i144 rfl) (in_w 0 31 j28_3 rfl) (in_w 0 160 i146 rfl) (m_up mm28 (t_add e146 i38 (in_c 1 rfl) rfl) (in_w 1 1 (in_c 1 rfl) rfl))))
              · skip
                have c136a := lc_ne e135 c136
                have i136 := lr_ne1 1 2305843009213693951 c136a i104 (l_c 0 rfl) rfl
                refine g_iconst 1 140 (gd rfl) rfl rfl ?_
                refine g_goto 144 (gd rfl) rfl ?_
                refine g_ior 145 (gd rfl) rfl (fun z144 e144 => ?_)
                have i144 := in_or 1 e144 (in_w 0 1 j28_2 rfl) (in_w 0 1 (in_c 1 rfl) rfl) rfl
                refine g_istore_n 146 (gd rfl) rfl (Nat.le_of_ble_eq_true rfl) ?_
                refine g_iinc 149 (gd rfl) rfl rfl (Nat.le_of_ble_eq_true rfl) (fun z146 e146 => ?_)
                have i146 := in_add 1 160 e146 i38 (in_c 1 rfl) rfl rfl
                refine g_goto 28 (gd rfl) rfl ?_
                exact gg_w (by omega) (gg_f (gf_cons rfl (gf_cons rfl (gf_cons rfl (gf_cons rfl (gf_cons rfl gf_nil))))) (ih28 (sL (sL sc28 100 z67.toNatClampNeg z117) 101 z67.toNatClampNeg z129) z144 z146 hI130 (fr_sL rfl (fr_sL rfl hFc28)) (in_w 0 1 i144 rfl) (in_w 0 31 j28_3 rfl) (in_w 0 160 i146 rfl) (m_up mm28 (t_add e146 i38 (in_c 1 rfl) rfl) (in_w 1 1 (in_c 1 rfl) rfl))))
      refine g_iload_n 13 (gd rfl) rfl rfl ?_
      refine g_aload_n 14 (gd rfl) rfl rfl ?_
      refine g_getI 17 (gd rfl) rfl rfl rfl (fun z14 e14 => ?_)
      have q14 : u_2_1 = z14 := (fr_F e_2_1 hFc12 rfl).trans e14.symm
      subst q14
      refine g_cmp_ge 20 158 (gd rfl) rfl rfl (fun c17 => ?_) (fun c17 => ?_)
      · skip
        refine g_aload_n 159 (gd rfl) rfl rfl ?_
        refine g_getA (q2 := 100) 162 (gd rfl) rfl rfl rfl rfl ?_
        refine g_iconst 0 163 (gd rfl) rfl rfl ?_
        refine g_aload_n 164 (gd rfl) rfl rfl ?_
        refine g_getA (q2 := 99) 167 (gd rfl) rfl rfl rfl rfl ?_
        refine g_iconst 0 168 (gd rfl) rfl rfl ?_
        refine g_bipush 32 170 (gd rfl) rfl rfl ?_
        refine g_cpL (q2 := 100) (q := 99) (n0 := 32) (n1 := 32) 173 (gd rfl) rfl rfl rfl rfl (Nat.le_of_ble_eq_true rfl) (cp_0 (in_c 0 rfl) rfl) (cp_0 (in_c 0 rfl) rfl) (cp_0 (in_c 32 rfl) rfl) (cp_1 (in_c 0 rfl) (in_c 32 rfl) rfl) (cp_1 (in_c 0 rfl) (in_c 32 rfl) rfl) hIc12 rfl rfl rfl (fun s170 hI170 hF170 cp170 => ?_)
        refine g_iload_n 174 (gd rfl) rfl rfl ?_
        exact g_ireturn (gd rfl) rfl (nb01 (in_w 0 1 j12_2 rfl)) (hP _ _ ⟨s170, hI170, (fr_tr rfl hFc12 hF170), y12_2, rfl, rfl, in_w 0 1 j12_2 rfl⟩)
      · skip
        have i17 := r_lt1 0 31 c17 j12_3 ro_2_1 rfl
        have i17a := r_lt2 1 32 c17 j12_3 ro_2_1 rfl
        refine g_aload_n 21 (gd rfl) rfl rfl ?_
        refine g_getA (q2 := 12) 24 (gd rfl) rfl rfl rfl rfl ?_
        refine g_iload_n 25 (gd rfl) rfl rfl ?_
        refine g_iaload 26 (gd rfl) rfl (n := 33) rfl (in_ix i17 rfl) (fun z25 e25 => ?_)
        have i25 := inv_I hIc12 (n := 33) (t := 0) 0 160 rfl (in_ix i17 rfl) rfl e25
        refine g_istore 28 (gd rfl) rfl (Nat.le_of_ble_eq_true rfl) ?_
        exact gg_w (by omega) (gg_f (gf_cons rfl (gf_cons rfl (gf_cons rfl (gf_cons rfl (gf_cons rfl gf_nil))))) (ct28 161 sc12 y12_2 z25 hIc12 hFc12 (in_w 0 1 j12_2 rfl) (in_w 0 31 i17 rfl) (in_w 0 160 i25 rfl) (m_in 161 (in_w 0 160 i25 rfl) rfl)))
  refine g_enter2 (k := 164) (N := 4871734) (by omega) rfl (Nat.le_of_ble_eq_true rfl) ?_
  refine g_iconst 0 1 (gd rfl) rfl rfl ?_
  refine g_istore_n 2 (gd rfl) rfl (Nat.le_of_ble_eq_true rfl) ?_
  refine g_aload_n 3 (gd rfl) rfl rfl ?_
  refine g_getA (q2 := 100) 6 (gd rfl) rfl rfl rfl rfl ?_
  refine g_lconst 0 7 (gd rfl) rfl rfl ?_
  refine g_calls (As := [.ref (A 100), .long (Int64.ofInt 0)]) (r := []) 10 (gd rfl) rfl rfl rfl rfl rfl (Nat.le_of_ble_eq_true rfl) (Nat.zero_le _) (Nat.zero_le _) (k_fillL 100 (by omega) hI (n := 32) rfl rfl rfl (lw 0 2305843009213693951 (l_c 0 rfl) rfl)) (fun v u h => ?_)
  obtain ⟨s7, hI7, hF7, rfl, rfl, fl7⟩ := h
  show GG _ _ _ _ _ _ _ _ [] _ _ _
  refine g_iconst 0 11 (gd rfl) rfl rfl ?_
  refine g_istore_n 12 (gd rfl) rfl (Nat.le_of_ble_eq_true rfl) ?_
  exact gg_w (by omega) (gg_f (gf_cons rfl (gf_cons rfl (gf_cons rfl (gf_cons rfl gf_nil)))) (ct12 33 s7 (Int32.ofInt 0) (Int32.ofInt 0) hI7 (fr_tr rfl fr_rf hF7) (in_w 0 1 (in_c 0 rfl) rfl) (in_w 0 32 (in_c 0 rfl) rfl) (m_in 33 (in_w 0 32 (in_c 0 rfl) rfl) rfl)))

def fm_164_94_32 : FM := ([], [99, 100, 101], [], [])
/-- GraphHouse$Question.step -/
theorem k_164_94_32 {Z : AmZ} {A : Nat → Nat} {s : GS} {ex : va_W} {d : Nat} {X : AmX}  (hd : 5 ≤ d) (hI : Inv s)  : GC Z d 164 [.ref (A 94), .ref (A 32)] (WW Z A s ++ ex) 0 0 (fun v u => ∃ t : GS, Inv t ∧ Fr fm_164_94_32 s t ∧ ∃ z : Int32, v = some (.int z) ∧ u = WW Z A t ++ ex ∧ In z 0 1) X := by
  intro post xp hP hX
  obtain ⟨u_32_1, e_32_1⟩ : ∃ w, w = s.2.2.1 32 1 := ⟨_, rfl⟩
  have ro_32_1 := inv_F hI 0 32 rfl e_32_1
  have ct12 : ∀ (k12 : Nat) (sc12 : GS) (y12_2 : Int32) (y12_3 : Int32), Inv sc12 → Fr fm_164_94_32 s sc12 → (In y12_2 0 1) → (In y12_3 0 32) → 32 - (y12_3).toInt < (k12 : Int) → GG Z (d - 1) 164 post (gx xp) (1 + k12 * 147601) 12 (fun j => xlook j [(0, .ref (A 94)), (1, .ref (A 32)), (2, .int y12_2), (3, .int y12_3)]) [] (WW Z A sc12 ++ ex) 0 0 := by
    intro k12
    induction k12 with
    | zero => intro sc12 y12_2 y12_3 hIc12 hFc12 j12_2 j12_3 mm12; exact m_no mm12 j12_3 rfl
    | succ k12 ih12 =>
      intro sc12 y12_2 y12_3 hIc12 hFc12 j12_2 j12_3 mm12
      refine gg_w (M := 1 + k12 * 147601 + 147601) (by omega) ?_
      have ct28 : ∀ (k28 : Nat) (sc28 : GS) (y28_2 : Int32) (y28_4 : Int32), Inv sc28 → Fr fm_164_94_32 s sc28 → (In y28_2 0 1) → (In y12_3 0 31) → (In y28_4 0 160) → 160 - (y28_4).toInt < (k28 : Int) → GG Z (d - 1) 164 post (gx xp) (1 + k12 * 147601 + 1 + k28 * 900) 28 (fun j => xlook j [(0, .ref (A 94)), (1, .ref (A 32)), (2, .int y28_2), (3, .int y12_3), (4, .int y28_4)]) [] (WW Z A sc28 ++ ex) 0 0 := by
        intro k28
        induction k28 with
        | zero => intro sc28 y28_2 y28_4 hIc28 hFc28 j28_2 j28_3 j28_4 mm28; exact m_no mm28 j28_4 rfl
        | succ k28 ih28 =>
          intro sc28 y28_2 y28_4 hIc28 hFc28 j28_2 j28_3 j28_4 mm28
          refine gg_w (M := 1 + k12 * 147601 + 1 + k28 * 900 + 900) (by omega) ?_
          refine g_iload 30 (gd rfl) rfl rfl ?_
          refine g_aload_n 31 (gd rfl) rfl rfl ?_
          refine g_getA (q2 := 42) 34 (gd rfl) rfl rfl rfl rfl ?_
          refine g_iload_n 35 (gd rfl) rfl rfl ?_
          refine g_iconst 1 36 (gd rfl) rfl rfl ?_
          refine g_iadd 37 (gd rfl) rfl (fun z36 e36 => ?_)
          have i36 := in_add 1 32 e36 j28_3 (in_c 1 rfl) rfl rfl
          refine g_iaload 38 (gd rfl) rfl (n := 33) rfl (in_ix i36 rfl) (fun z37 e37 => ?_)
          have i37 := inv_I hIc28 (n := 33) (t := 0) 0 160 rfl (in_ix i36 rfl) rfl e37
          refine g_cmp_ge 41 152 (gd rfl) rfl rfl (fun c38 => ?_) (fun c38 => ?_)
          · skip
            refine g_iinc 155 (gd rfl) rfl rfl (Nat.le_of_ble_eq_true rfl) (fun z152 e152 => ?_)
            have i152 := in_add 1 32 e152 j28_3 (in_c 1 rfl) rfl rfl
            refine g_goto 12 (gd rfl) rfl ?_
            exact gg_w (by omega) (gg_f (gf_cons rfl (gf_cons rfl (gf_cons rfl (gf_cons rfl gf_nil)))) (ih12 sc28 y28_2 z152 hIc28 hFc28 (in_w 0 1 j28_2 rfl) (in_w 0 32 i152 rfl) (m_up mm12 (t_add e152 j28_3 (in_c 1 rfl) rfl) (in_w 1 1 (in_c 1 rfl) rfl))))
          · skip
            have i38 := r_lt1 0 159 c38 j28_4 i37 rfl
            have i38a := r_lt2 1 160 c38 j28_4 i37 rfl
            refine g_aload_n 42 (gd rfl) rfl rfl ?_
            refine g_getA (q2 := 99) 45 (gd rfl) rfl rfl rfl rfl ?_
            refine g_iload_n 46 (gd rfl) rfl rfl ?_
            refine g_laload 47 (gd rfl) rfl (n := 32) rfl (in_ix j28_3 rfl) (fun z46 e46 => ?_)
            have i46 := inv_L hIc28 (n := 32) 0 2305843009213693951 rfl (in_ix j28_3 rfl) rfl e46
            refine g_lconst 0 48 (gd rfl) rfl rfl ?_
            refine g_lcmp 49 (gd rfl) rfl (fun z48 e48 => ?_)
            have i48 := lc_in e48
            refine g_if_eq 52 152 (gd rfl) rfl rfl (fun c49 => ?_) (fun c49 => ?_)
            · skip
              have i49 := z_eq 0 0 c49 i48 rfl
              have c49a := lc_eq e48 c49
              have i49a := lr_eq1 0 0 c49a i46 (l_c 0 rfl) rfl
              refine g_iinc 155 (gd rfl) rfl rfl (Nat.le_of_ble_eq_true rfl) (fun z152 e152 => ?_)
              have i152 := in_add 1 32 e152 j28_3 (in_c 1 rfl) rfl rfl
              refine g_goto 12 (gd rfl) rfl ?_
              exact gg_w (by omega) (gg_f (gf_cons rfl (gf_cons rfl (gf_cons rfl (gf_cons rfl gf_nil)))) (ih12 sc28 y28_2 z152 hIc28 hFc28 (in_w 0 1 j28_2 rfl) (in_w 0 32 i152 rfl) (m_up mm12 (t_add e152 j28_3 (in_c 1 rfl) rfl) (in_w 1 1 (in_c 1 rfl) rfl))))
            · skip
              have c49a := lc_ne e48 c49
              have i49 := lr_ne1 1 2305843009213693951 c49a i46 (l_c 0 rfl) rfl
              refine g_aload_n 53 (gd rfl) rfl rfl ?_
              refine g_getA (q2 := 43) 56 (gd rfl) rfl rfl rfl rfl ?_
              refine g_iload 58 (gd rfl) rfl rfl ?_
              refine g_iaload 59 (gd rfl) rfl (n := 160) rfl (in_ix i38 rfl) (fun z58 e58 => ?_)
              have i58 := inv_I hIc28 (n := 160) (t := 0) 0 159 rfl (in_ix i38 rfl) rfl e58
              refine g_istore 61 (gd rfl) rfl (Nat.le_of_ble_eq_true rfl) ?_
              refine g_aload_n 62 (gd rfl) rfl rfl ?_
              refine g_getA (q2 := 35) 65 (gd rfl) rfl rfl rfl rfl ?_
              refine g_iload 67 (gd rfl) rfl rfl ?_
              refine g_iaload 68 (gd rfl) rfl (n := 160) rfl (in_ix i58 rfl) (fun z67 e67 => ?_)
              have i67 := inv_I hIc28 (n := 160) (t := 0) 0 31 rfl (in_ix i58 rfl) rfl e67
              refine g_istore 70 (gd rfl) rfl (Nat.le_of_ble_eq_true rfl) ?_
              refine g_aload_n 71 (gd rfl) rfl rfl ?_
              refine g_aload_n 72 (gd rfl) rfl rfl ?_
              refine g_getA (q2 := 99) 75 (gd rfl) rfl rfl rfl rfl ?_
              refine g_iload_n 76 (gd rfl) rfl rfl ?_
              refine g_laload 77 (gd rfl) rfl (n := 32) rfl (in_ix j28_3 rfl) (fun z76 e76 => ?_)
              have i76 := inv_L hIc28 (n := 32) 0 2305843009213693951 rfl (in_ix j28_3 rfl) rfl e76
              refine g_aload_n 78 (gd rfl) rfl rfl ?_
              refine g_getA (q2 := 96) 81 (gd rfl) rfl rfl rfl rfl ?_
              refine g_aload_n 82 (gd rfl) rfl rfl ?_
              refine g_getA (q2 := 38) 85 (gd rfl) rfl rfl rfl rfl ?_
              refine g_iload 87 (gd rfl) rfl rfl ?_
              refine g_iaload 88 (gd rfl) rfl (n := 160) rfl (in_ix i58 rfl) (fun z87 e87 => ?_)
              have i87 := inv_I hIc28 (n := 160) (t := 0) 0 25 rfl (in_ix i58 rfl) rfl e87
              refine g_laload 89 (gd rfl) rfl (n := 26) rfl (in_ix i87 rfl) (fun z88 e88 => ?_)
              have i88 := inv_L hIc28 (n := 26) 0 1152921504606846975 rfl (in_ix i87 rfl) rfl e88
              refine g_land 90 (gd rfl) rfl (fun z89 e89 => ?_)
              have i89 := inl_and2 e89 i88 rfl
              have p90 : InL z89 0 1152921504606846975 := by exact lw 0 1152921504606846975 i89 rfl
              refine g_callv (X := _) (As := [.long z89]) (r := []) (b := A 94) (q := 94) 93 (gd rfl) rfl rfl rfl rfl rfl (ww_o rfl) (Nat.le_of_ble_eq_true rfl) (Nat.zero_le _) (Nat.zero_le _) (k_165_94 (by omega) hIc28 p90) (fun e u h => h) (fun v u h => ?_)
              obtain ⟨z90, rfl, rfl, p90a⟩ := h
              show GG _ _ _ _ _ _ _ _ [.long z90] _ _ _
              have i93 : InL z90 0 2305843009213693951 := by exact p90a
              refine g_aload_n 94 (gd rfl) rfl rfl ?_
              refine g_getA (q2 := 101) 97 (gd rfl) rfl rfl rfl rfl ?_
              refine g_iload 99 (gd rfl) rfl rfl ?_
              refine g_laload 100 (gd rfl) rfl (n := 32) rfl (in_ix i67 rfl) (fun z99 e99 => ?_)
              have i99 := inv_L hIc28 (n := 32) 0 2305843009213693951 rfl (in_ix i67 rfl) rfl e99
              refine g_ldc2_w (-1) 103 (gd rfl) rfl rfl ?_
              refine g_lxor 104 (gd rfl) rfl (fun z103 e103 => ?_)
              refine g_land 105 (gd rfl) rfl (fun z104 e104 => ?_)
              have i104 := inl_and1 e104 i93 rfl
              refine g_lstore 107 (gd rfl) rfl (Nat.le_of_ble_eq_true rfl) ?_
              refine g_aload_n 108 (gd rfl) rfl rfl ?_
              refine g_getA (q2 := 100) 111 (gd rfl) rfl rfl rfl rfl ?_
              refine g_iload 113 (gd rfl) rfl rfl ?_
              refine g_dup2 114 (gd rfl) rfl rfl rfl ?_
              refine g_laload 115 (gd rfl) rfl (n := 32) rfl (in_ix i67 rfl) (fun z114 e114 => ?_)
              have i114 := inv_L hIc28 (n := 32) 0 2305843009213693951 rfl (in_ix i67 rfl) rfl e114
              refine g_lload 117 (gd rfl) rfl rfl ?_
              refine g_lor 118 (gd rfl) rfl (fun z117 e117 => ?_)
              have i117 := inl_or 61 e117 (lw 0 2305843009213693951 i114 rfl) (lw 0 2305843009213693951 i104 rfl) rfl
              refine g_lastore 119 (gd rfl) rfl (n := 32) rfl (in_ix i67 rfl) ?_
              have hI118 := inv_sL (q := 100) (j := z67.toNatClampNeg) (x := z117) hIc28 rfl (lw 0 2305843009213693951 i117 rfl)
              refine g_aload_n 120 (gd rfl) rfl rfl ?_
              refine g_getA (q2 := 101) 123 (gd rfl) rfl rfl rfl rfl ?_
              refine g_iload 125 (gd rfl) rfl rfl ?_
              refine g_dup2 126 (gd rfl) rfl rfl rfl ?_
              refine g_laload 127 (gd rfl) rfl (n := 32) rfl (in_ix i67 rfl) (fun z126 e126 => ?_)
              have i126 := inv_L hI118 (n := 32) 0 2305843009213693951 rfl (in_ix i67 rfl) rfl e126
              refine g_lload 129 (gd rfl) rfl rfl ?_
              refine g_lor 130 (gd rfl) rfl (fun z129 e129 => ?_)
              have i129 := inl_or 61 e129 (lw 0 2305843009213693951 i126 rfl) (lw 0 2305843009213693951 i104 rfl) rfl
              refine g_lastore 131 (gd rfl) rfl (n := 32) rfl (in_ix i67 rfl) ?_
              have hI130 := inv_sL (q := 101) (j := z67.toNatClampNeg) (x := z129) hI118 rfl (lw 0 2305843009213693951 i129 rfl)
              refine g_iload_n 132 (gd rfl) rfl rfl ?_
              refine g_lload 134 (gd rfl) rfl rfl ?_
              refine g_lconst 0 135 (gd rfl) rfl rfl ?_
              refine g_lcmp 136 (gd rfl) rfl (fun z135 e135 => ?_)
              have i135 := lc_in e135
              refine g_if_eq 139 143 (gd rfl) rfl rfl (fun c136 => ?_) (fun c136 => ?_)
              · skip
                have i136 := z_eq 0 0 c136 i135 rfl
                have c136a := lc_eq e135 c136
                have i136a := lr_eq1 0 0 c136a i104 (l_c 0 rfl) rfl
                refine g_iconst 0 144 (gd rfl) rfl rfl ?_
                refine g_ior 145 (gd rfl) rfl (fun z144 e144 => ?_)
                have i144 := in_or 1 e144 (in_w 0 1 j28_2 rfl) (in_w 0 1 (in_c 0 rfl) rfl) rfl
                refine g_istore_n 146 (gd rfl) rfl (Nat.le_of_ble_eq_true rfl) ?_
                refine g_iinc 149 (gd rfl) rfl rfl (Nat.le_of_ble_eq_true rfl) (fun z146 e146 => ?_)
                have i146 := in_add 1 160 e146 i38 (in_c 1 rfl) rfl rfl
                refine g_goto 28 (gd rfl) rfl ?_
                exact gg_w (by omega) (gg_f (gf_cons rfl (gf_cons rfl (gf_cons rfl (gf_cons rfl (gf_cons rfl gf_nil))))) (ih28 (sL (sL sc28 100 z67.toNatClampNeg z117) 101 z67.toNatClampNeg z129) z144 z146 hI130 (fr_sL rfl (fr_sL rfl hFc28)) (in_w 0 1 i144 rfl) (in_w 0 31 j28_3 rfl) (in_w 0 160 i146 rfl) (m_up mm28 (t_add e146 i38 (in_c 1 rfl) rfl) (in_w 1 1 (in_c 1 rfl) rfl))))
              · skip
                have c136a := lc_ne e135 c136
                have i136 := lr_ne1 1 2305843009213693951 c136a i104 (l_c 0 rfl) rfl
                refine g_iconst 1 140 (gd rfl) rfl rfl ?_
                refine g_goto 144 (gd rfl) rfl ?_
                refine g_ior 145 (gd rfl) rfl (fun z144 e144 => ?_)
                have i144 := in_or 1 e144 (in_w 0 1 j28_2 rfl) (in_w 0 1 (in_c 1 rfl) rfl) rfl
                refine g_istore_n 146 (gd rfl) rfl (Nat.le_of_ble_eq_true rfl) ?_
                refine g_iinc 149 (gd rfl) rfl rfl (Nat.le_of_ble_eq_true rfl) (fun z146 e146 => ?_)
                have i146 := in_add 1 160 e146 i38 (in_c 1 rfl) rfl rfl
                refine g_goto 28 (gd rfl) rfl ?_
                exact gg_w (by omega) (gg_f (gf_cons rfl (gf_cons rfl (gf_cons rfl (gf_cons rfl (gf_cons rfl gf_nil))))) (ih28 (sL (sL sc28 100 z67.toNatClampNeg z117) 101 z67.toNatClampNeg z129) z144 z146 hI130 (fr_sL rfl (fr_sL rfl hFc28)) (in_w 0 1 i144 rfl) (in_w 0 31 j28_3 rfl) (in_w 0 160 i146 rfl) (m_up mm28 (t_add e146 i38 (in_c 1 rfl) rfl) (in_w 1 1 (in_c 1 rfl) rfl))))
      refine g_iload_n 13 (gd rfl) rfl rfl ?_
      refine g_aload_n 14 (gd rfl) rfl rfl ?_
      refine g_getI 17 (gd rfl) rfl rfl rfl (fun z14 e14 => ?_)
      have q14 : u_32_1 = z14 := (fr_F e_32_1 hFc12 rfl).trans e14.symm
      subst q14
      refine g_cmp_ge 20 158 (gd rfl) rfl rfl (fun c17 => ?_) (fun c17 => ?_)
      · skip
        refine g_aload_n 159 (gd rfl) rfl rfl ?_
        refine g_getA (q2 := 100) 162 (gd rfl) rfl rfl rfl rfl ?_
        refine g_iconst 0 163 (gd rfl) rfl rfl ?_
        refine g_aload_n 164 (gd rfl) rfl rfl ?_
        refine g_getA (q2 := 99) 167 (gd rfl) rfl rfl rfl rfl ?_
        refine g_iconst 0 168 (gd rfl) rfl rfl ?_
        refine g_bipush 32 170 (gd rfl) rfl rfl ?_
        refine g_cpL (q2 := 100) (q := 99) (n0 := 32) (n1 := 32) 173 (gd rfl) rfl rfl rfl rfl (Nat.le_of_ble_eq_true rfl) (cp_0 (in_c 0 rfl) rfl) (cp_0 (in_c 0 rfl) rfl) (cp_0 (in_c 32 rfl) rfl) (cp_1 (in_c 0 rfl) (in_c 32 rfl) rfl) (cp_1 (in_c 0 rfl) (in_c 32 rfl) rfl) hIc12 rfl rfl rfl (fun s170 hI170 hF170 cp170 => ?_)
        refine g_iload_n 174 (gd rfl) rfl rfl ?_
        exact g_ireturn (gd rfl) rfl (nb01 (in_w 0 1 j12_2 rfl)) (hP _ _ ⟨s170, hI170, (fr_tr rfl hFc12 hF170), y12_2, rfl, rfl, in_w 0 1 j12_2 rfl⟩)
      · skip
        have i17 := r_lt1 0 31 c17 j12_3 ro_32_1 rfl
        have i17a := r_lt2 1 32 c17 j12_3 ro_32_1 rfl
        refine g_aload_n 21 (gd rfl) rfl rfl ?_
        refine g_getA (q2 := 42) 24 (gd rfl) rfl rfl rfl rfl ?_
        refine g_iload_n 25 (gd rfl) rfl rfl ?_
        refine g_iaload 26 (gd rfl) rfl (n := 33) rfl (in_ix i17 rfl) (fun z25 e25 => ?_)
        have i25 := inv_I hIc12 (n := 33) (t := 0) 0 160 rfl (in_ix i17 rfl) rfl e25
        refine g_istore 28 (gd rfl) rfl (Nat.le_of_ble_eq_true rfl) ?_
        exact gg_w (by omega) (gg_f (gf_cons rfl (gf_cons rfl (gf_cons rfl (gf_cons rfl (gf_cons rfl gf_nil))))) (ct28 161 sc12 y12_2 z25 hIc12 hFc12 (in_w 0 1 j12_2 rfl) (in_w 0 31 i17 rfl) (in_w 0 160 i25 rfl) (m_in 161 (in_w 0 160 i25 rfl) rfl)))
  refine g_enter2 (k := 164) (N := 4871734) (by omega) rfl (Nat.le_of_ble_eq_true rfl) ?_
  refine g_iconst 0 1 (gd rfl) rfl rfl ?_
  refine g_istore_n 2 (gd rfl) rfl (Nat.le_of_ble_eq_true rfl) ?_
  refine g_aload_n 3 (gd rfl) rfl rfl ?_
  refine g_getA (q2 := 100) 6 (gd rfl) rfl rfl rfl rfl ?_
  refine g_lconst 0 7 (gd rfl) rfl rfl ?_
  refine g_calls (As := [.ref (A 100), .long (Int64.ofInt 0)]) (r := []) 10 (gd rfl) rfl rfl rfl rfl rfl (Nat.le_of_ble_eq_true rfl) (Nat.zero_le _) (Nat.zero_le _) (k_fillL 100 (by omega) hI (n := 32) rfl rfl rfl (lw 0 2305843009213693951 (l_c 0 rfl) rfl)) (fun v u h => ?_)
  obtain ⟨s7, hI7, hF7, rfl, rfl, fl7⟩ := h
  show GG _ _ _ _ _ _ _ _ [] _ _ _
  refine g_iconst 0 11 (gd rfl) rfl rfl ?_
  refine g_istore_n 12 (gd rfl) rfl (Nat.le_of_ble_eq_true rfl) ?_
  exact gg_w (by omega) (gg_f (gf_cons rfl (gf_cons rfl (gf_cons rfl (gf_cons rfl gf_nil)))) (ct12 33 s7 (Int32.ofInt 0) (Int32.ofInt 0) hI7 (fr_tr rfl fr_rf hF7) (in_w 0 1 (in_c 0 rfl) rfl) (in_w 0 32 (in_c 0 rfl) rfl) (m_in 33 (in_w 0 32 (in_c 0 rfl) rfl) rfl)))

def fm_175_46_2 : FM := ([48], [], [(46, 9)], [])
/-- GraphHouse$Script.write -/
theorem k_175_46_2 {Z : AmZ} {A : Nat → Nat} {s : GS} {ex : va_W} {d : Nat} {X : AmX}  (hd : 4 ≤ d) (hI : Inv s)  : GC Z d 175 [.ref (A 46), .ref (A 2)] (WW Z A s ++ ex) 0 0 (fun v u => ∃ t : GS, Inv t ∧ Fr fm_175_46_2 s t ∧ ∃ z : Int32, v = some (.int z) ∧ u = WW Z A t ++ ex ∧ In z 0 4608) X := by
  intro post xp hP hX
  obtain ⟨u_2_1, e_2_1⟩ : ∃ w, w = s.2.2.1 2 1 := ⟨_, rfl⟩
  have ro_2_1 := inv_F hI 0 32 rfl e_2_1
  obtain ⟨u_2_3, e_2_3⟩ : ∃ w, w = s.2.2.1 2 3 := ⟨_, rfl⟩
  have ro_2_3 := inv_F hI 0 160 rfl e_2_3
  have ct39 : ∀ (k39 : Nat) (sc39 : GS) (y39_2 : Int32), Inv sc39 → Fr fm_175_46_2 s sc39 → (In y39_2 0 160) → 160 - (y39_2).toInt < (k39 : Int) → GG Z (d - 1) 175 post (gx xp) (1 + k39 * 1801) 39 (fun j => xlook j [(0, .ref (A 46)), (1, .ref (A 2)), (2, .int y39_2)]) [] (WW Z A sc39 ++ ex) 0 0 := by
    intro k39
    induction k39 with
    | zero => intro sc39 y39_2 hIc39 hFc39 j39_2 mm39; exact m_no mm39 j39_2 rfl
    | succ k39 ih39 =>
      intro sc39 y39_2 hIc39 hFc39 j39_2 mm39
      refine gg_w (M := 1 + k39 * 1801 + 1801) (by omega) ?_
      have ct113 : ∀ (sc113 : GS) , Inv sc113 → Fr fm_175_46_2 s sc113 → (In y39_2 0 159) → GG Z (d - 1) 175 post (gx xp) (1 + k39 * 1801 + 901) 113 (fun j => xlook j [(0, .ref (A 46)), (1, .ref (A 2)), (2, .int y39_2)]) [] (WW Z A sc113 ++ ex) 0 0 := by
        intro sc113  hIc113 hFc113 j113_2
        refine g_iinc 116 (gd rfl) rfl rfl (Nat.le_of_ble_eq_true rfl) (fun z113 e113 => ?_)
        have i113 := in_add 1 160 e113 j113_2 (in_c 1 rfl) rfl rfl
        refine g_goto 39 (gd rfl) rfl ?_
        exact gg_w (by omega) (gg_f (gf_cons rfl (gf_cons rfl (gf_cons rfl gf_nil))) (ih39 sc113 z113 hIc113 hFc113 (in_w 0 160 i113 rfl) (m_up mm39 (t_add e113 j113_2 (in_c 1 rfl) rfl) (in_w 1 1 (in_c 1 rfl) rfl))))
      refine g_iload_n 40 (gd rfl) rfl rfl ?_
      refine g_aload_n 41 (gd rfl) rfl rfl ?_
      refine g_getI 44 (gd rfl) rfl rfl rfl (fun z41 e41 => ?_)
      have q41 : u_2_3 = z41 := (fr_F e_2_3 hFc39 rfl).trans e41.symm
      subst q41
      refine g_cmp_ge 47 119 (gd rfl) rfl rfl (fun c44 => ?_) (fun c44 => ?_)
      · skip
        refine g_aload_n 120 (gd rfl) rfl rfl ?_
        refine g_getI 123 (gd rfl) rfl rfl rfl (fun z120 e120 => ?_)
        have i120 := inv_F hIc39 0 4608 rfl e120
        exact g_ireturn (gd rfl) rfl rfl (hP _ _ ⟨sc39, hIc39, hFc39, z120, rfl, rfl, in_w 0 4608 i120 rfl⟩)
      · skip
        have i44 := r_lt1 0 159 c44 j39_2 ro_2_3 rfl
        have i44a := r_lt2 1 160 c44 j39_2 ro_2_3 rfl
        refine g_aload_n 48 (gd rfl) rfl rfl ?_
        refine g_getA (q2 := 4) 51 (gd rfl) rfl rfl rfl rfl ?_
        refine g_iload_n 52 (gd rfl) rfl rfl ?_
        refine g_iaload 53 (gd rfl) rfl (n := 160) rfl (in_ix i44 rfl) (fun z52 e52 => ?_)
        have i52 := inv_I hIc39 (n := 160) (t := 0) (-1) 31 rfl (in_ix i44 rfl) rfl e52
        refine g_iconst (-1) 54 (gd rfl) rfl rfl ?_
        refine g_cmp_eq 57 113 (gd rfl) rfl rfl (fun c54 => ?_) (fun c54 => ?_)
        · skip
          have i54 := r_eq1 (-1) (-1) c54 i52 (in_c (-1) rfl) rfl
          exact gg_w (by omega) (gg_f (gf_cons rfl (gf_cons rfl (gf_cons rfl gf_nil))) (ct113 sc39  hIc39 hFc39 (in_w 0 159 i44 rfl)))
        · skip
          have i54 := r_ne1 0 31 c54 i52 (in_c (-1) rfl) rfl
          refine g_aload_n 58 (gd rfl) rfl rfl ?_
          refine g_bipush 97 60 (gd rfl) rfl rfl ?_
          refine g_callv (X := _) (As := [.int (Int32.ofInt 97)]) (r := []) (b := A 46) (q := 46) 63 (gd rfl) rfl rfl rfl rfl rfl (ww_o rfl) (Nat.le_of_ble_eq_true rfl) (mc := 0) (ms := 0) (Nat.zero_le _) (Nat.zero_le _) (P := fun v u => _) ?_ (fun e u h => h) (fun v u h => h)
          intro po60 xx60 hp60 hx60
          refine g_enter2 (k := 177) (N := 300) (by omega) rfl (Nat.le_of_ble_eq_true rfl) ?_
          refine g_aload_n 1 (gd rfl) rfl rfl ?_
          refine g_getI 4 (gd rfl) rfl rfl rfl (fun z60x1 e60x1 => ?_)
          have i60x1 := inv_F hIc39 0 4608 rfl e60x1
          refine g_aload_n 5 (gd rfl) rfl rfl ?_
          refine g_getA (q2 := 48) 8 (gd rfl) rfl rfl rfl rfl ?_
          refine g_alen (n := 4608) (t := 2) 4608 9 (gd rfl) rfl rfl (Nat.le_of_ble_eq_true rfl) rfl ?_
          refine g_cmp_ge 12 32 (gd rfl) rfl rfl (fun c60x9 => ?_) (fun c60x9 => ?_)
          · skip
            have i60x9 := r_le2 4608 4608 c60x9 (in_c 4608 rfl) i60x1 rfl
            refine g_return (gd rfl) rfl (hp60 _ _ ?_)
            show GG _ _ _ _ _ _ _ _ [] _ _ _
            refine g_aload_n 64 (gd rfl) rfl rfl ?_
            refine g_aload_n 65 (gd rfl) rfl rfl ?_
            refine g_getA (q2 := 4) 68 (gd rfl) rfl rfl rfl rfl ?_
            refine g_iload_n 69 (gd rfl) rfl rfl ?_
            refine g_iaload 70 (gd rfl) rfl (n := 160) rfl (in_ix i44 rfl) (fun z69 e69 => ?_)
            have q69 : z52 = z69 := (e52).trans e69.symm
            subst q69
            refine g_callv (X := _) (As := [.int z52]) (r := []) (b := A 46) (q := 46) 73 (gd rfl) rfl rfl rfl rfl rfl (ww_o rfl) (Nat.le_of_ble_eq_true rfl) (Nat.zero_le _) (Nat.zero_le _) (k_178_46 (by omega) hIc39 (in_w (-1000000) 1000000 i54 rfl)) (fun e u h => h) (fun v u h => ?_)
            obtain ⟨s70, hI70, hF70, rfl, rfl⟩ := h
            show GG _ _ _ _ _ _ _ _ [] _ _ _
            refine g_aload_n 74 (gd rfl) rfl rfl ?_
            refine g_aload_n 75 (gd rfl) rfl rfl ?_
            refine g_getA (q2 := 5) 78 (gd rfl) rfl rfl rfl rfl ?_
            refine g_iload_n 79 (gd rfl) rfl rfl ?_
            refine g_iaload 80 (gd rfl) rfl (n := 160) rfl (in_ix i44 rfl) (fun z79 e79 => ?_)
            have i79 := inv_I hI70 (n := 160) (t := 0) 0 31 rfl (in_ix i44 rfl) rfl e79
            refine g_callv (X := _) (As := [.int z79]) (r := []) (b := A 46) (q := 46) 83 (gd rfl) rfl rfl rfl rfl rfl (ww_o rfl) (Nat.le_of_ble_eq_true rfl) (Nat.zero_le _) (Nat.zero_le _) (k_178_46 (by omega) hI70 (in_w (-1000000) 1000000 i79 rfl)) (fun e u h => h) (fun v u h => ?_)
            obtain ⟨s80, hI80, hF80, rfl, rfl⟩ := h
            show GG _ _ _ _ _ _ _ _ [] _ _ _
            refine g_aload_n 84 (gd rfl) rfl rfl ?_
            refine g_aload_n 85 (gd rfl) rfl rfl ?_
            refine g_getA (q2 := 6) 88 (gd rfl) rfl rfl rfl rfl ?_
            refine g_iload_n 89 (gd rfl) rfl rfl ?_
            refine g_iaload 90 (gd rfl) rfl (n := 160) rfl (in_ix i44 rfl) (fun z89 e89 => ?_)
            have i89 := inv_I hI80 (n := 160) (t := 0) (-1000000) 1000000 rfl (in_ix i44 rfl) rfl e89
            refine g_callv (X := _) (As := [.int z89]) (r := []) (b := A 46) (q := 46) 93 (gd rfl) rfl rfl rfl rfl rfl (ww_o rfl) (Nat.le_of_ble_eq_true rfl) (Nat.zero_le _) (Nat.zero_le _) (k_178_46 (by omega) hI80 (in_w (-1000000) 1000000 i89 rfl)) (fun e u h => h) (fun v u h => ?_)
            obtain ⟨s90, hI90, hF90, rfl, rfl⟩ := h
            show GG _ _ _ _ _ _ _ _ [] _ _ _
            refine g_aload_n 94 (gd rfl) rfl rfl ?_
            refine g_aload_n 95 (gd rfl) rfl rfl ?_
            refine g_getA (q2 := 7) 98 (gd rfl) rfl rfl rfl rfl ?_
            refine g_iload_n 99 (gd rfl) rfl rfl ?_
            refine g_iaload 100 (gd rfl) rfl (n := 160) rfl (in_ix i44 rfl) (fun z99 e99 => ?_)
            have i99 := inv_I hI90 (n := 160) (t := 0) 0 1000000 rfl (in_ix i44 rfl) rfl e99
            refine g_callv (X := _) (As := [.int z99]) (r := []) (b := A 46) (q := 46) 103 (gd rfl) rfl rfl rfl rfl rfl (ww_o rfl) (Nat.le_of_ble_eq_true rfl) (Nat.zero_le _) (Nat.zero_le _) (k_178_46 (by omega) hI90 (in_w (-1000000) 1000000 i99 rfl)) (fun e u h => h) (fun v u h => ?_)
            obtain ⟨s100, hI100, hF100, rfl, rfl⟩ := h
            show GG _ _ _ _ _ _ _ _ [] _ _ _
            refine g_aload_n 104 (gd rfl) rfl rfl ?_
            refine g_aload_n 105 (gd rfl) rfl rfl ?_
            refine g_getA (q2 := 8) 108 (gd rfl) rfl rfl rfl rfl ?_
            refine g_iload_n 109 (gd rfl) rfl rfl ?_
            refine g_iaload 110 (gd rfl) rfl (n := 160) rfl (in_ix i44 rfl) (fun z109 e109 => ?_)
            have i109 := inv_I hI100 (n := 160) (t := 0) 0 25 rfl (in_ix i44 rfl) rfl e109
            refine g_callv (X := _) (As := [.int z109]) (r := []) (b := A 46) (q := 46) 113 (gd rfl) rfl rfl rfl rfl rfl (ww_o rfl) (Nat.le_of_ble_eq_true rfl) (mc := 0) (ms := 0) (Nat.zero_le _) (Nat.zero_le _) (P := fun v u => _) ?_ (fun e u h => h) (fun v u h => h)
            intro po110 xx110 hp110 hx110
            refine g_enter2 (k := 176) (N := 300) (by omega) rfl (Nat.le_of_ble_eq_true rfl) ?_
            refine g_aload_n 1 (gd rfl) rfl rfl ?_
            refine g_bipush 32 3 (gd rfl) rfl rfl ?_
            refine g_callv (X := _) (As := [.int (Int32.ofInt 32)]) (r := []) (b := A 46) (q := 46) 6 (gd rfl) rfl rfl rfl rfl rfl (ww_o rfl) (Nat.le_of_ble_eq_true rfl) (mc := 0) (ms := 0) (Nat.zero_le _) (Nat.zero_le _) (P := fun v u => _) ?_ (fun e u h => h) (fun v u h => h)
            intro po110x3 xx110x3 hp110x3 hx110x3
            refine g_enter2 (k := 177) (N := 300) (by omega) rfl (Nat.le_of_ble_eq_true rfl) ?_
            refine g_aload_n 1 (gd rfl) rfl rfl ?_
            refine g_getI 4 (gd rfl) rfl rfl rfl (fun z110x3x1 e110x3x1 => ?_)
            have i110x3x1 := inv_F hI100 0 4608 rfl e110x3x1
            refine g_aload_n 5 (gd rfl) rfl rfl ?_
            refine g_getA (q2 := 48) 8 (gd rfl) rfl rfl rfl rfl ?_
            refine g_alen (n := 4608) (t := 2) 4608 9 (gd rfl) rfl rfl (Nat.le_of_ble_eq_true rfl) rfl ?_
            refine g_cmp_ge 12 32 (gd rfl) rfl rfl (fun c110x3x9 => ?_) (fun c110x3x9 => ?_)
            · skip
              have i110x3x9 := r_le2 4608 4608 c110x3x9 (in_c 4608 rfl) i110x3x1 rfl
              refine g_return (gd rfl) rfl (hp110x3 _ _ ?_)
              show GG _ _ _ _ _ _ _ _ [] _ _ _
              refine g_aload_n 7 (gd rfl) rfl rfl ?_
              refine g_bipush 97 9 (gd rfl) rfl rfl ?_
              refine g_iload_n 10 (gd rfl) rfl rfl ?_
              refine g_iadd 11 (gd rfl) rfl (fun z110x10 e110x10 => ?_)
              have i110x10 := in_add 97 122 e110x10 (in_c 97 rfl) i109 rfl rfl
              refine g_i2c 12 (gd rfl) rfl (fun z110x11 e110x11 => ?_)
              have i110x11 := in_i2c e110x11
              refine g_callv (X := _) (As := [.int z110x11]) (r := []) (b := A 46) (q := 46) 15 (gd rfl) rfl rfl rfl rfl rfl (ww_o rfl) (Nat.le_of_ble_eq_true rfl) (mc := 0) (ms := 0) (Nat.zero_le _) (Nat.zero_le _) (P := fun v u => _) ?_ (fun e u h => h) (fun v u h => h)
              intro po110x12 xx110x12 hp110x12 hx110x12
              refine g_enter2 (k := 177) (N := 300) (by omega) rfl (Nat.le_of_ble_eq_true rfl) ?_
              refine g_aload_n 1 (gd rfl) rfl rfl ?_
              refine g_getI 4 (gd rfl) rfl rfl rfl (fun z110x12x1 e110x12x1 => ?_)
              have q110x12x1 : z110x3x1 = z110x12x1 := (e110x3x1).trans e110x12x1.symm
              subst q110x12x1
              refine g_aload_n 5 (gd rfl) rfl rfl ?_
              refine g_getA (q2 := 48) 8 (gd rfl) rfl rfl rfl rfl ?_
              refine g_alen (n := 4608) (t := 2) 4608 9 (gd rfl) rfl rfl (Nat.le_of_ble_eq_true rfl) rfl ?_
              refine g_cmp_ge 12 32 (gd rfl) rfl rfl (fun c110x12x9 => ?_) (fun c110x12x9 => ?_)
              · skip
                refine g_return (gd rfl) rfl (hp110x12 _ _ ?_)
                show GG _ _ _ _ _ _ _ _ [] _ _ _
                refine g_aload_n 16 (gd rfl) rfl rfl ?_
                refine g_bipush 59 18 (gd rfl) rfl rfl ?_
                refine g_callv (X := _) (As := [.int (Int32.ofInt 59)]) (r := []) (b := A 46) (q := 46) 21 (gd rfl) rfl rfl rfl rfl rfl (ww_o rfl) (Nat.le_of_ble_eq_true rfl) (mc := 0) (ms := 0) (Nat.zero_le _) (Nat.zero_le _) (P := fun v u => _) ?_ (fun e u h => h) (fun v u h => h)
                intro po110x18 xx110x18 hp110x18 hx110x18
                refine g_enter2 (k := 177) (N := 300) (by omega) rfl (Nat.le_of_ble_eq_true rfl) ?_
                refine g_aload_n 1 (gd rfl) rfl rfl ?_
                refine g_getI 4 (gd rfl) rfl rfl rfl (fun z110x18x1 e110x18x1 => ?_)
                have q110x18x1 : z110x3x1 = z110x18x1 := (e110x3x1).trans e110x18x1.symm
                subst q110x18x1
                refine g_aload_n 5 (gd rfl) rfl rfl ?_
                refine g_getA (q2 := 48) 8 (gd rfl) rfl rfl rfl rfl ?_
                refine g_alen (n := 4608) (t := 2) 4608 9 (gd rfl) rfl rfl (Nat.le_of_ble_eq_true rfl) rfl ?_
                refine g_cmp_ge 12 32 (gd rfl) rfl rfl (fun c110x18x9 => ?_) (fun c110x18x9 => ?_)
                · skip
                  refine g_return (gd rfl) rfl (hp110x18 _ _ ?_)
                  show GG _ _ _ _ _ _ _ _ [] _ _ _
                  refine g_return (gd rfl) rfl (hp110 _ _ ?_)
                  show GG _ _ _ _ _ _ _ _ [] _ _ _
                  exact gg_w (by omega) (gg_f (gf_cons rfl (gf_cons rfl (gf_cons rfl gf_nil))) (ct113 s100  hI100 (fr_tr rfl (fr_tr rfl (fr_tr rfl (fr_tr rfl hFc39 hF70) hF80) hF90) hF100) (in_w 0 159 i44 rfl)))
                · skip
                  exact n_lt c110x18x9 i110x3x9 (in_c 4608 rfl) rfl
              · skip
                exact n_lt c110x12x9 i110x3x9 (in_c 4608 rfl) rfl
            · skip
              have i110x3x9 := r_lt1 0 4607 c110x3x9 i110x3x1 (in_c 4608 rfl) rfl
              refine g_aload_n 13 (gd rfl) rfl rfl ?_
              refine g_getA (q2 := 48) 16 (gd rfl) rfl rfl rfl rfl ?_
              refine g_aload_n 17 (gd rfl) rfl rfl ?_
              refine g_getI 20 (gd rfl) rfl rfl rfl (fun z110x3x17 e110x3x17 => ?_)
              have q110x3x17 : z110x3x1 = z110x3x17 := (e110x3x1).trans e110x3x17.symm
              subst q110x3x17
              refine g_iload_n 21 (gd rfl) rfl rfl ?_
              refine g_castore 22 (gd rfl) rfl (n := 4608) rfl (in_ix i110x3x9 rfl) ?_
              have hI110x3x21 := inv_sI (q := 48) (j := z110x3x1.toNatClampNeg) hI100 rfl (in_w 0 65535 (nar_c (Int32.ofInt 32)) rfl)
              refine g_aload_n 23 (gd rfl) rfl rfl ?_
              refine g_dup 24 (gd rfl) rfl rfl ?_
              refine g_getI 27 (gd rfl) rfl rfl rfl (fun z110x3x24 e110x3x24 => ?_)
              have q110x3x24 : z110x3x1 = z110x3x24 := (sI_F (e110x3x1)).trans e110x3x24.symm
              subst q110x3x24
              refine g_iconst 1 28 (gd rfl) rfl rfl ?_
              refine g_iadd 29 (gd rfl) rfl (fun z110x3x28 e110x3x28 => ?_)
              have i110x3x28 := in_add 1 4608 e110x3x28 i110x3x9 (in_c 1 rfl) rfl rfl
              refine g_putI 32 (gd rfl) rfl rfl rfl rfl ?_
              have hI110x3x29 := inv_sF (q := 46) (j := 9) hI110x3x21 rfl (in_w 0 4608 i110x3x28 rfl)
              refine g_return (gd rfl) rfl (hp110x3 _ _ ?_)
              show GG _ _ _ _ _ _ _ _ [] _ _ _
              refine g_aload_n 7 (gd rfl) rfl rfl ?_
              refine g_bipush 97 9 (gd rfl) rfl rfl ?_
              refine g_iload_n 10 (gd rfl) rfl rfl ?_
              refine g_iadd 11 (gd rfl) rfl (fun z110x10 e110x10 => ?_)
              have i110x10 := in_add 97 122 e110x10 (in_c 97 rfl) i109 rfl rfl
              refine g_i2c 12 (gd rfl) rfl (fun z110x11 e110x11 => ?_)
              have i110x11 := in_i2c e110x11
              refine g_callv (X := _) (As := [.int z110x11]) (r := []) (b := A 46) (q := 46) 15 (gd rfl) rfl rfl rfl rfl rfl (ww_o rfl) (Nat.le_of_ble_eq_true rfl) (mc := 0) (ms := 0) (Nat.zero_le _) (Nat.zero_le _) (P := fun v u => _) ?_ (fun e u h => h) (fun v u h => h)
              intro po110x12 xx110x12 hp110x12 hx110x12
              refine g_enter2 (k := 177) (N := 300) (by omega) rfl (Nat.le_of_ble_eq_true rfl) ?_
              refine g_aload_n 1 (gd rfl) rfl rfl ?_
              refine g_getI 4 (gd rfl) rfl rfl rfl (fun z110x12x1 e110x12x1 => ?_)
              have q110x12x1 : z110x3x28 = z110x12x1 := (sF_get).trans e110x12x1.symm
              subst q110x12x1
              refine g_aload_n 5 (gd rfl) rfl rfl ?_
              refine g_getA (q2 := 48) 8 (gd rfl) rfl rfl rfl rfl ?_
              refine g_alen (n := 4608) (t := 2) 4608 9 (gd rfl) rfl rfl (Nat.le_of_ble_eq_true rfl) rfl ?_
              refine g_cmp_ge 12 32 (gd rfl) rfl rfl (fun c110x12x9 => ?_) (fun c110x12x9 => ?_)
              · skip
                have i110x12x9 := r_le2 4608 4608 c110x12x9 (in_c 4608 rfl) i110x3x28 rfl
                refine g_return (gd rfl) rfl (hp110x12 _ _ ?_)
                show GG _ _ _ _ _ _ _ _ [] _ _ _
                refine g_aload_n 16 (gd rfl) rfl rfl ?_
                refine g_bipush 59 18 (gd rfl) rfl rfl ?_
                refine g_callv (X := _) (As := [.int (Int32.ofInt 59)]) (r := []) (b := A 46) (q := 46) 21 (gd rfl) rfl rfl rfl rfl rfl (ww_o rfl) (Nat.le_of_ble_eq_true rfl) (mc := 0) (ms := 0) (Nat.zero_le _) (Nat.zero_le _) (P := fun v u => _) ?_ (fun e u h => h) (fun v u h => h)
                intro po110x18 xx110x18 hp110x18 hx110x18
                refine g_enter2 (k := 177) (N := 300) (by omega) rfl (Nat.le_of_ble_eq_true rfl) ?_
                refine g_aload_n 1 (gd rfl) rfl rfl ?_
                refine g_getI 4 (gd rfl) rfl rfl rfl (fun z110x18x1 e110x18x1 => ?_)
                have q110x18x1 : z110x3x28 = z110x18x1 := (sF_get).trans e110x18x1.symm
                subst q110x18x1
                refine g_aload_n 5 (gd rfl) rfl rfl ?_
                refine g_getA (q2 := 48) 8 (gd rfl) rfl rfl rfl rfl ?_
                refine g_alen (n := 4608) (t := 2) 4608 9 (gd rfl) rfl rfl (Nat.le_of_ble_eq_true rfl) rfl ?_
                refine g_cmp_ge 12 32 (gd rfl) rfl rfl (fun c110x18x9 => ?_) (fun c110x18x9 => ?_)
                · skip
                  refine g_return (gd rfl) rfl (hp110x18 _ _ ?_)
                  show GG _ _ _ _ _ _ _ _ [] _ _ _
                  refine g_return (gd rfl) rfl (hp110 _ _ ?_)
                  show GG _ _ _ _ _ _ _ _ [] _ _ _
                  exact gg_w (by omega) (gg_f (gf_cons rfl (gf_cons rfl (gf_cons rfl gf_nil))) (ct113 (sF (sI s100 48 z110x3x1.toNatClampNeg (vp_nar .char (Int32.ofInt 32))) 46 9 z110x3x28)  hI110x3x29 (fr_sF rfl (fr_sI rfl (fr_tr rfl (fr_tr rfl (fr_tr rfl (fr_tr rfl hFc39 hF70) hF80) hF90) hF100))) (in_w 0 159 i44 rfl)))
                · skip
                  exact n_lt c110x18x9 i110x12x9 (in_c 4608 rfl) rfl
              · skip
                have i110x12x9 := r_lt1 1 4607 c110x12x9 i110x3x28 (in_c 4608 rfl) rfl
                refine g_aload_n 13 (gd rfl) rfl rfl ?_
                refine g_getA (q2 := 48) 16 (gd rfl) rfl rfl rfl rfl ?_
                refine g_aload_n 17 (gd rfl) rfl rfl ?_
                refine g_getI 20 (gd rfl) rfl rfl rfl (fun z110x12x17 e110x12x17 => ?_)
                have q110x12x17 : z110x3x28 = z110x12x17 := (sF_get).trans e110x12x17.symm
                subst q110x12x17
                refine g_iload_n 21 (gd rfl) rfl rfl ?_
                refine g_castore 22 (gd rfl) rfl (n := 4608) rfl (in_ix i110x12x9 rfl) ?_
                have hI110x12x21 := inv_sI (q := 48) (j := z110x3x28.toNatClampNeg) hI110x3x29 rfl (in_w 0 65535 (nar_c z110x11) rfl)
                refine g_aload_n 23 (gd rfl) rfl rfl ?_
                refine g_dup 24 (gd rfl) rfl rfl ?_
                refine g_getI 27 (gd rfl) rfl rfl rfl (fun z110x12x24 e110x12x24 => ?_)
                have q110x12x24 : z110x3x28 = z110x12x24 := (sI_F (sF_get)).trans e110x12x24.symm
                subst q110x12x24
                refine g_iconst 1 28 (gd rfl) rfl rfl ?_
                refine g_iadd 29 (gd rfl) rfl (fun z110x12x28 e110x12x28 => ?_)
                have i110x12x28 := in_add 2 4608 e110x12x28 i110x12x9 (in_c 1 rfl) rfl rfl
                refine g_putI 32 (gd rfl) rfl rfl rfl rfl ?_
                have hI110x12x29 := inv_sF (q := 46) (j := 9) hI110x12x21 rfl (in_w 0 4608 i110x12x28 rfl)
                refine g_return (gd rfl) rfl (hp110x12 _ _ ?_)
                show GG _ _ _ _ _ _ _ _ [] _ _ _
                refine g_aload_n 16 (gd rfl) rfl rfl ?_
                refine g_bipush 59 18 (gd rfl) rfl rfl ?_
                refine g_callv (X := _) (As := [.int (Int32.ofInt 59)]) (r := []) (b := A 46) (q := 46) 21 (gd rfl) rfl rfl rfl rfl rfl (ww_o rfl) (Nat.le_of_ble_eq_true rfl) (mc := 0) (ms := 0) (Nat.zero_le _) (Nat.zero_le _) (P := fun v u => _) ?_ (fun e u h => h) (fun v u h => h)
                intro po110x18 xx110x18 hp110x18 hx110x18
                refine g_enter2 (k := 177) (N := 300) (by omega) rfl (Nat.le_of_ble_eq_true rfl) ?_
                refine g_aload_n 1 (gd rfl) rfl rfl ?_
                refine g_getI 4 (gd rfl) rfl rfl rfl (fun z110x18x1 e110x18x1 => ?_)
                have q110x18x1 : z110x12x28 = z110x18x1 := (sF_get).trans e110x18x1.symm
                subst q110x18x1
                refine g_aload_n 5 (gd rfl) rfl rfl ?_
                refine g_getA (q2 := 48) 8 (gd rfl) rfl rfl rfl rfl ?_
                refine g_alen (n := 4608) (t := 2) 4608 9 (gd rfl) rfl rfl (Nat.le_of_ble_eq_true rfl) rfl ?_
                refine g_cmp_ge 12 32 (gd rfl) rfl rfl (fun c110x18x9 => ?_) (fun c110x18x9 => ?_)
                · skip
                  have i110x18x9 := r_le2 4608 4608 c110x18x9 (in_c 4608 rfl) i110x12x28 rfl
                  refine g_return (gd rfl) rfl (hp110x18 _ _ ?_)
                  show GG _ _ _ _ _ _ _ _ [] _ _ _
                  refine g_return (gd rfl) rfl (hp110 _ _ ?_)
                  show GG _ _ _ _ _ _ _ _ [] _ _ _
                  exact gg_w (by omega) (gg_f (gf_cons rfl (gf_cons rfl (gf_cons rfl gf_nil))) (ct113 (sF (sI (sF (sI s100 48 z110x3x1.toNatClampNeg (vp_nar .char (Int32.ofInt 32))) 46 9 z110x3x28) 48 z110x3x28.toNatClampNeg (vp_nar .char z110x11)) 46 9 z110x12x28)  hI110x12x29 (fr_sF rfl (fr_sI rfl (fr_sF rfl (fr_sI rfl (fr_tr rfl (fr_tr rfl (fr_tr rfl (fr_tr rfl hFc39 hF70) hF80) hF90) hF100))))) (in_w 0 159 i44 rfl)))
                · skip
                  have i110x18x9 := r_lt1 2 4607 c110x18x9 i110x12x28 (in_c 4608 rfl) rfl
                  refine g_aload_n 13 (gd rfl) rfl rfl ?_
                  refine g_getA (q2 := 48) 16 (gd rfl) rfl rfl rfl rfl ?_
                  refine g_aload_n 17 (gd rfl) rfl rfl ?_
                  refine g_getI 20 (gd rfl) rfl rfl rfl (fun z110x18x17 e110x18x17 => ?_)
                  have q110x18x17 : z110x12x28 = z110x18x17 := (sF_get).trans e110x18x17.symm
                  subst q110x18x17
                  refine g_iload_n 21 (gd rfl) rfl rfl ?_
                  refine g_castore 22 (gd rfl) rfl (n := 4608) rfl (in_ix i110x18x9 rfl) ?_
                  have hI110x18x21 := inv_sI (q := 48) (j := z110x12x28.toNatClampNeg) hI110x12x29 rfl (in_w 0 65535 (nar_c (Int32.ofInt 59)) rfl)
                  refine g_aload_n 23 (gd rfl) rfl rfl ?_
                  refine g_dup 24 (gd rfl) rfl rfl ?_
                  refine g_getI 27 (gd rfl) rfl rfl rfl (fun z110x18x24 e110x18x24 => ?_)
                  have q110x18x24 : z110x12x28 = z110x18x24 := (sI_F (sF_get)).trans e110x18x24.symm
                  subst q110x18x24
                  refine g_iconst 1 28 (gd rfl) rfl rfl ?_
                  refine g_iadd 29 (gd rfl) rfl (fun z110x18x28 e110x18x28 => ?_)
                  have i110x18x28 := in_add 3 4608 e110x18x28 i110x18x9 (in_c 1 rfl) rfl rfl
                  refine g_putI 32 (gd rfl) rfl rfl rfl rfl ?_
                  have hI110x18x29 := inv_sF (q := 46) (j := 9) hI110x18x21 rfl (in_w 0 4608 i110x18x28 rfl)
                  refine g_return (gd rfl) rfl (hp110x18 _ _ ?_)
                  show GG _ _ _ _ _ _ _ _ [] _ _ _
                  refine g_return (gd rfl) rfl (hp110 _ _ ?_)
                  show GG _ _ _ _ _ _ _ _ [] _ _ _
                  exact gg_w (by omega) (gg_f (gf_cons rfl (gf_cons rfl (gf_cons rfl gf_nil))) (ct113 (sF (sI (sF (sI (sF (sI s100 48 z110x3x1.toNatClampNeg (vp_nar .char (Int32.ofInt 32))) 46 9 z110x3x28) 48 z110x3x28.toNatClampNeg (vp_nar .char z110x11)) 46 9 z110x12x28) 48 z110x12x28.toNatClampNeg (vp_nar .char (Int32.ofInt 59))) 46 9 z110x18x28)  hI110x18x29 (fr_sF rfl (fr_sI rfl (fr_sF rfl (fr_sI rfl (fr_sF rfl (fr_sI rfl (fr_tr rfl (fr_tr rfl (fr_tr rfl (fr_tr rfl hFc39 hF70) hF80) hF90) hF100))))))) (in_w 0 159 i44 rfl)))
          · skip
            have i60x9 := r_lt1 0 4607 c60x9 i60x1 (in_c 4608 rfl) rfl
            refine g_aload_n 13 (gd rfl) rfl rfl ?_
            refine g_getA (q2 := 48) 16 (gd rfl) rfl rfl rfl rfl ?_
            refine g_aload_n 17 (gd rfl) rfl rfl ?_
            refine g_getI 20 (gd rfl) rfl rfl rfl (fun z60x17 e60x17 => ?_)
            have q60x17 : z60x1 = z60x17 := (e60x1).trans e60x17.symm
            subst q60x17
            refine g_iload_n 21 (gd rfl) rfl rfl ?_
            refine g_castore 22 (gd rfl) rfl (n := 4608) rfl (in_ix i60x9 rfl) ?_
            have hI60x21 := inv_sI (q := 48) (j := z60x1.toNatClampNeg) hIc39 rfl (in_w 0 65535 (nar_c (Int32.ofInt 97)) rfl)
            refine g_aload_n 23 (gd rfl) rfl rfl ?_
            refine g_dup 24 (gd rfl) rfl rfl ?_
            refine g_getI 27 (gd rfl) rfl rfl rfl (fun z60x24 e60x24 => ?_)
            have q60x24 : z60x1 = z60x24 := (sI_F (e60x1)).trans e60x24.symm
            subst q60x24
            refine g_iconst 1 28 (gd rfl) rfl rfl ?_
            refine g_iadd 29 (gd rfl) rfl (fun z60x28 e60x28 => ?_)
            have i60x28 := in_add 1 4608 e60x28 i60x9 (in_c 1 rfl) rfl rfl
            refine g_putI 32 (gd rfl) rfl rfl rfl rfl ?_
            have hI60x29 := inv_sF (q := 46) (j := 9) hI60x21 rfl (in_w 0 4608 i60x28 rfl)
            refine g_return (gd rfl) rfl (hp60 _ _ ?_)
            show GG _ _ _ _ _ _ _ _ [] _ _ _
            refine g_aload_n 64 (gd rfl) rfl rfl ?_
            refine g_aload_n 65 (gd rfl) rfl rfl ?_
            refine g_getA (q2 := 4) 68 (gd rfl) rfl rfl rfl rfl ?_
            refine g_iload_n 69 (gd rfl) rfl rfl ?_
            refine g_iaload 70 (gd rfl) rfl (n := 160) rfl (in_ix i44 rfl) (fun z69 e69 => ?_)
            have q69 : z52 = z69 := (sF_I (sI_ne rfl (e52))).trans e69.symm
            subst q69
            refine g_callv (X := _) (As := [.int z52]) (r := []) (b := A 46) (q := 46) 73 (gd rfl) rfl rfl rfl rfl rfl (ww_o rfl) (Nat.le_of_ble_eq_true rfl) (Nat.zero_le _) (Nat.zero_le _) (k_178_46 (by omega) hI60x29 (in_w (-1000000) 1000000 i54 rfl)) (fun e u h => h) (fun v u h => ?_)
            obtain ⟨s70, hI70, hF70, rfl, rfl⟩ := h
            show GG _ _ _ _ _ _ _ _ [] _ _ _
            refine g_aload_n 74 (gd rfl) rfl rfl ?_
            refine g_aload_n 75 (gd rfl) rfl rfl ?_
            refine g_getA (q2 := 5) 78 (gd rfl) rfl rfl rfl rfl ?_
            refine g_iload_n 79 (gd rfl) rfl rfl ?_
            refine g_iaload 80 (gd rfl) rfl (n := 160) rfl (in_ix i44 rfl) (fun z79 e79 => ?_)
            have i79 := inv_I hI70 (n := 160) (t := 0) 0 31 rfl (in_ix i44 rfl) rfl e79
            refine g_callv (X := _) (As := [.int z79]) (r := []) (b := A 46) (q := 46) 83 (gd rfl) rfl rfl rfl rfl rfl (ww_o rfl) (Nat.le_of_ble_eq_true rfl) (Nat.zero_le _) (Nat.zero_le _) (k_178_46 (by omega) hI70 (in_w (-1000000) 1000000 i79 rfl)) (fun e u h => h) (fun v u h => ?_)
            obtain ⟨s80, hI80, hF80, rfl, rfl⟩ := h
            show GG _ _ _ _ _ _ _ _ [] _ _ _
            refine g_aload_n 84 (gd rfl) rfl rfl ?_
            refine g_aload_n 85 (gd rfl) rfl rfl ?_
            refine g_getA (q2 := 6) 88 (gd rfl) rfl rfl rfl rfl ?_
            refine g_iload_n 89 (gd rfl) rfl rfl ?_
            refine g_iaload 90 (gd rfl) rfl (n := 160) rfl (in_ix i44 rfl) (fun z89 e89 => ?_)
            have i89 := inv_I hI80 (n := 160) (t := 0) (-1000000) 1000000 rfl (in_ix i44 rfl) rfl e89
            refine g_callv (X := _) (As := [.int z89]) (r := []) (b := A 46) (q := 46) 93 (gd rfl) rfl rfl rfl rfl rfl (ww_o rfl) (Nat.le_of_ble_eq_true rfl) (Nat.zero_le _) (Nat.zero_le _) (k_178_46 (by omega) hI80 (in_w (-1000000) 1000000 i89 rfl)) (fun e u h => h) (fun v u h => ?_)
            obtain ⟨s90, hI90, hF90, rfl, rfl⟩ := h
            show GG _ _ _ _ _ _ _ _ [] _ _ _
            refine g_aload_n 94 (gd rfl) rfl rfl ?_
            refine g_aload_n 95 (gd rfl) rfl rfl ?_
            refine g_getA (q2 := 7) 98 (gd rfl) rfl rfl rfl rfl ?_
            refine g_iload_n 99 (gd rfl) rfl rfl ?_
            refine g_iaload 100 (gd rfl) rfl (n := 160) rfl (in_ix i44 rfl) (fun z99 e99 => ?_)
            have i99 := inv_I hI90 (n := 160) (t := 0) 0 1000000 rfl (in_ix i44 rfl) rfl e99
            refine g_callv (X := _) (As := [.int z99]) (r := []) (b := A 46) (q := 46) 103 (gd rfl) rfl rfl rfl rfl rfl (ww_o rfl) (Nat.le_of_ble_eq_true rfl) (Nat.zero_le _) (Nat.zero_le _) (k_178_46 (by omega) hI90 (in_w (-1000000) 1000000 i99 rfl)) (fun e u h => h) (fun v u h => ?_)
            obtain ⟨s100, hI100, hF100, rfl, rfl⟩ := h
            show GG _ _ _ _ _ _ _ _ [] _ _ _
            refine g_aload_n 104 (gd rfl) rfl rfl ?_
            refine g_aload_n 105 (gd rfl) rfl rfl ?_
            refine g_getA (q2 := 8) 108 (gd rfl) rfl rfl rfl rfl ?_
            refine g_iload_n 109 (gd rfl) rfl rfl ?_
            refine g_iaload 110 (gd rfl) rfl (n := 160) rfl (in_ix i44 rfl) (fun z109 e109 => ?_)
            have i109 := inv_I hI100 (n := 160) (t := 0) 0 25 rfl (in_ix i44 rfl) rfl e109
            refine g_callv (X := _) (As := [.int z109]) (r := []) (b := A 46) (q := 46) 113 (gd rfl) rfl rfl rfl rfl rfl (ww_o rfl) (Nat.le_of_ble_eq_true rfl) (mc := 0) (ms := 0) (Nat.zero_le _) (Nat.zero_le _) (P := fun v u => _) ?_ (fun e u h => h) (fun v u h => h)
            intro po110 xx110 hp110 hx110
            refine g_enter2 (k := 176) (N := 300) (by omega) rfl (Nat.le_of_ble_eq_true rfl) ?_
            refine g_aload_n 1 (gd rfl) rfl rfl ?_
            refine g_bipush 32 3 (gd rfl) rfl rfl ?_
            refine g_callv (X := _) (As := [.int (Int32.ofInt 32)]) (r := []) (b := A 46) (q := 46) 6 (gd rfl) rfl rfl rfl rfl rfl (ww_o rfl) (Nat.le_of_ble_eq_true rfl) (mc := 0) (ms := 0) (Nat.zero_le _) (Nat.zero_le _) (P := fun v u => _) ?_ (fun e u h => h) (fun v u h => h)
            intro po110x3 xx110x3 hp110x3 hx110x3
            refine g_enter2 (k := 177) (N := 300) (by omega) rfl (Nat.le_of_ble_eq_true rfl) ?_
            refine g_aload_n 1 (gd rfl) rfl rfl ?_
            refine g_getI 4 (gd rfl) rfl rfl rfl (fun z110x3x1 e110x3x1 => ?_)
            have i110x3x1 := inv_F hI100 0 4608 rfl e110x3x1
            refine g_aload_n 5 (gd rfl) rfl rfl ?_
            refine g_getA (q2 := 48) 8 (gd rfl) rfl rfl rfl rfl ?_
            refine g_alen (n := 4608) (t := 2) 4608 9 (gd rfl) rfl rfl (Nat.le_of_ble_eq_true rfl) rfl ?_
            refine g_cmp_ge 12 32 (gd rfl) rfl rfl (fun c110x3x9 => ?_) (fun c110x3x9 => ?_)
            · skip
              have i110x3x9 := r_le2 4608 4608 c110x3x9 (in_c 4608 rfl) i110x3x1 rfl
              refine g_return (gd rfl) rfl (hp110x3 _ _ ?_)
              show GG _ _ _ _ _ _ _ _ [] _ _ _
              refine g_aload_n 7 (gd rfl) rfl rfl ?_
              refine g_bipush 97 9 (gd rfl) rfl rfl ?_
              refine g_iload_n 10 (gd rfl) rfl rfl ?_
              refine g_iadd 11 (gd rfl) rfl (fun z110x10 e110x10 => ?_)
              have i110x10 := in_add 97 122 e110x10 (in_c 97 rfl) i109 rfl rfl
              refine g_i2c 12 (gd rfl) rfl (fun z110x11 e110x11 => ?_)
              have i110x11 := in_i2c e110x11
              refine g_callv (X := _) (As := [.int z110x11]) (r := []) (b := A 46) (q := 46) 15 (gd rfl) rfl rfl rfl rfl rfl (ww_o rfl) (Nat.le_of_ble_eq_true rfl) (mc := 0) (ms := 0) (Nat.zero_le _) (Nat.zero_le _) (P := fun v u => _) ?_ (fun e u h => h) (fun v u h => h)
              intro po110x12 xx110x12 hp110x12 hx110x12
              refine g_enter2 (k := 177) (N := 300) (by omega) rfl (Nat.le_of_ble_eq_true rfl) ?_
              refine g_aload_n 1 (gd rfl) rfl rfl ?_
              refine g_getI 4 (gd rfl) rfl rfl rfl (fun z110x12x1 e110x12x1 => ?_)
              have q110x12x1 : z110x3x1 = z110x12x1 := (e110x3x1).trans e110x12x1.symm
              subst q110x12x1
              refine g_aload_n 5 (gd rfl) rfl rfl ?_
              refine g_getA (q2 := 48) 8 (gd rfl) rfl rfl rfl rfl ?_
              refine g_alen (n := 4608) (t := 2) 4608 9 (gd rfl) rfl rfl (Nat.le_of_ble_eq_true rfl) rfl ?_
              refine g_cmp_ge 12 32 (gd rfl) rfl rfl (fun c110x12x9 => ?_) (fun c110x12x9 => ?_)
              · skip
                refine g_return (gd rfl) rfl (hp110x12 _ _ ?_)
                show GG _ _ _ _ _ _ _ _ [] _ _ _
                refine g_aload_n 16 (gd rfl) rfl rfl ?_
                refine g_bipush 59 18 (gd rfl) rfl rfl ?_
                refine g_callv (X := _) (As := [.int (Int32.ofInt 59)]) (r := []) (b := A 46) (q := 46) 21 (gd rfl) rfl rfl rfl rfl rfl (ww_o rfl) (Nat.le_of_ble_eq_true rfl) (mc := 0) (ms := 0) (Nat.zero_le _) (Nat.zero_le _) (P := fun v u => _) ?_ (fun e u h => h) (fun v u h => h)
                intro po110x18 xx110x18 hp110x18 hx110x18
                refine g_enter2 (k := 177) (N := 300) (by omega) rfl (Nat.le_of_ble_eq_true rfl) ?_
                refine g_aload_n 1 (gd rfl) rfl rfl ?_
                refine g_getI 4 (gd rfl) rfl rfl rfl (fun z110x18x1 e110x18x1 => ?_)
                have q110x18x1 : z110x3x1 = z110x18x1 := (e110x3x1).trans e110x18x1.symm
                subst q110x18x1
                refine g_aload_n 5 (gd rfl) rfl rfl ?_
                refine g_getA (q2 := 48) 8 (gd rfl) rfl rfl rfl rfl ?_
                refine g_alen (n := 4608) (t := 2) 4608 9 (gd rfl) rfl rfl (Nat.le_of_ble_eq_true rfl) rfl ?_
                refine g_cmp_ge 12 32 (gd rfl) rfl rfl (fun c110x18x9 => ?_) (fun c110x18x9 => ?_)
                · skip
                  refine g_return (gd rfl) rfl (hp110x18 _ _ ?_)
                  show GG _ _ _ _ _ _ _ _ [] _ _ _
                  refine g_return (gd rfl) rfl (hp110 _ _ ?_)
                  show GG _ _ _ _ _ _ _ _ [] _ _ _
                  exact gg_w (by omega) (gg_f (gf_cons rfl (gf_cons rfl (gf_cons rfl gf_nil))) (ct113 s100  hI100 (fr_tr rfl (fr_tr rfl (fr_tr rfl (fr_tr rfl (fr_sF rfl (fr_sI rfl hFc39)) hF70) hF80) hF90) hF100) (in_w 0 159 i44 rfl)))
                · skip
                  exact n_lt c110x18x9 i110x3x9 (in_c 4608 rfl) rfl
              · skip
                exact n_lt c110x12x9 i110x3x9 (in_c 4608 rfl) rfl
            · skip
              have i110x3x9 := r_lt1 0 4607 c110x3x9 i110x3x1 (in_c 4608 rfl) rfl
              refine g_aload_n 13 (gd rfl) rfl rfl ?_
              refine g_getA (q2 := 48) 16 (gd rfl) rfl rfl rfl rfl ?_
              refine g_aload_n 17 (gd rfl) rfl rfl ?_
              refine g_getI 20 (gd rfl) rfl rfl rfl (fun z110x3x17 e110x3x17 => ?_)
              have q110x3x17 : z110x3x1 = z110x3x17 := (e110x3x1).trans e110x3x17.symm
              subst q110x3x17
              refine g_iload_n 21 (gd rfl) rfl rfl ?_
              refine g_castore 22 (gd rfl) rfl (n := 4608) rfl (in_ix i110x3x9 rfl) ?_
              have hI110x3x21 := inv_sI (q := 48) (j := z110x3x1.toNatClampNeg) hI100 rfl (in_w 0 65535 (nar_c (Int32.ofInt 32)) rfl)
              refine g_aload_n 23 (gd rfl) rfl rfl ?_
              refine g_dup 24 (gd rfl) rfl rfl ?_
              refine g_getI 27 (gd rfl) rfl rfl rfl (fun z110x3x24 e110x3x24 => ?_)
              have q110x3x24 : z110x3x1 = z110x3x24 := (sI_F (e110x3x1)).trans e110x3x24.symm
              subst q110x3x24
              refine g_iconst 1 28 (gd rfl) rfl rfl ?_
              refine g_iadd 29 (gd rfl) rfl (fun z110x3x28 e110x3x28 => ?_)
              have i110x3x28 := in_add 1 4608 e110x3x28 i110x3x9 (in_c 1 rfl) rfl rfl
              refine g_putI 32 (gd rfl) rfl rfl rfl rfl ?_
              have hI110x3x29 := inv_sF (q := 46) (j := 9) hI110x3x21 rfl (in_w 0 4608 i110x3x28 rfl)
              refine g_return (gd rfl) rfl (hp110x3 _ _ ?_)
              show GG _ _ _ _ _ _ _ _ [] _ _ _
              refine g_aload_n 7 (gd rfl) rfl rfl ?_
              refine g_bipush 97 9 (gd rfl) rfl rfl ?_
              refine g_iload_n 10 (gd rfl) rfl rfl ?_
              refine g_iadd 11 (gd rfl) rfl (fun z110x10 e110x10 => ?_)
              have i110x10 := in_add 97 122 e110x10 (in_c 97 rfl) i109 rfl rfl
              refine g_i2c 12 (gd rfl) rfl (fun z110x11 e110x11 => ?_)
              have i110x11 := in_i2c e110x11
              refine g_callv (X := _) (As := [.int z110x11]) (r := []) (b := A 46) (q := 46) 15 (gd rfl) rfl rfl rfl rfl rfl (ww_o rfl) (Nat.le_of_ble_eq_true rfl) (mc := 0) (ms := 0) (Nat.zero_le _) (Nat.zero_le _) (P := fun v u => _) ?_ (fun e u h => h) (fun v u h => h)
              intro po110x12 xx110x12 hp110x12 hx110x12
              refine g_enter2 (k := 177) (N := 300) (by omega) rfl (Nat.le_of_ble_eq_true rfl) ?_
              refine g_aload_n 1 (gd rfl) rfl rfl ?_
              refine g_getI 4 (gd rfl) rfl rfl rfl (fun z110x12x1 e110x12x1 => ?_)
              have q110x12x1 : z110x3x28 = z110x12x1 := (sF_get).trans e110x12x1.symm
              subst q110x12x1
              refine g_aload_n 5 (gd rfl) rfl rfl ?_
              refine g_getA (q2 := 48) 8 (gd rfl) rfl rfl rfl rfl ?_
              refine g_alen (n := 4608) (t := 2) 4608 9 (gd rfl) rfl rfl (Nat.le_of_ble_eq_true rfl) rfl ?_
              refine g_cmp_ge 12 32 (gd rfl) rfl rfl (fun c110x12x9 => ?_) (fun c110x12x9 => ?_)
              · skip
                have i110x12x9 := r_le2 4608 4608 c110x12x9 (in_c 4608 rfl) i110x3x28 rfl
                refine g_return (gd rfl) rfl (hp110x12 _ _ ?_)
                show GG _ _ _ _ _ _ _ _ [] _ _ _
                refine g_aload_n 16 (gd rfl) rfl rfl ?_
                refine g_bipush 59 18 (gd rfl) rfl rfl ?_
                refine g_callv (X := _) (As := [.int (Int32.ofInt 59)]) (r := []) (b := A 46) (q := 46) 21 (gd rfl) rfl rfl rfl rfl rfl (ww_o rfl) (Nat.le_of_ble_eq_true rfl) (mc := 0) (ms := 0) (Nat.zero_le _) (Nat.zero_le _) (P := fun v u => _) ?_ (fun e u h => h) (fun v u h => h)
                intro po110x18 xx110x18 hp110x18 hx110x18
                refine g_enter2 (k := 177) (N := 300) (by omega) rfl (Nat.le_of_ble_eq_true rfl) ?_
                refine g_aload_n 1 (gd rfl) rfl rfl ?_
                refine g_getI 4 (gd rfl) rfl rfl rfl (fun z110x18x1 e110x18x1 => ?_)
                have q110x18x1 : z110x3x28 = z110x18x1 := (sF_get).trans e110x18x1.symm
                subst q110x18x1
                refine g_aload_n 5 (gd rfl) rfl rfl ?_
                refine g_getA (q2 := 48) 8 (gd rfl) rfl rfl rfl rfl ?_
                refine g_alen (n := 4608) (t := 2) 4608 9 (gd rfl) rfl rfl (Nat.le_of_ble_eq_true rfl) rfl ?_
                refine g_cmp_ge 12 32 (gd rfl) rfl rfl (fun c110x18x9 => ?_) (fun c110x18x9 => ?_)
                · skip
                  refine g_return (gd rfl) rfl (hp110x18 _ _ ?_)
                  show GG _ _ _ _ _ _ _ _ [] _ _ _
                  refine g_return (gd rfl) rfl (hp110 _ _ ?_)
                  show GG _ _ _ _ _ _ _ _ [] _ _ _
                  exact gg_w (by omega) (gg_f (gf_cons rfl (gf_cons rfl (gf_cons rfl gf_nil))) (ct113 (sF (sI s100 48 z110x3x1.toNatClampNeg (vp_nar .char (Int32.ofInt 32))) 46 9 z110x3x28)  hI110x3x29 (fr_sF rfl (fr_sI rfl (fr_tr rfl (fr_tr rfl (fr_tr rfl (fr_tr rfl (fr_sF rfl (fr_sI rfl hFc39)) hF70) hF80) hF90) hF100))) (in_w 0 159 i44 rfl)))
                · skip
                  exact n_lt c110x18x9 i110x12x9 (in_c 4608 rfl) rfl
              · skip
                have i110x12x9 := r_lt1 1 4607 c110x12x9 i110x3x28 (in_c 4608 rfl) rfl
                refine g_aload_n 13 (gd rfl) rfl rfl ?_
                refine g_getA (q2 := 48) 16 (gd rfl) rfl rfl rfl rfl ?_
                refine g_aload_n 17 (gd rfl) rfl rfl ?_
                refine g_getI 20 (gd rfl) rfl rfl rfl (fun z110x12x17 e110x12x17 => ?_)
                have q110x12x17 : z110x3x28 = z110x12x17 := (sF_get).trans e110x12x17.symm
                subst q110x12x17
                refine g_iload_n 21 (gd rfl) rfl rfl ?_
                refine g_castore 22 (gd rfl) rfl (n := 4608) rfl (in_ix i110x12x9 rfl) ?_
                have hI110x12x21 := inv_sI (q := 48) (j := z110x3x28.toNatClampNeg) hI110x3x29 rfl (in_w 0 65535 (nar_c z110x11) rfl)
                refine g_aload_n 23 (gd rfl) rfl rfl ?_
                refine g_dup 24 (gd rfl) rfl rfl ?_
                refine g_getI 27 (gd rfl) rfl rfl rfl (fun z110x12x24 e110x12x24 => ?_)
                have q110x12x24 : z110x3x28 = z110x12x24 := (sI_F (sF_get)).trans e110x12x24.symm
                subst q110x12x24
                refine g_iconst 1 28 (gd rfl) rfl rfl ?_
                refine g_iadd 29 (gd rfl) rfl (fun z110x12x28 e110x12x28 => ?_)
                have i110x12x28 := in_add 2 4608 e110x12x28 i110x12x9 (in_c 1 rfl) rfl rfl
                refine g_putI 32 (gd rfl) rfl rfl rfl rfl ?_
                have hI110x12x29 := inv_sF (q := 46) (j := 9) hI110x12x21 rfl (in_w 0 4608 i110x12x28 rfl)
                refine g_return (gd rfl) rfl (hp110x12 _ _ ?_)
                show GG _ _ _ _ _ _ _ _ [] _ _ _
                refine g_aload_n 16 (gd rfl) rfl rfl ?_
                refine g_bipush 59 18 (gd rfl) rfl rfl ?_
                refine g_callv (X := _) (As := [.int (Int32.ofInt 59)]) (r := []) (b := A 46) (q := 46) 21 (gd rfl) rfl rfl rfl rfl rfl (ww_o rfl) (Nat.le_of_ble_eq_true rfl) (mc := 0) (ms := 0) (Nat.zero_le _) (Nat.zero_le _) (P := fun v u => _) ?_ (fun e u h => h) (fun v u h => h)
                intro po110x18 xx110x18 hp110x18 hx110x18
                refine g_enter2 (k := 177) (N := 300) (by omega) rfl (Nat.le_of_ble_eq_true rfl) ?_
                refine g_aload_n 1 (gd rfl) rfl rfl ?_
                refine g_getI 4 (gd rfl) rfl rfl rfl (fun z110x18x1 e110x18x1 => ?_)
                have q110x18x1 : z110x12x28 = z110x18x1 := (sF_get).trans e110x18x1.symm
                subst q110x18x1
                refine g_aload_n 5 (gd rfl) rfl rfl ?_
                refine g_getA (q2 := 48) 8 (gd rfl) rfl rfl rfl rfl ?_
                refine g_alen (n := 4608) (t := 2) 4608 9 (gd rfl) rfl rfl (Nat.le_of_ble_eq_true rfl) rfl ?_
                refine g_cmp_ge 12 32 (gd rfl) rfl rfl (fun c110x18x9 => ?_) (fun c110x18x9 => ?_)
                · skip
                  have i110x18x9 := r_le2 4608 4608 c110x18x9 (in_c 4608 rfl) i110x12x28 rfl
                  refine g_return (gd rfl) rfl (hp110x18 _ _ ?_)
                  show GG _ _ _ _ _ _ _ _ [] _ _ _
                  refine g_return (gd rfl) rfl (hp110 _ _ ?_)
                  show GG _ _ _ _ _ _ _ _ [] _ _ _
                  exact gg_w (by omega) (gg_f (gf_cons rfl (gf_cons rfl (gf_cons rfl gf_nil))) (ct113 (sF (sI (sF (sI s100 48 z110x3x1.toNatClampNeg (vp_nar .char (Int32.ofInt 32))) 46 9 z110x3x28) 48 z110x3x28.toNatClampNeg (vp_nar .char z110x11)) 46 9 z110x12x28)  hI110x12x29 (fr_sF rfl (fr_sI rfl (fr_sF rfl (fr_sI rfl (fr_tr rfl (fr_tr rfl (fr_tr rfl (fr_tr rfl (fr_sF rfl (fr_sI rfl hFc39)) hF70) hF80) hF90) hF100))))) (in_w 0 159 i44 rfl)))
                · skip
                  have i110x18x9 := r_lt1 2 4607 c110x18x9 i110x12x28 (in_c 4608 rfl) rfl
                  refine g_aload_n 13 (gd rfl) rfl rfl ?_
                  refine g_getA (q2 := 48) 16 (gd rfl) rfl rfl rfl rfl ?_
                  refine g_aload_n 17 (gd rfl) rfl rfl ?_
                  refine g_getI 20 (gd rfl) rfl rfl rfl (fun z110x18x17 e110x18x17 => ?_)
                  have q110x18x17 : z110x12x28 = z110x18x17 := (sF_get).trans e110x18x17.symm
                  subst q110x18x17
                  refine g_iload_n 21 (gd rfl) rfl rfl ?_
                  refine g_castore 22 (gd rfl) rfl (n := 4608) rfl (in_ix i110x18x9 rfl) ?_
                  have hI110x18x21 := inv_sI (q := 48) (j := z110x12x28.toNatClampNeg) hI110x12x29 rfl (in_w 0 65535 (nar_c (Int32.ofInt 59)) rfl)
                  refine g_aload_n 23 (gd rfl) rfl rfl ?_
                  refine g_dup 24 (gd rfl) rfl rfl ?_
                  refine g_getI 27 (gd rfl) rfl rfl rfl (fun z110x18x24 e110x18x24 => ?_)
                  have q110x18x24 : z110x12x28 = z110x18x24 := (sI_F (sF_get)).trans e110x18x24.symm
                  subst q110x18x24
                  refine g_iconst 1 28 (gd rfl) rfl rfl ?_
                  refine g_iadd 29 (gd rfl) rfl (fun z110x18x28 e110x18x28 => ?_)
                  have i110x18x28 := in_add 3 4608 e110x18x28 i110x18x9 (in_c 1 rfl) rfl rfl
                  refine g_putI 32 (gd rfl) rfl rfl rfl rfl ?_
                  have hI110x18x29 := inv_sF (q := 46) (j := 9) hI110x18x21 rfl (in_w 0 4608 i110x18x28 rfl)
                  refine g_return (gd rfl) rfl (hp110x18 _ _ ?_)
                  show GG _ _ _ _ _ _ _ _ [] _ _ _
                  refine g_return (gd rfl) rfl (hp110 _ _ ?_)
                  show GG _ _ _ _ _ _ _ _ [] _ _ _
                  exact gg_w (by omega) (gg_f (gf_cons rfl (gf_cons rfl (gf_cons rfl gf_nil))) (ct113 (sF (sI (sF (sI (sF (sI s100 48 z110x3x1.toNatClampNeg (vp_nar .char (Int32.ofInt 32))) 46 9 z110x3x28) 48 z110x3x28.toNatClampNeg (vp_nar .char z110x11)) 46 9 z110x12x28) 48 z110x12x28.toNatClampNeg (vp_nar .char (Int32.ofInt 59))) 46 9 z110x18x28)  hI110x18x29 (fr_sF rfl (fr_sI rfl (fr_sF rfl (fr_sI rfl (fr_sF rfl (fr_sI rfl (fr_tr rfl (fr_tr rfl (fr_tr rfl (fr_tr rfl (fr_sF rfl (fr_sI rfl hFc39)) hF70) hF80) hF90) hF100))))))) (in_w 0 159 i44 rfl)))
  have ct7 : ∀ (k7 : Nat) (sc7 : GS) (y7_2 : Int32), Inv sc7 → Fr fm_175_46_2 s sc7 → (In y7_2 0 32) → 32 - (y7_2).toInt < (k7 : Int) → GG Z (d - 1) 175 post (gx xp) (289963 + k7 * 900) 7 (fun j => xlook j [(0, .ref (A 46)), (1, .ref (A 2)), (2, .int y7_2)]) [] (WW Z A sc7 ++ ex) 0 0 := by
    intro k7
    induction k7 with
    | zero => intro sc7 y7_2 hIc7 hFc7 j7_2 mm7; exact m_no mm7 j7_2 rfl
    | succ k7 ih7 =>
      intro sc7 y7_2 hIc7 hFc7 j7_2 mm7
      refine gg_w (M := 289963 + k7 * 900 + 900) (by omega) ?_
      refine g_iload_n 8 (gd rfl) rfl rfl ?_
      refine g_aload_n 9 (gd rfl) rfl rfl ?_
      refine g_getI 12 (gd rfl) rfl rfl rfl (fun z9 e9 => ?_)
      have q9 : u_2_1 = z9 := (fr_F e_2_1 hFc7 rfl).trans e9.symm
      subst q9
      refine g_cmp_ge 15 37 (gd rfl) rfl rfl (fun c12 => ?_) (fun c12 => ?_)
      · skip
        refine g_iconst 0 38 (gd rfl) rfl rfl ?_
        refine g_istore_n 39 (gd rfl) rfl (Nat.le_of_ble_eq_true rfl) ?_
        exact gg_w (by omega) (gg_f (gf_cons rfl (gf_cons rfl (gf_cons rfl gf_nil))) (ct39 161 sc7 (Int32.ofInt 0) hIc7 hFc7 (in_w 0 160 (in_c 0 rfl) rfl) (m_in 161 (in_w 0 160 (in_c 0 rfl) rfl) rfl)))
      · skip
        have i12 := r_lt1 0 31 c12 j7_2 ro_2_1 rfl
        have i12a := r_lt2 1 32 c12 j7_2 ro_2_1 rfl
        refine g_aload_n 16 (gd rfl) rfl rfl ?_
        refine g_bipush 110 18 (gd rfl) rfl rfl ?_
        refine g_callv (X := _) (As := [.int (Int32.ofInt 110)]) (r := []) (b := A 46) (q := 46) 21 (gd rfl) rfl rfl rfl rfl rfl (ww_o rfl) (Nat.le_of_ble_eq_true rfl) (mc := 0) (ms := 0) (Nat.zero_le _) (Nat.zero_le _) (P := fun v u => _) ?_ (fun e u h => h) (fun v u h => h)
        intro po18 xx18 hp18 hx18
        refine g_enter2 (k := 177) (N := 300) (by omega) rfl (Nat.le_of_ble_eq_true rfl) ?_
        refine g_aload_n 1 (gd rfl) rfl rfl ?_
        refine g_getI 4 (gd rfl) rfl rfl rfl (fun z18x1 e18x1 => ?_)
        have i18x1 := inv_F hIc7 0 4608 rfl e18x1
        refine g_aload_n 5 (gd rfl) rfl rfl ?_
        refine g_getA (q2 := 48) 8 (gd rfl) rfl rfl rfl rfl ?_
        refine g_alen (n := 4608) (t := 2) 4608 9 (gd rfl) rfl rfl (Nat.le_of_ble_eq_true rfl) rfl ?_
        refine g_cmp_ge 12 32 (gd rfl) rfl rfl (fun c18x9 => ?_) (fun c18x9 => ?_)
        · skip
          have i18x9 := r_le2 4608 4608 c18x9 (in_c 4608 rfl) i18x1 rfl
          refine g_return (gd rfl) rfl (hp18 _ _ ?_)
          show GG _ _ _ _ _ _ _ _ [] _ _ _
          refine g_aload_n 22 (gd rfl) rfl rfl ?_
          refine g_aload_n 23 (gd rfl) rfl rfl ?_
          refine g_getA (q2 := 3) 26 (gd rfl) rfl rfl rfl rfl ?_
          refine g_iload_n 27 (gd rfl) rfl rfl ?_
          refine g_iaload 28 (gd rfl) rfl (n := 32) rfl (in_ix i12 rfl) (fun z27 e27 => ?_)
          have i27 := inv_I hIc7 (n := 32) (t := 0) 0 25 rfl (in_ix i12 rfl) rfl e27
          refine g_callv (X := _) (As := [.int z27]) (r := []) (b := A 46) (q := 46) 31 (gd rfl) rfl rfl rfl rfl rfl (ww_o rfl) (Nat.le_of_ble_eq_true rfl) (mc := 0) (ms := 0) (Nat.zero_le _) (Nat.zero_le _) (P := fun v u => _) ?_ (fun e u h => h) (fun v u h => h)
          intro po28 xx28 hp28 hx28
          refine g_enter2 (k := 176) (N := 300) (by omega) rfl (Nat.le_of_ble_eq_true rfl) ?_
          refine g_aload_n 1 (gd rfl) rfl rfl ?_
          refine g_bipush 32 3 (gd rfl) rfl rfl ?_
          refine g_callv (X := _) (As := [.int (Int32.ofInt 32)]) (r := []) (b := A 46) (q := 46) 6 (gd rfl) rfl rfl rfl rfl rfl (ww_o rfl) (Nat.le_of_ble_eq_true rfl) (mc := 0) (ms := 0) (Nat.zero_le _) (Nat.zero_le _) (P := fun v u => _) ?_ (fun e u h => h) (fun v u h => h)
          intro po28x3 xx28x3 hp28x3 hx28x3
          refine g_enter2 (k := 177) (N := 300) (by omega) rfl (Nat.le_of_ble_eq_true rfl) ?_
          refine g_aload_n 1 (gd rfl) rfl rfl ?_
          refine g_getI 4 (gd rfl) rfl rfl rfl (fun z28x3x1 e28x3x1 => ?_)
          have q28x3x1 : z18x1 = z28x3x1 := (e18x1).trans e28x3x1.symm
          subst q28x3x1
          refine g_aload_n 5 (gd rfl) rfl rfl ?_
          refine g_getA (q2 := 48) 8 (gd rfl) rfl rfl rfl rfl ?_
          refine g_alen (n := 4608) (t := 2) 4608 9 (gd rfl) rfl rfl (Nat.le_of_ble_eq_true rfl) rfl ?_
          refine g_cmp_ge 12 32 (gd rfl) rfl rfl (fun c28x3x9 => ?_) (fun c28x3x9 => ?_)
          · skip
            refine g_return (gd rfl) rfl (hp28x3 _ _ ?_)
            show GG _ _ _ _ _ _ _ _ [] _ _ _
            refine g_aload_n 7 (gd rfl) rfl rfl ?_
            refine g_bipush 97 9 (gd rfl) rfl rfl ?_
            refine g_iload_n 10 (gd rfl) rfl rfl ?_
            refine g_iadd 11 (gd rfl) rfl (fun z28x10 e28x10 => ?_)
            have i28x10 := in_add 97 122 e28x10 (in_c 97 rfl) i27 rfl rfl
            refine g_i2c 12 (gd rfl) rfl (fun z28x11 e28x11 => ?_)
            have i28x11 := in_i2c e28x11
            refine g_callv (X := _) (As := [.int z28x11]) (r := []) (b := A 46) (q := 46) 15 (gd rfl) rfl rfl rfl rfl rfl (ww_o rfl) (Nat.le_of_ble_eq_true rfl) (mc := 0) (ms := 0) (Nat.zero_le _) (Nat.zero_le _) (P := fun v u => _) ?_ (fun e u h => h) (fun v u h => h)
            intro po28x12 xx28x12 hp28x12 hx28x12
            refine g_enter2 (k := 177) (N := 300) (by omega) rfl (Nat.le_of_ble_eq_true rfl) ?_
            refine g_aload_n 1 (gd rfl) rfl rfl ?_
            refine g_getI 4 (gd rfl) rfl rfl rfl (fun z28x12x1 e28x12x1 => ?_)
            have q28x12x1 : z18x1 = z28x12x1 := (e18x1).trans e28x12x1.symm
            subst q28x12x1
            refine g_aload_n 5 (gd rfl) rfl rfl ?_
            refine g_getA (q2 := 48) 8 (gd rfl) rfl rfl rfl rfl ?_
            refine g_alen (n := 4608) (t := 2) 4608 9 (gd rfl) rfl rfl (Nat.le_of_ble_eq_true rfl) rfl ?_
            refine g_cmp_ge 12 32 (gd rfl) rfl rfl (fun c28x12x9 => ?_) (fun c28x12x9 => ?_)
            · skip
              refine g_return (gd rfl) rfl (hp28x12 _ _ ?_)
              show GG _ _ _ _ _ _ _ _ [] _ _ _
              refine g_aload_n 16 (gd rfl) rfl rfl ?_
              refine g_bipush 59 18 (gd rfl) rfl rfl ?_
              refine g_callv (X := _) (As := [.int (Int32.ofInt 59)]) (r := []) (b := A 46) (q := 46) 21 (gd rfl) rfl rfl rfl rfl rfl (ww_o rfl) (Nat.le_of_ble_eq_true rfl) (mc := 0) (ms := 0) (Nat.zero_le _) (Nat.zero_le _) (P := fun v u => _) ?_ (fun e u h => h) (fun v u h => h)
              intro po28x18 xx28x18 hp28x18 hx28x18
              refine g_enter2 (k := 177) (N := 300) (by omega) rfl (Nat.le_of_ble_eq_true rfl) ?_
              refine g_aload_n 1 (gd rfl) rfl rfl ?_
              refine g_getI 4 (gd rfl) rfl rfl rfl (fun z28x18x1 e28x18x1 => ?_)
              have q28x18x1 : z18x1 = z28x18x1 := (e18x1).trans e28x18x1.symm
              subst q28x18x1
              refine g_aload_n 5 (gd rfl) rfl rfl ?_
              refine g_getA (q2 := 48) 8 (gd rfl) rfl rfl rfl rfl ?_
              refine g_alen (n := 4608) (t := 2) 4608 9 (gd rfl) rfl rfl (Nat.le_of_ble_eq_true rfl) rfl ?_
              refine g_cmp_ge 12 32 (gd rfl) rfl rfl (fun c28x18x9 => ?_) (fun c28x18x9 => ?_)
              · skip
                refine g_return (gd rfl) rfl (hp28x18 _ _ ?_)
                show GG _ _ _ _ _ _ _ _ [] _ _ _
                refine g_return (gd rfl) rfl (hp28 _ _ ?_)
                show GG _ _ _ _ _ _ _ _ [] _ _ _
                refine g_iinc 34 (gd rfl) rfl rfl (Nat.le_of_ble_eq_true rfl) (fun z31 e31 => ?_)
                have i31 := in_add 1 32 e31 i12 (in_c 1 rfl) rfl rfl
                refine g_goto 7 (gd rfl) rfl ?_
                exact gg_w (by omega) (gg_f (gf_cons rfl (gf_cons rfl (gf_cons rfl gf_nil))) (ih7 sc7 z31 hIc7 hFc7 (in_w 0 32 i31 rfl) (m_up mm7 (t_add e31 i12 (in_c 1 rfl) rfl) (in_w 1 1 (in_c 1 rfl) rfl))))
              · skip
                exact n_lt c28x18x9 i18x9 (in_c 4608 rfl) rfl
            · skip
              exact n_lt c28x12x9 i18x9 (in_c 4608 rfl) rfl
          · skip
            exact n_lt c28x3x9 i18x9 (in_c 4608 rfl) rfl
        · skip
          have i18x9 := r_lt1 0 4607 c18x9 i18x1 (in_c 4608 rfl) rfl
          refine g_aload_n 13 (gd rfl) rfl rfl ?_
          refine g_getA (q2 := 48) 16 (gd rfl) rfl rfl rfl rfl ?_
          refine g_aload_n 17 (gd rfl) rfl rfl ?_
          refine g_getI 20 (gd rfl) rfl rfl rfl (fun z18x17 e18x17 => ?_)
          have q18x17 : z18x1 = z18x17 := (e18x1).trans e18x17.symm
          subst q18x17
          refine g_iload_n 21 (gd rfl) rfl rfl ?_
          refine g_castore 22 (gd rfl) rfl (n := 4608) rfl (in_ix i18x9 rfl) ?_
          have hI18x21 := inv_sI (q := 48) (j := z18x1.toNatClampNeg) hIc7 rfl (in_w 0 65535 (nar_c (Int32.ofInt 110)) rfl)
          refine g_aload_n 23 (gd rfl) rfl rfl ?_
          refine g_dup 24 (gd rfl) rfl rfl ?_
          refine g_getI 27 (gd rfl) rfl rfl rfl (fun z18x24 e18x24 => ?_)
          have q18x24 : z18x1 = z18x24 := (sI_F (e18x1)).trans e18x24.symm
          subst q18x24
          refine g_iconst 1 28 (gd rfl) rfl rfl ?_
          refine g_iadd 29 (gd rfl) rfl (fun z18x28 e18x28 => ?_)
          have i18x28 := in_add 1 4608 e18x28 i18x9 (in_c 1 rfl) rfl rfl
          refine g_putI 32 (gd rfl) rfl rfl rfl rfl ?_
          have hI18x29 := inv_sF (q := 46) (j := 9) hI18x21 rfl (in_w 0 4608 i18x28 rfl)
          refine g_return (gd rfl) rfl (hp18 _ _ ?_)
          show GG _ _ _ _ _ _ _ _ [] _ _ _
          refine g_aload_n 22 (gd rfl) rfl rfl ?_
          refine g_aload_n 23 (gd rfl) rfl rfl ?_
          refine g_getA (q2 := 3) 26 (gd rfl) rfl rfl rfl rfl ?_
          refine g_iload_n 27 (gd rfl) rfl rfl ?_
          refine g_iaload 28 (gd rfl) rfl (n := 32) rfl (in_ix i12 rfl) (fun z27 e27 => ?_)
          have i27 := inv_I hI18x29 (n := 32) (t := 0) 0 25 rfl (in_ix i12 rfl) rfl e27
          refine g_callv (X := _) (As := [.int z27]) (r := []) (b := A 46) (q := 46) 31 (gd rfl) rfl rfl rfl rfl rfl (ww_o rfl) (Nat.le_of_ble_eq_true rfl) (mc := 0) (ms := 0) (Nat.zero_le _) (Nat.zero_le _) (P := fun v u => _) ?_ (fun e u h => h) (fun v u h => h)
          intro po28 xx28 hp28 hx28
          refine g_enter2 (k := 176) (N := 300) (by omega) rfl (Nat.le_of_ble_eq_true rfl) ?_
          refine g_aload_n 1 (gd rfl) rfl rfl ?_
          refine g_bipush 32 3 (gd rfl) rfl rfl ?_
          refine g_callv (X := _) (As := [.int (Int32.ofInt 32)]) (r := []) (b := A 46) (q := 46) 6 (gd rfl) rfl rfl rfl rfl rfl (ww_o rfl) (Nat.le_of_ble_eq_true rfl) (mc := 0) (ms := 0) (Nat.zero_le _) (Nat.zero_le _) (P := fun v u => _) ?_ (fun e u h => h) (fun v u h => h)
          intro po28x3 xx28x3 hp28x3 hx28x3
          refine g_enter2 (k := 177) (N := 300) (by omega) rfl (Nat.le_of_ble_eq_true rfl) ?_
          refine g_aload_n 1 (gd rfl) rfl rfl ?_
          refine g_getI 4 (gd rfl) rfl rfl rfl (fun z28x3x1 e28x3x1 => ?_)
          have q28x3x1 : z18x28 = z28x3x1 := (sF_get).trans e28x3x1.symm
          subst q28x3x1
          refine g_aload_n 5 (gd rfl) rfl rfl ?_
          refine g_getA (q2 := 48) 8 (gd rfl) rfl rfl rfl rfl ?_
          refine g_alen (n := 4608) (t := 2) 4608 9 (gd rfl) rfl rfl (Nat.le_of_ble_eq_true rfl) rfl ?_
          refine g_cmp_ge 12 32 (gd rfl) rfl rfl (fun c28x3x9 => ?_) (fun c28x3x9 => ?_)
          · skip
            have i28x3x9 := r_le2 4608 4608 c28x3x9 (in_c 4608 rfl) i18x28 rfl
            refine g_return (gd rfl) rfl (hp28x3 _ _ ?_)
            show GG _ _ _ _ _ _ _ _ [] _ _ _
            refine g_aload_n 7 (gd rfl) rfl rfl ?_
            refine g_bipush 97 9 (gd rfl) rfl rfl ?_
            refine g_iload_n 10 (gd rfl) rfl rfl ?_
            refine g_iadd 11 (gd rfl) rfl (fun z28x10 e28x10 => ?_)
            have i28x10 := in_add 97 122 e28x10 (in_c 97 rfl) i27 rfl rfl
            refine g_i2c 12 (gd rfl) rfl (fun z28x11 e28x11 => ?_)
            have i28x11 := in_i2c e28x11
            refine g_callv (X := _) (As := [.int z28x11]) (r := []) (b := A 46) (q := 46) 15 (gd rfl) rfl rfl rfl rfl rfl (ww_o rfl) (Nat.le_of_ble_eq_true rfl) (mc := 0) (ms := 0) (Nat.zero_le _) (Nat.zero_le _) (P := fun v u => _) ?_ (fun e u h => h) (fun v u h => h)
            intro po28x12 xx28x12 hp28x12 hx28x12
            refine g_enter2 (k := 177) (N := 300) (by omega) rfl (Nat.le_of_ble_eq_true rfl) ?_
            refine g_aload_n 1 (gd rfl) rfl rfl ?_
            refine g_getI 4 (gd rfl) rfl rfl rfl (fun z28x12x1 e28x12x1 => ?_)
            have q28x12x1 : z18x28 = z28x12x1 := (sF_get).trans e28x12x1.symm
            subst q28x12x1
            refine g_aload_n 5 (gd rfl) rfl rfl ?_
            refine g_getA (q2 := 48) 8 (gd rfl) rfl rfl rfl rfl ?_
            refine g_alen (n := 4608) (t := 2) 4608 9 (gd rfl) rfl rfl (Nat.le_of_ble_eq_true rfl) rfl ?_
            refine g_cmp_ge 12 32 (gd rfl) rfl rfl (fun c28x12x9 => ?_) (fun c28x12x9 => ?_)
            · skip
              refine g_return (gd rfl) rfl (hp28x12 _ _ ?_)
              show GG _ _ _ _ _ _ _ _ [] _ _ _
              refine g_aload_n 16 (gd rfl) rfl rfl ?_
              refine g_bipush 59 18 (gd rfl) rfl rfl ?_
              refine g_callv (X := _) (As := [.int (Int32.ofInt 59)]) (r := []) (b := A 46) (q := 46) 21 (gd rfl) rfl rfl rfl rfl rfl (ww_o rfl) (Nat.le_of_ble_eq_true rfl) (mc := 0) (ms := 0) (Nat.zero_le _) (Nat.zero_le _) (P := fun v u => _) ?_ (fun e u h => h) (fun v u h => h)
              intro po28x18 xx28x18 hp28x18 hx28x18
              refine g_enter2 (k := 177) (N := 300) (by omega) rfl (Nat.le_of_ble_eq_true rfl) ?_
              refine g_aload_n 1 (gd rfl) rfl rfl ?_
              refine g_getI 4 (gd rfl) rfl rfl rfl (fun z28x18x1 e28x18x1 => ?_)
              have q28x18x1 : z18x28 = z28x18x1 := (sF_get).trans e28x18x1.symm
              subst q28x18x1
              refine g_aload_n 5 (gd rfl) rfl rfl ?_
              refine g_getA (q2 := 48) 8 (gd rfl) rfl rfl rfl rfl ?_
              refine g_alen (n := 4608) (t := 2) 4608 9 (gd rfl) rfl rfl (Nat.le_of_ble_eq_true rfl) rfl ?_
              refine g_cmp_ge 12 32 (gd rfl) rfl rfl (fun c28x18x9 => ?_) (fun c28x18x9 => ?_)
              · skip
                refine g_return (gd rfl) rfl (hp28x18 _ _ ?_)
                show GG _ _ _ _ _ _ _ _ [] _ _ _
                refine g_return (gd rfl) rfl (hp28 _ _ ?_)
                show GG _ _ _ _ _ _ _ _ [] _ _ _
                refine g_iinc 34 (gd rfl) rfl rfl (Nat.le_of_ble_eq_true rfl) (fun z31 e31 => ?_)
                have i31 := in_add 1 32 e31 i12 (in_c 1 rfl) rfl rfl
                refine g_goto 7 (gd rfl) rfl ?_
                exact gg_w (by omega) (gg_f (gf_cons rfl (gf_cons rfl (gf_cons rfl gf_nil))) (ih7 (sF (sI sc7 48 z18x1.toNatClampNeg (vp_nar .char (Int32.ofInt 110))) 46 9 z18x28) z31 hI18x29 (fr_sF rfl (fr_sI rfl hFc7)) (in_w 0 32 i31 rfl) (m_up mm7 (t_add e31 i12 (in_c 1 rfl) rfl) (in_w 1 1 (in_c 1 rfl) rfl))))
              · skip
                exact n_lt c28x18x9 i28x3x9 (in_c 4608 rfl) rfl
            · skip
              exact n_lt c28x12x9 i28x3x9 (in_c 4608 rfl) rfl
          · skip
            have i28x3x9 := r_lt1 1 4607 c28x3x9 i18x28 (in_c 4608 rfl) rfl
            refine g_aload_n 13 (gd rfl) rfl rfl ?_
            refine g_getA (q2 := 48) 16 (gd rfl) rfl rfl rfl rfl ?_
            refine g_aload_n 17 (gd rfl) rfl rfl ?_
            refine g_getI 20 (gd rfl) rfl rfl rfl (fun z28x3x17 e28x3x17 => ?_)
            have q28x3x17 : z18x28 = z28x3x17 := (sF_get).trans e28x3x17.symm
            subst q28x3x17
            refine g_iload_n 21 (gd rfl) rfl rfl ?_
            refine g_castore 22 (gd rfl) rfl (n := 4608) rfl (in_ix i28x3x9 rfl) ?_
            have hI28x3x21 := inv_sI (q := 48) (j := z18x28.toNatClampNeg) hI18x29 rfl (in_w 0 65535 (nar_c (Int32.ofInt 32)) rfl)
            refine g_aload_n 23 (gd rfl) rfl rfl ?_
            refine g_dup 24 (gd rfl) rfl rfl ?_
            refine g_getI 27 (gd rfl) rfl rfl rfl (fun z28x3x24 e28x3x24 => ?_)
            have q28x3x24 : z18x28 = z28x3x24 := (sI_F (sF_get)).trans e28x3x24.symm
            subst q28x3x24
            refine g_iconst 1 28 (gd rfl) rfl rfl ?_
            refine g_iadd 29 (gd rfl) rfl (fun z28x3x28 e28x3x28 => ?_)
            have i28x3x28 := in_add 2 4608 e28x3x28 i28x3x9 (in_c 1 rfl) rfl rfl
            refine g_putI 32 (gd rfl) rfl rfl rfl rfl ?_
            have hI28x3x29 := inv_sF (q := 46) (j := 9) hI28x3x21 rfl (in_w 0 4608 i28x3x28 rfl)
            refine g_return (gd rfl) rfl (hp28x3 _ _ ?_)
            show GG _ _ _ _ _ _ _ _ [] _ _ _
            refine g_aload_n 7 (gd rfl) rfl rfl ?_
            refine g_bipush 97 9 (gd rfl) rfl rfl ?_
            refine g_iload_n 10 (gd rfl) rfl rfl ?_
            refine g_iadd 11 (gd rfl) rfl (fun z28x10 e28x10 => ?_)
            have i28x10 := in_add 97 122 e28x10 (in_c 97 rfl) i27 rfl rfl
            refine g_i2c 12 (gd rfl) rfl (fun z28x11 e28x11 => ?_)
            have i28x11 := in_i2c e28x11
            refine g_callv (X := _) (As := [.int z28x11]) (r := []) (b := A 46) (q := 46) 15 (gd rfl) rfl rfl rfl rfl rfl (ww_o rfl) (Nat.le_of_ble_eq_true rfl) (mc := 0) (ms := 0) (Nat.zero_le _) (Nat.zero_le _) (P := fun v u => _) ?_ (fun e u h => h) (fun v u h => h)
            intro po28x12 xx28x12 hp28x12 hx28x12
            refine g_enter2 (k := 177) (N := 300) (by omega) rfl (Nat.le_of_ble_eq_true rfl) ?_
            refine g_aload_n 1 (gd rfl) rfl rfl ?_
            refine g_getI 4 (gd rfl) rfl rfl rfl (fun z28x12x1 e28x12x1 => ?_)
            have q28x12x1 : z28x3x28 = z28x12x1 := (sF_get).trans e28x12x1.symm
            subst q28x12x1
            refine g_aload_n 5 (gd rfl) rfl rfl ?_
            refine g_getA (q2 := 48) 8 (gd rfl) rfl rfl rfl rfl ?_
            refine g_alen (n := 4608) (t := 2) 4608 9 (gd rfl) rfl rfl (Nat.le_of_ble_eq_true rfl) rfl ?_
            refine g_cmp_ge 12 32 (gd rfl) rfl rfl (fun c28x12x9 => ?_) (fun c28x12x9 => ?_)
            · skip
              have i28x12x9 := r_le2 4608 4608 c28x12x9 (in_c 4608 rfl) i28x3x28 rfl
              refine g_return (gd rfl) rfl (hp28x12 _ _ ?_)
              show GG _ _ _ _ _ _ _ _ [] _ _ _
              refine g_aload_n 16 (gd rfl) rfl rfl ?_
              refine g_bipush 59 18 (gd rfl) rfl rfl ?_
              refine g_callv (X := _) (As := [.int (Int32.ofInt 59)]) (r := []) (b := A 46) (q := 46) 21 (gd rfl) rfl rfl rfl rfl rfl (ww_o rfl) (Nat.le_of_ble_eq_true rfl) (mc := 0) (ms := 0) (Nat.zero_le _) (Nat.zero_le _) (P := fun v u => _) ?_ (fun e u h => h) (fun v u h => h)
              intro po28x18 xx28x18 hp28x18 hx28x18
              refine g_enter2 (k := 177) (N := 300) (by omega) rfl (Nat.le_of_ble_eq_true rfl) ?_
              refine g_aload_n 1 (gd rfl) rfl rfl ?_
              refine g_getI 4 (gd rfl) rfl rfl rfl (fun z28x18x1 e28x18x1 => ?_)
              have q28x18x1 : z28x3x28 = z28x18x1 := (sF_get).trans e28x18x1.symm
              subst q28x18x1
              refine g_aload_n 5 (gd rfl) rfl rfl ?_
              refine g_getA (q2 := 48) 8 (gd rfl) rfl rfl rfl rfl ?_
              refine g_alen (n := 4608) (t := 2) 4608 9 (gd rfl) rfl rfl (Nat.le_of_ble_eq_true rfl) rfl ?_
              refine g_cmp_ge 12 32 (gd rfl) rfl rfl (fun c28x18x9 => ?_) (fun c28x18x9 => ?_)
              · skip
                refine g_return (gd rfl) rfl (hp28x18 _ _ ?_)
                show GG _ _ _ _ _ _ _ _ [] _ _ _
                refine g_return (gd rfl) rfl (hp28 _ _ ?_)
                show GG _ _ _ _ _ _ _ _ [] _ _ _
                refine g_iinc 34 (gd rfl) rfl rfl (Nat.le_of_ble_eq_true rfl) (fun z31 e31 => ?_)
                have i31 := in_add 1 32 e31 i12 (in_c 1 rfl) rfl rfl
                refine g_goto 7 (gd rfl) rfl ?_
                exact gg_w (by omega) (gg_f (gf_cons rfl (gf_cons rfl (gf_cons rfl gf_nil))) (ih7 (sF (sI (sF (sI sc7 48 z18x1.toNatClampNeg (vp_nar .char (Int32.ofInt 110))) 46 9 z18x28) 48 z18x28.toNatClampNeg (vp_nar .char (Int32.ofInt 32))) 46 9 z28x3x28) z31 hI28x3x29 (fr_sF rfl (fr_sI rfl (fr_sF rfl (fr_sI rfl hFc7)))) (in_w 0 32 i31 rfl) (m_up mm7 (t_add e31 i12 (in_c 1 rfl) rfl) (in_w 1 1 (in_c 1 rfl) rfl))))
              · skip
                exact n_lt c28x18x9 i28x12x9 (in_c 4608 rfl) rfl
            · skip
              have i28x12x9 := r_lt1 2 4607 c28x12x9 i28x3x28 (in_c 4608 rfl) rfl
              refine g_aload_n 13 (gd rfl) rfl rfl ?_
              refine g_getA (q2 := 48) 16 (gd rfl) rfl rfl rfl rfl ?_
              refine g_aload_n 17 (gd rfl) rfl rfl ?_
              refine g_getI 20 (gd rfl) rfl rfl rfl (fun z28x12x17 e28x12x17 => ?_)
              have q28x12x17 : z28x3x28 = z28x12x17 := (sF_get).trans e28x12x17.symm
              subst q28x12x17
              refine g_iload_n 21 (gd rfl) rfl rfl ?_
              refine g_castore 22 (gd rfl) rfl (n := 4608) rfl (in_ix i28x12x9 rfl) ?_
              have hI28x12x21 := inv_sI (q := 48) (j := z28x3x28.toNatClampNeg) hI28x3x29 rfl (in_w 0 65535 (nar_c z28x11) rfl)
              refine g_aload_n 23 (gd rfl) rfl rfl ?_
              refine g_dup 24 (gd rfl) rfl rfl ?_
              refine g_getI 27 (gd rfl) rfl rfl rfl (fun z28x12x24 e28x12x24 => ?_)
              have q28x12x24 : z28x3x28 = z28x12x24 := (sI_F (sF_get)).trans e28x12x24.symm
              subst q28x12x24
              refine g_iconst 1 28 (gd rfl) rfl rfl ?_
              refine g_iadd 29 (gd rfl) rfl (fun z28x12x28 e28x12x28 => ?_)
              have i28x12x28 := in_add 3 4608 e28x12x28 i28x12x9 (in_c 1 rfl) rfl rfl
              refine g_putI 32 (gd rfl) rfl rfl rfl rfl ?_
              have hI28x12x29 := inv_sF (q := 46) (j := 9) hI28x12x21 rfl (in_w 0 4608 i28x12x28 rfl)
              refine g_return (gd rfl) rfl (hp28x12 _ _ ?_)
              show GG _ _ _ _ _ _ _ _ [] _ _ _
              refine g_aload_n 16 (gd rfl) rfl rfl ?_
              refine g_bipush 59 18 (gd rfl) rfl rfl ?_
              refine g_callv (X := _) (As := [.int (Int32.ofInt 59)]) (r := []) (b := A 46) (q := 46) 21 (gd rfl) rfl rfl rfl rfl rfl (ww_o rfl) (Nat.le_of_ble_eq_true rfl) (mc := 0) (ms := 0) (Nat.zero_le _) (Nat.zero_le _) (P := fun v u => _) ?_ (fun e u h => h) (fun v u h => h)
              intro po28x18 xx28x18 hp28x18 hx28x18
              refine g_enter2 (k := 177) (N := 300) (by omega) rfl (Nat.le_of_ble_eq_true rfl) ?_
              refine g_aload_n 1 (gd rfl) rfl rfl ?_
              refine g_getI 4 (gd rfl) rfl rfl rfl (fun z28x18x1 e28x18x1 => ?_)
              have q28x18x1 : z28x12x28 = z28x18x1 := (sF_get).trans e28x18x1.symm
              subst q28x18x1
              refine g_aload_n 5 (gd rfl) rfl rfl ?_
              refine g_getA (q2 := 48) 8 (gd rfl) rfl rfl rfl rfl ?_
              refine g_alen (n := 4608) (t := 2) 4608 9 (gd rfl) rfl rfl (Nat.le_of_ble_eq_true rfl) rfl ?_
              refine g_cmp_ge 12 32 (gd rfl) rfl rfl (fun c28x18x9 => ?_) (fun c28x18x9 => ?_)
              · skip
                have i28x18x9 := r_le2 4608 4608 c28x18x9 (in_c 4608 rfl) i28x12x28 rfl
                refine g_return (gd rfl) rfl (hp28x18 _ _ ?_)
                show GG _ _ _ _ _ _ _ _ [] _ _ _
                refine g_return (gd rfl) rfl (hp28 _ _ ?_)
                show GG _ _ _ _ _ _ _ _ [] _ _ _
                refine g_iinc 34 (gd rfl) rfl rfl (Nat.le_of_ble_eq_true rfl) (fun z31 e31 => ?_)
                have i31 := in_add 1 32 e31 i12 (in_c 1 rfl) rfl rfl
                refine g_goto 7 (gd rfl) rfl ?_
                exact gg_w (by omega) (gg_f (gf_cons rfl (gf_cons rfl (gf_cons rfl gf_nil))) (ih7 (sF (sI (sF (sI (sF (sI sc7 48 z18x1.toNatClampNeg (vp_nar .char (Int32.ofInt 110))) 46 9 z18x28) 48 z18x28.toNatClampNeg (vp_nar .char (Int32.ofInt 32))) 46 9 z28x3x28) 48 z28x3x28.toNatClampNeg (vp_nar .char z28x11)) 46 9 z28x12x28) z31 hI28x12x29 (fr_sF rfl (fr_sI rfl (fr_sF rfl (fr_sI rfl (fr_sF rfl (fr_sI rfl hFc7)))))) (in_w 0 32 i31 rfl) (m_up mm7 (t_add e31 i12 (in_c 1 rfl) rfl) (in_w 1 1 (in_c 1 rfl) rfl))))
              · skip
                have i28x18x9 := r_lt1 3 4607 c28x18x9 i28x12x28 (in_c 4608 rfl) rfl
                refine g_aload_n 13 (gd rfl) rfl rfl ?_
                refine g_getA (q2 := 48) 16 (gd rfl) rfl rfl rfl rfl ?_
                refine g_aload_n 17 (gd rfl) rfl rfl ?_
                refine g_getI 20 (gd rfl) rfl rfl rfl (fun z28x18x17 e28x18x17 => ?_)
                have q28x18x17 : z28x12x28 = z28x18x17 := (sF_get).trans e28x18x17.symm
                subst q28x18x17
                refine g_iload_n 21 (gd rfl) rfl rfl ?_
                refine g_castore 22 (gd rfl) rfl (n := 4608) rfl (in_ix i28x18x9 rfl) ?_
                have hI28x18x21 := inv_sI (q := 48) (j := z28x12x28.toNatClampNeg) hI28x12x29 rfl (in_w 0 65535 (nar_c (Int32.ofInt 59)) rfl)
                refine g_aload_n 23 (gd rfl) rfl rfl ?_
                refine g_dup 24 (gd rfl) rfl rfl ?_
                refine g_getI 27 (gd rfl) rfl rfl rfl (fun z28x18x24 e28x18x24 => ?_)
                have q28x18x24 : z28x12x28 = z28x18x24 := (sI_F (sF_get)).trans e28x18x24.symm
                subst q28x18x24
                refine g_iconst 1 28 (gd rfl) rfl rfl ?_
                refine g_iadd 29 (gd rfl) rfl (fun z28x18x28 e28x18x28 => ?_)
                have i28x18x28 := in_add 4 4608 e28x18x28 i28x18x9 (in_c 1 rfl) rfl rfl
                refine g_putI 32 (gd rfl) rfl rfl rfl rfl ?_
                have hI28x18x29 := inv_sF (q := 46) (j := 9) hI28x18x21 rfl (in_w 0 4608 i28x18x28 rfl)
                refine g_return (gd rfl) rfl (hp28x18 _ _ ?_)
                show GG _ _ _ _ _ _ _ _ [] _ _ _
                refine g_return (gd rfl) rfl (hp28 _ _ ?_)
                show GG _ _ _ _ _ _ _ _ [] _ _ _
                refine g_iinc 34 (gd rfl) rfl rfl (Nat.le_of_ble_eq_true rfl) (fun z31 e31 => ?_)
                have i31 := in_add 1 32 e31 i12 (in_c 1 rfl) rfl rfl
                refine g_goto 7 (gd rfl) rfl ?_
                exact gg_w (by omega) (gg_f (gf_cons rfl (gf_cons rfl (gf_cons rfl gf_nil))) (ih7 (sF (sI (sF (sI (sF (sI (sF (sI sc7 48 z18x1.toNatClampNeg (vp_nar .char (Int32.ofInt 110))) 46 9 z18x28) 48 z18x28.toNatClampNeg (vp_nar .char (Int32.ofInt 32))) 46 9 z28x3x28) 48 z28x3x28.toNatClampNeg (vp_nar .char z28x11)) 46 9 z28x12x28) 48 z28x12x28.toNatClampNeg (vp_nar .char (Int32.ofInt 59))) 46 9 z28x18x28) z31 hI28x18x29 (fr_sF rfl (fr_sI rfl (fr_sF rfl (fr_sI rfl (fr_sF rfl (fr_sI rfl (fr_sF rfl (fr_sI rfl hFc7)))))))) (in_w 0 32 i31 rfl) (m_up mm7 (t_add e31 i12 (in_c 1 rfl) rfl) (in_w 1 1 (in_c 1 rfl) rfl))))
  refine g_enter2 (k := 175) (N := 320563) (by omega) rfl (Nat.le_of_ble_eq_true rfl) ?_
  refine g_aload_n 1 (gd rfl) rfl rfl ?_
  refine g_iconst 0 2 (gd rfl) rfl rfl ?_
  refine g_putI 5 (gd rfl) rfl rfl rfl rfl ?_
  have hI2 := inv_sF (q := 46) (j := 9) hI rfl (in_w 0 4608 (in_c 0 rfl) rfl)
  refine g_iconst 0 6 (gd rfl) rfl rfl ?_
  refine g_istore_n 7 (gd rfl) rfl (Nat.le_of_ble_eq_true rfl) ?_
  exact gg_w (by omega) (gg_f (gf_cons rfl (gf_cons rfl (gf_cons rfl gf_nil))) (ct7 33 (sF s 46 9 (Int32.ofInt 0)) (Int32.ofInt 0) hI2 (fr_sF rfl fr_rf) (in_w 0 32 (in_c 0 rfl) rfl) (m_in 33 (in_w 0 32 (in_c 0 rfl) rfl) rfl)))
