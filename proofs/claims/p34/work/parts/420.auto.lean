/-! methods, by vc.py -/
def fm_158_94_46 : FM := ([97], [95, 96, 98], [], [(94, 0), (94, 1)])
/-- GraphHouse$Question.build -/
theorem k_158_94_46 {Z : AmZ} {A : Nat → Nat} {s : GS} {ex : va_W} {d : Nat} {X : AmX} {u_46_1 : Int32} (hd : 5 ≤ d) (hI : Inv s) (e_46_1 : u_46_1 = s.2.2.1 46 1) (r_46_1 : In u_46_1 0 60) : GC Z d 158 [.ref (A 94), .ref (A 46)] (WW Z A s ++ ex) 0 0 (fun v u => ∃ t : GS, Inv t ∧ Fr fm_158_94_46 s t ∧ v = none ∧ u = WW Z A t ++ ex) X := by
  intro post xp hP hX
  have ct42 : ∀ (k42 : Nat) (sc42 : GS) (y42_2 : Int32) (y42_3 : Int32), Inv sc42 → Fr fm_158_94_46 s sc42 → (In y42_2 0 10) → (In y42_3 0 60) → 60 - (y42_3).toInt < (k42 : Int) → GG Z (d - 1) 158 post (gx xp) (1 + k42 * 900) 42 (fun j => xlook j [(0, .ref (A 94)), (1, .ref (A 46)), (2, .int y42_2), (3, .int y42_3)]) [] (WW Z A sc42 ++ ex) 0 0 := by
    intro k42
    induction k42 with
    | zero => intro sc42 y42_2 y42_3 hIc42 hFc42 j42_2 j42_3 mm42; exact m_no mm42 j42_3 rfl
    | succ k42 ih42 =>
      intro sc42 y42_2 y42_3 hIc42 hFc42 j42_2 j42_3 mm42
      refine gg_w (M := 1 + k42 * 900 + 900) gws ?_
      refine g_iload_n 43 (gd rfl) rfl rfl ?_
      refine g_aload_n 44 (gd rfl) rfl rfl ?_
      refine g_getI 47 (gd rfl) rfl rfl rfl (fun z44 e44 => ?_)
      have q44 : u_46_1 = z44 := (fr_F e_46_1 hFc42 rfl).trans e44.symm
      subst q44
      refine g_cmp_ge 50 170 (gd rfl) rfl rfl (fun c47 => ?_) (fun c47 => ?_)
      · skip
        refine g_aload_n 171 (gd rfl) rfl rfl ?_
        refine g_aload_n 172 (gd rfl) rfl rfl ?_
        refine g_getA (q2 := 98) 175 (gd rfl) rfl rfl rfl rfl ?_
        refine g_iconst 0 176 (gd rfl) rfl rfl ?_
        refine g_laload 177 (gd rfl) rfl (n := 11) rfl (in_ix (in_c 0 rfl) rfl) (fun z176 e176 => ?_)
        have i176 := inv_L hIc42 (n := 11) 0 1152921504606846975 rfl (in_ix (in_c 0 rfl) rfl) rfl e176
        refine g_aload_n 178 (gd rfl) rfl rfl ?_
        refine g_getL 181 (gd rfl) rfl rfl rfl (fun z178 e178 => ?_)
        have i178 := inv_G hIc42 0 2305843009213693951 rfl e178
        have p181 : InL z176 0 1152921504606846975 := by exact lw 0 1152921504606846975 i176 rfl
        have p181a : InL z178 0 2305843009213693951 := by exact lw 0 2305843009213693951 i178 rfl
        refine g_callv (X := _) (As := [.long z176, .long z178]) (r := []) (b := A 94) (q := 94) 184 (gd rfl) rfl rfl rfl rfl rfl (ww_o rfl) (Nat.le_of_ble_eq_true rfl) (Nat.zero_le _) (Nat.zero_le _) (k_159_94 (by first | exact dq1 hd rfl | exact dq0 hd rfl | exact dq2 hd rfl | exact dq3 hd rfl | omega) hIc42 p181 p181a) (fun e u h => h) (fun v u h => ?_)
        obtain ⟨s181, hI181, hF181, rfl, rfl⟩ := h
        show GG _ _ _ _ _ _ _ _ [] _ _ _
        refine g_aload_n 185 (gd rfl) rfl rfl ?_
        refine g_aload_n 186 (gd rfl) rfl rfl ?_
        refine g_getI 189 (gd rfl) rfl rfl rfl (fun z186 e186 => ?_)
        have q186 : u_46_1 = z186 := (fr_F (fr_F e_46_1 hFc42 rfl) hF181 rfl).trans e186.symm
        subst q186
        refine g_callv (X := _) (As := [.int u_46_1]) (r := []) (b := A 94) (q := 94) 192 (gd rfl) rfl rfl rfl rfl rfl (ww_o rfl) (Nat.le_of_ble_eq_true rfl) (Nat.zero_le _) (Nat.zero_le _) (k_162_94 (by first | exact dq1 hd rfl | exact dq0 hd rfl | exact dq2 hd rfl | exact dq3 hd rfl | omega) hI181 (in_w 0 60 r_46_1 rfl)) (fun e u h => h) (fun v u h => ?_)
        obtain ⟨s189, hI189, hF189, rfl, rfl⟩ := h
        show GG _ _ _ _ _ _ _ _ [] _ _ _
        exact g_return (gd rfl) rfl (hP _ _ ⟨s189, hI189, (fr_tr rfl (fr_tr rfl hFc42 hF181) hF189), rfl, rfl⟩)
      · skip
        have i47 := r_lt1 0 59 c47 j42_3 r_46_1 rfl
        have i47a := r_lt2 1 60 c47 j42_3 r_46_1 rfl
        refine g_aload_n 51 (gd rfl) rfl rfl ?_
        refine g_getA (q2 := 47) 54 (gd rfl) rfl rfl rfl rfl ?_
        refine g_iload_n 55 (gd rfl) rfl rfl ?_
        refine g_caload 56 (gd rfl) rfl (n := 1000) rfl (in_ix i47 rfl) (fun z55 e55 => ?_)
        have i55 := inv_I hIc42 (n := 1000) (t := 2) 0 65535 rfl (in_ix i47 rfl) rfl e55
        refine g_istore 58 (gd rfl) rfl (Nat.le_of_ble_eq_true rfl) ?_
        refine g_iload_n 59 (gd rfl) rfl rfl ?_
        refine g_istore 61 (gd rfl) rfl (Nat.le_of_ble_eq_true rfl) ?_
        refine g_iload 63 (gd rfl) rfl rfl ?_
        refine g_bipush 40 65 (gd rfl) rfl rfl ?_
        refine g_cmp_ne 68 94 (gd rfl) rfl rfl (fun c65 => ?_) (fun c65 => ?_)
        · skip
          refine g_iload 96 (gd rfl) rfl rfl ?_
          refine g_bipush 41 98 (gd rfl) rfl rfl ?_
          refine g_cmp_ne 101 129 (gd rfl) rfl rfl (fun c98 => ?_) (fun c98 => ?_)
          · skip
            refine g_aload_n 130 (gd rfl) rfl rfl ?_
            refine g_iload 132 (gd rfl) rfl rfl ?_
            refine g_iload_n 133 (gd rfl) rfl rfl ?_
            refine g_iload_n 134 (gd rfl) rfl rfl ?_
            refine g_callv (X := _) (As := [.int z55, .int y42_3, .int y42_2]) (r := []) (b := A 94) (q := 94) 137 (gd rfl) rfl rfl rfl rfl rfl (ww_o rfl) (Nat.le_of_ble_eq_true rfl) (Nat.zero_le _) (Nat.zero_le _) (k_160_94 (by first | exact dq1 hd rfl | exact dq0 hd rfl | exact dq2 hd rfl | exact dq3 hd rfl | omega) hIc42 (in_w 0 65535 i55 rfl) (in_w 0 59 i47 rfl) (in_w 0 10 j42_2 rfl)) (fun e u h => h) (fun v u h => ?_)
            obtain ⟨s134, hI134, hF134, rfl, rfl⟩ := h
            show GG _ _ _ _ _ _ _ _ [] _ _ _
            refine g_iload_n 138 (gd rfl) rfl rfl ?_
            refine g_iconst 1 139 (gd rfl) rfl rfl ?_
            refine g_iadd 140 (gd rfl) rfl (fun z139 e139 => ?_)
            have i139 := in_add 1 60 e139 i47 (in_c 1 rfl) rfl rfl
            refine g_aload_n 141 (gd rfl) rfl rfl ?_
            refine g_getI 144 (gd rfl) rfl rfl rfl (fun z141 e141 => ?_)
            have q141 : u_46_1 = z141 := (fr_F (fr_F e_46_1 hFc42 rfl) hF134 rfl).trans e141.symm
            subst q141
            refine g_cmp_ge 147 164 (gd rfl) rfl rfl (fun c144 => ?_) (fun c144 => ?_)
            · skip
              refine g_iinc 167 (gd rfl) rfl rfl (Nat.le_of_ble_eq_true rfl) (fun z164 e164 => ?_)
              have i164 := in_add 1 60 e164 i47 (in_c 1 rfl) rfl rfl
              refine g_goto 42 (gd rfl) rfl ?_
              exact gg_w (by first | exact Nat.le_add_right _ _ | exact gw2 | exact gw3 | exact gwe rfl | exact gwf rfl | exact gwg rfl | exact gwh rfl | omega) (gg_f (gf_cons rfl (gf_cons rfl (gf_cons rfl (gf_cons rfl gf_nil)))) (ih42 s134 y42_2 z164 hI134 (fr_tr rfl hFc42 hF134) (in_w 0 10 j42_2 rfl) (in_w 0 60 i164 rfl) (m_up mm42 (t_add e164 i47 (in_c 1 rfl) rfl) (in_w 1 1 (in_c 1 rfl) rfl))))
            · skip
              have i144 := r_lt1 1 59 c144 i139 i47a rfl
              have i144a := r_lt2 2 60 c144 i139 i47a rfl
              refine g_aload_n 148 (gd rfl) rfl rfl ?_
              refine g_aload_n 149 (gd rfl) rfl rfl ?_
              refine g_getA (q2 := 47) 152 (gd rfl) rfl rfl rfl rfl ?_
              refine g_iload_n 153 (gd rfl) rfl rfl ?_
              refine g_iconst 1 154 (gd rfl) rfl rfl ?_
              refine g_iadd 155 (gd rfl) rfl (fun z154 e154 => ?_)
              have i154 := in_add 1 60 e154 i47 (in_c 1 rfl) rfl rfl
              refine g_caload 156 (gd rfl) rfl (n := 1000) rfl (in_ix i154 rfl) (fun z155 e155 => ?_)
              have i155 := inv_I hI134 (n := 1000) (t := 2) 0 65535 rfl (in_ix i154 rfl) rfl e155
              refine g_iload 158 (gd rfl) rfl rfl ?_
              refine g_iload_n 159 (gd rfl) rfl rfl ?_
              refine g_iconst 1 160 (gd rfl) rfl rfl ?_
              refine g_iadd 161 (gd rfl) rfl (fun z160 e160 => ?_)
              have i160 := in_add 1 60 e160 i47 (in_c 1 rfl) rfl rfl
              refine g_callv (X := _) (As := [.int z155, .int y42_3, .int z160]) (r := []) (b := A 94) (q := 94) 164 (gd rfl) rfl rfl rfl rfl rfl (ww_o rfl) (Nat.le_of_ble_eq_true rfl) (mc := 0) (ms := 0) (Nat.zero_le _) (Nat.zero_le _) (P := fun v u => _) ?_ (fun e u h => h) (fun v u h => h)
              intro po161 xx161 hp161 hx161
              refine g_enter2 (k := 161) (N := 300) (by first | exact dq1 hd rfl | exact dq0 hd rfl | exact dq2 hd rfl | exact dq3 hd rfl | omega) rfl (Nat.le_of_ble_eq_true rfl) ?_
              refine g_iload_n 1 (gd rfl) rfl rfl ?_
              refine g_bipush 42 3 (gd rfl) rfl rfl ?_
              refine g_cmp_eq 6 12 (gd rfl) rfl rfl (fun c161x3 => ?_) (fun c161x3 => ?_)
              · skip
                have i161x3 := r_eq1 42 42 c161x3 i155 (in_c 42 rfl) rfl
                refine g_aload_n 13 (gd rfl) rfl rfl ?_
                refine g_getA (q2 := 95) 16 (gd rfl) rfl rfl rfl rfl ?_
                refine g_iload_n 17 (gd rfl) rfl rfl ?_
                refine g_dup2 18 (gd rfl) rfl rfl rfl ?_
                refine g_laload 19 (gd rfl) rfl (n := 61) rfl (in_ix i160 rfl) (fun z161x18 e161x18 => ?_)
                have i161x18 := inv_L hI134 (n := 61) 0 2305843009213693951 rfl (in_ix i160 rfl) rfl e161x18
                refine g_lconst 1 20 (gd rfl) rfl rfl ?_
                refine g_iload_n 21 (gd rfl) rfl rfl ?_
                refine g_lshl 22 (gd rfl) rfl (fun z161x21 e161x21 => ?_)
                have i161x21 := l_shl 59 e161x21 i47 rfl
                refine g_lor 23 (gd rfl) rfl (fun z161x22 e161x22 => ?_)
                have i161x22 := inl_or 61 e161x22 (lw 0 2305843009213693951 i161x18 rfl) (lw 0 2305843009213693951 i161x21 rfl) rfl
                refine g_lastore 24 (gd rfl) rfl (n := 61) rfl (in_ix i160 rfl) ?_
                have hI161x23 := inv_sL (q := 95) (j := z160.toNatClampNeg) (x := z161x22) hI134 rfl (lw 0 2305843009213693951 i161x22 rfl)
                refine g_iload_n 25 (gd rfl) rfl rfl ?_
                refine g_bipush 42 27 (gd rfl) rfl rfl ?_
                refine g_cmp_eq 30 36 (gd rfl) rfl rfl (fun c161x27 => ?_) (fun c161x27 => ?_)
                · skip
                  refine g_aload_n 37 (gd rfl) rfl rfl ?_
                  refine g_getA (q2 := 95) 40 (gd rfl) rfl rfl rfl rfl ?_
                  refine g_iload_n 41 (gd rfl) rfl rfl ?_
                  refine g_dup2 42 (gd rfl) rfl rfl rfl ?_
                  refine g_laload 43 (gd rfl) rfl (n := 61) rfl (in_ix i47 rfl) (fun z161x42 e161x42 => ?_)
                  have i161x42 := inv_L hI161x23 (n := 61) 0 2305843009213693951 rfl (in_ix i47 rfl) rfl e161x42
                  refine g_lconst 1 44 (gd rfl) rfl rfl ?_
                  refine g_iload_n 45 (gd rfl) rfl rfl ?_
                  refine g_lshl 46 (gd rfl) rfl (fun z161x45 e161x45 => ?_)
                  have i161x45 := l_shl 60 e161x45 i160 rfl
                  refine g_lor 47 (gd rfl) rfl (fun z161x46 e161x46 => ?_)
                  have i161x46 := inl_or 61 e161x46 (lw 0 2305843009213693951 i161x42 rfl) (lw 0 2305843009213693951 i161x45 rfl) rfl
                  refine g_lastore 48 (gd rfl) rfl (n := 61) rfl (in_ix i47 rfl) ?_
                  have hI161x47 := inv_sL (q := 95) (j := y42_3.toNatClampNeg) (x := z161x46) hI161x23 rfl (lw 0 2305843009213693951 i161x46 rfl)
                  refine g_return (gd rfl) rfl (hp161 _ _ ?_)
                  show GG _ _ _ _ _ _ _ _ [] _ _ _
                  refine g_iinc 167 (gd rfl) rfl rfl (Nat.le_of_ble_eq_true rfl) (fun z164 e164 => ?_)
                  have i164 := in_add 1 60 e164 i47 (in_c 1 rfl) rfl rfl
                  refine g_goto 42 (gd rfl) rfl ?_
                  exact gg_w (by first | exact Nat.le_add_right _ _ | exact gw2 | exact gw3 | exact gwe rfl | exact gwf rfl | exact gwg rfl | exact gwh rfl | omega) (gg_f (gf_cons rfl (gf_cons rfl (gf_cons rfl (gf_cons rfl gf_nil)))) (ih42 (sL (sL s134 95 z160.toNatClampNeg z161x22) 95 y42_3.toNatClampNeg z161x46) y42_2 z164 hI161x47 (fr_sL rfl (fr_sL rfl (fr_tr rfl hFc42 hF134))) (in_w 0 10 j42_2 rfl) (in_w 0 60 i164 rfl) (m_up mm42 (t_add e164 i47 (in_c 1 rfl) rfl) (in_w 1 1 (in_c 1 rfl) rfl))))
                · skip
                  exact n_ne c161x27 i161x3 (in_c 42 rfl) rfl
              · skip
                refine g_iload_n 7 (gd rfl) rfl rfl ?_
                refine g_bipush 43 9 (gd rfl) rfl rfl ?_
                refine g_cmp_ne 12 24 (gd rfl) rfl rfl (fun c161x9 => ?_) (fun c161x9 => ?_)
                · skip
                  refine g_iload_n 25 (gd rfl) rfl rfl ?_
                  refine g_bipush 42 27 (gd rfl) rfl rfl ?_
                  refine g_cmp_eq 30 36 (gd rfl) rfl rfl (fun c161x27 => ?_) (fun c161x27 => ?_)
                  · skip
                    exact absurd c161x27 c161x3
                  · skip
                    refine g_iload_n 31 (gd rfl) rfl rfl ?_
                    refine g_bipush 63 33 (gd rfl) rfl rfl ?_
                    refine g_cmp_ne 36 48 (gd rfl) rfl rfl (fun c161x33 => ?_) (fun c161x33 => ?_)
                    · skip
                      refine g_return (gd rfl) rfl (hp161 _ _ ?_)
                      show GG _ _ _ _ _ _ _ _ [] _ _ _
                      refine g_iinc 167 (gd rfl) rfl rfl (Nat.le_of_ble_eq_true rfl) (fun z164 e164 => ?_)
                      have i164 := in_add 1 60 e164 i47 (in_c 1 rfl) rfl rfl
                      refine g_goto 42 (gd rfl) rfl ?_
                      exact gg_w (by first | exact Nat.le_add_right _ _ | exact gw2 | exact gw3 | exact gwe rfl | exact gwf rfl | exact gwg rfl | exact gwh rfl | omega) (gg_f (gf_cons rfl (gf_cons rfl (gf_cons rfl (gf_cons rfl gf_nil)))) (ih42 s134 y42_2 z164 hI134 (fr_tr rfl hFc42 hF134) (in_w 0 10 j42_2 rfl) (in_w 0 60 i164 rfl) (m_up mm42 (t_add e164 i47 (in_c 1 rfl) rfl) (in_w 1 1 (in_c 1 rfl) rfl))))
                    · skip
                      have i161x33 := r_eq1 63 63 c161x33 i155 (in_c 63 rfl) rfl
                      refine g_aload_n 37 (gd rfl) rfl rfl ?_
                      refine g_getA (q2 := 95) 40 (gd rfl) rfl rfl rfl rfl ?_
                      refine g_iload_n 41 (gd rfl) rfl rfl ?_
                      refine g_dup2 42 (gd rfl) rfl rfl rfl ?_
                      refine g_laload 43 (gd rfl) rfl (n := 61) rfl (in_ix i47 rfl) (fun z161x42 e161x42 => ?_)
                      have i161x42 := inv_L hI134 (n := 61) 0 2305843009213693951 rfl (in_ix i47 rfl) rfl e161x42
                      refine g_lconst 1 44 (gd rfl) rfl rfl ?_
                      refine g_iload_n 45 (gd rfl) rfl rfl ?_
                      refine g_lshl 46 (gd rfl) rfl (fun z161x45 e161x45 => ?_)
                      have i161x45 := l_shl 60 e161x45 i160 rfl
                      refine g_lor 47 (gd rfl) rfl (fun z161x46 e161x46 => ?_)
                      have i161x46 := inl_or 61 e161x46 (lw 0 2305843009213693951 i161x42 rfl) (lw 0 2305843009213693951 i161x45 rfl) rfl
                      refine g_lastore 48 (gd rfl) rfl (n := 61) rfl (in_ix i47 rfl) ?_
                      have hI161x47 := inv_sL (q := 95) (j := y42_3.toNatClampNeg) (x := z161x46) hI134 rfl (lw 0 2305843009213693951 i161x46 rfl)
                      refine g_return (gd rfl) rfl (hp161 _ _ ?_)
                      show GG _ _ _ _ _ _ _ _ [] _ _ _
                      refine g_iinc 167 (gd rfl) rfl rfl (Nat.le_of_ble_eq_true rfl) (fun z164 e164 => ?_)
                      have i164 := in_add 1 60 e164 i47 (in_c 1 rfl) rfl rfl
                      refine g_goto 42 (gd rfl) rfl ?_
                      exact gg_w (by first | exact Nat.le_add_right _ _ | exact gw2 | exact gw3 | exact gwe rfl | exact gwf rfl | exact gwg rfl | exact gwh rfl | omega) (gg_f (gf_cons rfl (gf_cons rfl (gf_cons rfl (gf_cons rfl gf_nil)))) (ih42 (sL s134 95 y42_3.toNatClampNeg z161x46) y42_2 z164 hI161x47 (fr_sL rfl (fr_tr rfl hFc42 hF134)) (in_w 0 10 j42_2 rfl) (in_w 0 60 i164 rfl) (m_up mm42 (t_add e164 i47 (in_c 1 rfl) rfl) (in_w 1 1 (in_c 1 rfl) rfl))))
                · skip
                  have i161x9 := r_eq1 43 43 c161x9 i155 (in_c 43 rfl) rfl
                  refine g_aload_n 13 (gd rfl) rfl rfl ?_
                  refine g_getA (q2 := 95) 16 (gd rfl) rfl rfl rfl rfl ?_
                  refine g_iload_n 17 (gd rfl) rfl rfl ?_
                  refine g_dup2 18 (gd rfl) rfl rfl rfl ?_
                  refine g_laload 19 (gd rfl) rfl (n := 61) rfl (in_ix i160 rfl) (fun z161x18 e161x18 => ?_)
                  have i161x18 := inv_L hI134 (n := 61) 0 2305843009213693951 rfl (in_ix i160 rfl) rfl e161x18
                  refine g_lconst 1 20 (gd rfl) rfl rfl ?_
                  refine g_iload_n 21 (gd rfl) rfl rfl ?_
                  refine g_lshl 22 (gd rfl) rfl (fun z161x21 e161x21 => ?_)
                  have i161x21 := l_shl 59 e161x21 i47 rfl
                  refine g_lor 23 (gd rfl) rfl (fun z161x22 e161x22 => ?_)
                  have i161x22 := inl_or 61 e161x22 (lw 0 2305843009213693951 i161x18 rfl) (lw 0 2305843009213693951 i161x21 rfl) rfl
                  refine g_lastore 24 (gd rfl) rfl (n := 61) rfl (in_ix i160 rfl) ?_
                  have hI161x23 := inv_sL (q := 95) (j := z160.toNatClampNeg) (x := z161x22) hI134 rfl (lw 0 2305843009213693951 i161x22 rfl)
                  refine g_iload_n 25 (gd rfl) rfl rfl ?_
                  refine g_bipush 42 27 (gd rfl) rfl rfl ?_
                  refine g_cmp_eq 30 36 (gd rfl) rfl rfl (fun c161x27 => ?_) (fun c161x27 => ?_)
                  · skip
                    exact absurd c161x27 c161x3
                  · skip
                    refine g_iload_n 31 (gd rfl) rfl rfl ?_
                    refine g_bipush 63 33 (gd rfl) rfl rfl ?_
                    refine g_cmp_ne 36 48 (gd rfl) rfl rfl (fun c161x33 => ?_) (fun c161x33 => ?_)
                    · skip
                      refine g_return (gd rfl) rfl (hp161 _ _ ?_)
                      show GG _ _ _ _ _ _ _ _ [] _ _ _
                      refine g_iinc 167 (gd rfl) rfl rfl (Nat.le_of_ble_eq_true rfl) (fun z164 e164 => ?_)
                      have i164 := in_add 1 60 e164 i47 (in_c 1 rfl) rfl rfl
                      refine g_goto 42 (gd rfl) rfl ?_
                      exact gg_w (by first | exact Nat.le_add_right _ _ | exact gw2 | exact gw3 | exact gwe rfl | exact gwf rfl | exact gwg rfl | exact gwh rfl | omega) (gg_f (gf_cons rfl (gf_cons rfl (gf_cons rfl (gf_cons rfl gf_nil)))) (ih42 (sL s134 95 z160.toNatClampNeg z161x22) y42_2 z164 hI161x23 (fr_sL rfl (fr_tr rfl hFc42 hF134)) (in_w 0 10 j42_2 rfl) (in_w 0 60 i164 rfl) (m_up mm42 (t_add e164 i47 (in_c 1 rfl) rfl) (in_w 1 1 (in_c 1 rfl) rfl))))
                    · skip
                      exact n_eq c161x33 i161x9 (in_c 63 rfl) rfl
          · skip
            have i98 := r_eq1 41 41 c98 i55 (in_c 41 rfl) rfl
            refine g_iload_n 102 (gd rfl) rfl rfl ?_
            refine g_if_le 105 129 (gd rfl) rfl rfl (fun c102 => ?_) (fun c102 => ?_)
            · skip
              have i102 := z_le 0 0 c102 j42_2 rfl
              refine g_aload_n 130 (gd rfl) rfl rfl ?_
              refine g_iload 132 (gd rfl) rfl rfl ?_
              refine g_iload_n 133 (gd rfl) rfl rfl ?_
              refine g_iload_n 134 (gd rfl) rfl rfl ?_
              refine g_callv (X := _) (As := [.int z55, .int y42_3, .int y42_2]) (r := []) (b := A 94) (q := 94) 137 (gd rfl) rfl rfl rfl rfl rfl (ww_o rfl) (Nat.le_of_ble_eq_true rfl) (Nat.zero_le _) (Nat.zero_le _) (k_160_94 (by first | exact dq1 hd rfl | exact dq0 hd rfl | exact dq2 hd rfl | exact dq3 hd rfl | omega) hIc42 (in_w 0 65535 i98 rfl) (in_w 0 59 i47 rfl) (in_w 0 10 i102 rfl)) (fun e u h => h) (fun v u h => ?_)
              obtain ⟨s134, hI134, hF134, rfl, rfl⟩ := h
              show GG _ _ _ _ _ _ _ _ [] _ _ _
              refine g_iload_n 138 (gd rfl) rfl rfl ?_
              refine g_iconst 1 139 (gd rfl) rfl rfl ?_
              refine g_iadd 140 (gd rfl) rfl (fun z139 e139 => ?_)
              have i139 := in_add 1 60 e139 i47 (in_c 1 rfl) rfl rfl
              refine g_aload_n 141 (gd rfl) rfl rfl ?_
              refine g_getI 144 (gd rfl) rfl rfl rfl (fun z141 e141 => ?_)
              have q141 : u_46_1 = z141 := (fr_F (fr_F e_46_1 hFc42 rfl) hF134 rfl).trans e141.symm
              subst q141
              refine g_cmp_ge 147 164 (gd rfl) rfl rfl (fun c144 => ?_) (fun c144 => ?_)
              · skip
                refine g_iinc 167 (gd rfl) rfl rfl (Nat.le_of_ble_eq_true rfl) (fun z164 e164 => ?_)
                have i164 := in_add 1 60 e164 i47 (in_c 1 rfl) rfl rfl
                refine g_goto 42 (gd rfl) rfl ?_
                exact gg_w (by first | exact Nat.le_add_right _ _ | exact gw2 | exact gw3 | exact gwe rfl | exact gwf rfl | exact gwg rfl | exact gwh rfl | omega) (gg_f (gf_cons rfl (gf_cons rfl (gf_cons rfl (gf_cons rfl gf_nil)))) (ih42 s134 y42_2 z164 hI134 (fr_tr rfl hFc42 hF134) (in_w 0 10 i102 rfl) (in_w 0 60 i164 rfl) (m_up mm42 (t_add e164 i47 (in_c 1 rfl) rfl) (in_w 1 1 (in_c 1 rfl) rfl))))
              · skip
                have i144 := r_lt1 1 59 c144 i139 i47a rfl
                have i144a := r_lt2 2 60 c144 i139 i47a rfl
                refine g_aload_n 148 (gd rfl) rfl rfl ?_
                refine g_aload_n 149 (gd rfl) rfl rfl ?_
                refine g_getA (q2 := 47) 152 (gd rfl) rfl rfl rfl rfl ?_
                refine g_iload_n 153 (gd rfl) rfl rfl ?_
                refine g_iconst 1 154 (gd rfl) rfl rfl ?_
                refine g_iadd 155 (gd rfl) rfl (fun z154 e154 => ?_)
                have i154 := in_add 1 60 e154 i47 (in_c 1 rfl) rfl rfl
                refine g_caload 156 (gd rfl) rfl (n := 1000) rfl (in_ix i154 rfl) (fun z155 e155 => ?_)
                have i155 := inv_I hI134 (n := 1000) (t := 2) 0 65535 rfl (in_ix i154 rfl) rfl e155
                refine g_iload 158 (gd rfl) rfl rfl ?_
                refine g_iload_n 159 (gd rfl) rfl rfl ?_
                refine g_iconst 1 160 (gd rfl) rfl rfl ?_
                refine g_iadd 161 (gd rfl) rfl (fun z160 e160 => ?_)
                have i160 := in_add 1 60 e160 i47 (in_c 1 rfl) rfl rfl
                refine g_callv (X := _) (As := [.int z155, .int y42_3, .int z160]) (r := []) (b := A 94) (q := 94) 164 (gd rfl) rfl rfl rfl rfl rfl (ww_o rfl) (Nat.le_of_ble_eq_true rfl) (mc := 0) (ms := 0) (Nat.zero_le _) (Nat.zero_le _) (P := fun v u => _) ?_ (fun e u h => h) (fun v u h => h)
                intro po161 xx161 hp161 hx161
                refine g_enter2 (k := 161) (N := 300) (by first | exact dq1 hd rfl | exact dq0 hd rfl | exact dq2 hd rfl | exact dq3 hd rfl | omega) rfl (Nat.le_of_ble_eq_true rfl) ?_
                refine g_iload_n 1 (gd rfl) rfl rfl ?_
                refine g_bipush 42 3 (gd rfl) rfl rfl ?_
                refine g_cmp_eq 6 12 (gd rfl) rfl rfl (fun c161x3 => ?_) (fun c161x3 => ?_)
                · skip
                  have i161x3 := r_eq1 42 42 c161x3 i155 (in_c 42 rfl) rfl
                  refine g_aload_n 13 (gd rfl) rfl rfl ?_
                  refine g_getA (q2 := 95) 16 (gd rfl) rfl rfl rfl rfl ?_
                  refine g_iload_n 17 (gd rfl) rfl rfl ?_
                  refine g_dup2 18 (gd rfl) rfl rfl rfl ?_
                  refine g_laload 19 (gd rfl) rfl (n := 61) rfl (in_ix i160 rfl) (fun z161x18 e161x18 => ?_)
                  have i161x18 := inv_L hI134 (n := 61) 0 2305843009213693951 rfl (in_ix i160 rfl) rfl e161x18
                  refine g_lconst 1 20 (gd rfl) rfl rfl ?_
                  refine g_iload_n 21 (gd rfl) rfl rfl ?_
                  refine g_lshl 22 (gd rfl) rfl (fun z161x21 e161x21 => ?_)
                  have i161x21 := l_shl 59 e161x21 i47 rfl
                  refine g_lor 23 (gd rfl) rfl (fun z161x22 e161x22 => ?_)
                  have i161x22 := inl_or 61 e161x22 (lw 0 2305843009213693951 i161x18 rfl) (lw 0 2305843009213693951 i161x21 rfl) rfl
                  refine g_lastore 24 (gd rfl) rfl (n := 61) rfl (in_ix i160 rfl) ?_
                  have hI161x23 := inv_sL (q := 95) (j := z160.toNatClampNeg) (x := z161x22) hI134 rfl (lw 0 2305843009213693951 i161x22 rfl)
                  refine g_iload_n 25 (gd rfl) rfl rfl ?_
                  refine g_bipush 42 27 (gd rfl) rfl rfl ?_
                  refine g_cmp_eq 30 36 (gd rfl) rfl rfl (fun c161x27 => ?_) (fun c161x27 => ?_)
                  · skip
                    refine g_aload_n 37 (gd rfl) rfl rfl ?_
                    refine g_getA (q2 := 95) 40 (gd rfl) rfl rfl rfl rfl ?_
                    refine g_iload_n 41 (gd rfl) rfl rfl ?_
                    refine g_dup2 42 (gd rfl) rfl rfl rfl ?_
                    refine g_laload 43 (gd rfl) rfl (n := 61) rfl (in_ix i47 rfl) (fun z161x42 e161x42 => ?_)
                    have i161x42 := inv_L hI161x23 (n := 61) 0 2305843009213693951 rfl (in_ix i47 rfl) rfl e161x42
                    refine g_lconst 1 44 (gd rfl) rfl rfl ?_
                    refine g_iload_n 45 (gd rfl) rfl rfl ?_
                    refine g_lshl 46 (gd rfl) rfl (fun z161x45 e161x45 => ?_)
                    have i161x45 := l_shl 60 e161x45 i160 rfl
                    refine g_lor 47 (gd rfl) rfl (fun z161x46 e161x46 => ?_)
                    have i161x46 := inl_or 61 e161x46 (lw 0 2305843009213693951 i161x42 rfl) (lw 0 2305843009213693951 i161x45 rfl) rfl
                    refine g_lastore 48 (gd rfl) rfl (n := 61) rfl (in_ix i47 rfl) ?_
                    have hI161x47 := inv_sL (q := 95) (j := y42_3.toNatClampNeg) (x := z161x46) hI161x23 rfl (lw 0 2305843009213693951 i161x46 rfl)
                    refine g_return (gd rfl) rfl (hp161 _ _ ?_)
                    show GG _ _ _ _ _ _ _ _ [] _ _ _
                    refine g_iinc 167 (gd rfl) rfl rfl (Nat.le_of_ble_eq_true rfl) (fun z164 e164 => ?_)
                    have i164 := in_add 1 60 e164 i47 (in_c 1 rfl) rfl rfl
                    refine g_goto 42 (gd rfl) rfl ?_
                    exact gg_w (by first | exact Nat.le_add_right _ _ | exact gw2 | exact gw3 | exact gwe rfl | exact gwf rfl | exact gwg rfl | exact gwh rfl | omega) (gg_f (gf_cons rfl (gf_cons rfl (gf_cons rfl (gf_cons rfl gf_nil)))) (ih42 (sL (sL s134 95 z160.toNatClampNeg z161x22) 95 y42_3.toNatClampNeg z161x46) y42_2 z164 hI161x47 (fr_sL rfl (fr_sL rfl (fr_tr rfl hFc42 hF134))) (in_w 0 10 i102 rfl) (in_w 0 60 i164 rfl) (m_up mm42 (t_add e164 i47 (in_c 1 rfl) rfl) (in_w 1 1 (in_c 1 rfl) rfl))))
                  · skip
                    exact n_ne c161x27 i161x3 (in_c 42 rfl) rfl
                · skip
                  refine g_iload_n 7 (gd rfl) rfl rfl ?_
                  refine g_bipush 43 9 (gd rfl) rfl rfl ?_
                  refine g_cmp_ne 12 24 (gd rfl) rfl rfl (fun c161x9 => ?_) (fun c161x9 => ?_)
                  · skip
                    refine g_iload_n 25 (gd rfl) rfl rfl ?_
                    refine g_bipush 42 27 (gd rfl) rfl rfl ?_
                    refine g_cmp_eq 30 36 (gd rfl) rfl rfl (fun c161x27 => ?_) (fun c161x27 => ?_)
                    · skip
                      exact absurd c161x27 c161x3
                    · skip
                      refine g_iload_n 31 (gd rfl) rfl rfl ?_
                      refine g_bipush 63 33 (gd rfl) rfl rfl ?_
                      refine g_cmp_ne 36 48 (gd rfl) rfl rfl (fun c161x33 => ?_) (fun c161x33 => ?_)
                      · skip
                        refine g_return (gd rfl) rfl (hp161 _ _ ?_)
                        show GG _ _ _ _ _ _ _ _ [] _ _ _
                        refine g_iinc 167 (gd rfl) rfl rfl (Nat.le_of_ble_eq_true rfl) (fun z164 e164 => ?_)
                        have i164 := in_add 1 60 e164 i47 (in_c 1 rfl) rfl rfl
                        refine g_goto 42 (gd rfl) rfl ?_
                        exact gg_w (by first | exact Nat.le_add_right _ _ | exact gw2 | exact gw3 | exact gwe rfl | exact gwf rfl | exact gwg rfl | exact gwh rfl | omega) (gg_f (gf_cons rfl (gf_cons rfl (gf_cons rfl (gf_cons rfl gf_nil)))) (ih42 s134 y42_2 z164 hI134 (fr_tr rfl hFc42 hF134) (in_w 0 10 i102 rfl) (in_w 0 60 i164 rfl) (m_up mm42 (t_add e164 i47 (in_c 1 rfl) rfl) (in_w 1 1 (in_c 1 rfl) rfl))))
                      · skip
                        have i161x33 := r_eq1 63 63 c161x33 i155 (in_c 63 rfl) rfl
                        refine g_aload_n 37 (gd rfl) rfl rfl ?_
                        refine g_getA (q2 := 95) 40 (gd rfl) rfl rfl rfl rfl ?_
                        refine g_iload_n 41 (gd rfl) rfl rfl ?_
                        refine g_dup2 42 (gd rfl) rfl rfl rfl ?_
                        refine g_laload 43 (gd rfl) rfl (n := 61) rfl (in_ix i47 rfl) (fun z161x42 e161x42 => ?_)
                        have i161x42 := inv_L hI134 (n := 61) 0 2305843009213693951 rfl (in_ix i47 rfl) rfl e161x42
                        refine g_lconst 1 44 (gd rfl) rfl rfl ?_
                        refine g_iload_n 45 (gd rfl) rfl rfl ?_
                        refine g_lshl 46 (gd rfl) rfl (fun z161x45 e161x45 => ?_)
                        have i161x45 := l_shl 60 e161x45 i160 rfl
                        refine g_lor 47 (gd rfl) rfl (fun z161x46 e161x46 => ?_)
                        have i161x46 := inl_or 61 e161x46 (lw 0 2305843009213693951 i161x42 rfl) (lw 0 2305843009213693951 i161x45 rfl) rfl
                        refine g_lastore 48 (gd rfl) rfl (n := 61) rfl (in_ix i47 rfl) ?_
                        have hI161x47 := inv_sL (q := 95) (j := y42_3.toNatClampNeg) (x := z161x46) hI134 rfl (lw 0 2305843009213693951 i161x46 rfl)
                        refine g_return (gd rfl) rfl (hp161 _ _ ?_)
                        show GG _ _ _ _ _ _ _ _ [] _ _ _
                        refine g_iinc 167 (gd rfl) rfl rfl (Nat.le_of_ble_eq_true rfl) (fun z164 e164 => ?_)
                        have i164 := in_add 1 60 e164 i47 (in_c 1 rfl) rfl rfl
                        refine g_goto 42 (gd rfl) rfl ?_
                        exact gg_w (by first | exact Nat.le_add_right _ _ | exact gw2 | exact gw3 | exact gwe rfl | exact gwf rfl | exact gwg rfl | exact gwh rfl | omega) (gg_f (gf_cons rfl (gf_cons rfl (gf_cons rfl (gf_cons rfl gf_nil)))) (ih42 (sL s134 95 y42_3.toNatClampNeg z161x46) y42_2 z164 hI161x47 (fr_sL rfl (fr_tr rfl hFc42 hF134)) (in_w 0 10 i102 rfl) (in_w 0 60 i164 rfl) (m_up mm42 (t_add e164 i47 (in_c 1 rfl) rfl) (in_w 1 1 (in_c 1 rfl) rfl))))
                  · skip
                    have i161x9 := r_eq1 43 43 c161x9 i155 (in_c 43 rfl) rfl
                    refine g_aload_n 13 (gd rfl) rfl rfl ?_
                    refine g_getA (q2 := 95) 16 (gd rfl) rfl rfl rfl rfl ?_
                    refine g_iload_n 17 (gd rfl) rfl rfl ?_
                    refine g_dup2 18 (gd rfl) rfl rfl rfl ?_
                    refine g_laload 19 (gd rfl) rfl (n := 61) rfl (in_ix i160 rfl) (fun z161x18 e161x18 => ?_)
                    have i161x18 := inv_L hI134 (n := 61) 0 2305843009213693951 rfl (in_ix i160 rfl) rfl e161x18
                    refine g_lconst 1 20 (gd rfl) rfl rfl ?_
                    refine g_iload_n 21 (gd rfl) rfl rfl ?_
                    refine g_lshl 22 (gd rfl) rfl (fun z161x21 e161x21 => ?_)
                    have i161x21 := l_shl 59 e161x21 i47 rfl
                    refine g_lor 23 (gd rfl) rfl (fun z161x22 e161x22 => ?_)
                    have i161x22 := inl_or 61 e161x22 (lw 0 2305843009213693951 i161x18 rfl) (lw 0 2305843009213693951 i161x21 rfl) rfl
                    refine g_lastore 24 (gd rfl) rfl (n := 61) rfl (in_ix i160 rfl) ?_
                    have hI161x23 := inv_sL (q := 95) (j := z160.toNatClampNeg) (x := z161x22) hI134 rfl (lw 0 2305843009213693951 i161x22 rfl)
                    refine g_iload_n 25 (gd rfl) rfl rfl ?_
                    refine g_bipush 42 27 (gd rfl) rfl rfl ?_
                    refine g_cmp_eq 30 36 (gd rfl) rfl rfl (fun c161x27 => ?_) (fun c161x27 => ?_)
                    · skip
                      exact absurd c161x27 c161x3
                    · skip
                      refine g_iload_n 31 (gd rfl) rfl rfl ?_
                      refine g_bipush 63 33 (gd rfl) rfl rfl ?_
                      refine g_cmp_ne 36 48 (gd rfl) rfl rfl (fun c161x33 => ?_) (fun c161x33 => ?_)
                      · skip
                        refine g_return (gd rfl) rfl (hp161 _ _ ?_)
                        show GG _ _ _ _ _ _ _ _ [] _ _ _
                        refine g_iinc 167 (gd rfl) rfl rfl (Nat.le_of_ble_eq_true rfl) (fun z164 e164 => ?_)
                        have i164 := in_add 1 60 e164 i47 (in_c 1 rfl) rfl rfl
                        refine g_goto 42 (gd rfl) rfl ?_
                        exact gg_w (by first | exact Nat.le_add_right _ _ | exact gw2 | exact gw3 | exact gwe rfl | exact gwf rfl | exact gwg rfl | exact gwh rfl | omega) (gg_f (gf_cons rfl (gf_cons rfl (gf_cons rfl (gf_cons rfl gf_nil)))) (ih42 (sL s134 95 z160.toNatClampNeg z161x22) y42_2 z164 hI161x23 (fr_sL rfl (fr_tr rfl hFc42 hF134)) (in_w 0 10 i102 rfl) (in_w 0 60 i164 rfl) (m_up mm42 (t_add e164 i47 (in_c 1 rfl) rfl) (in_w 1 1 (in_c 1 rfl) rfl))))
                      · skip
                        exact n_eq c161x33 i161x9 (in_c 63 rfl) rfl
            · skip
              have i102 := z_gt 1 10 c102 j42_2 rfl
              refine g_aload_n 106 (gd rfl) rfl rfl ?_
              refine g_getA (q2 := 97) 109 (gd rfl) rfl rfl rfl rfl ?_
              refine g_iload_n 110 (gd rfl) rfl rfl ?_
              refine g_iaload 111 (gd rfl) rfl (n := 11) rfl (in_ix i102 rfl) (fun z110 e110 => ?_)
              have i110 := inv_I hIc42 (n := 11) (t := 0) 0 60 rfl (in_ix i102 rfl) rfl e110
              refine g_istore 113 (gd rfl) rfl (Nat.le_of_ble_eq_true rfl) ?_
              refine g_aload_n 114 (gd rfl) rfl rfl ?_
              refine g_aload_n 115 (gd rfl) rfl rfl ?_
              refine g_getA (q2 := 98) 118 (gd rfl) rfl rfl rfl rfl ?_
              refine g_iload_n 119 (gd rfl) rfl rfl ?_
              refine g_laload 120 (gd rfl) rfl (n := 11) rfl (in_ix i102 rfl) (fun z119 e119 => ?_)
              have i119 := inv_L hIc42 (n := 11) 0 1152921504606846975 rfl (in_ix i102 rfl) rfl e119
              refine g_lconst 1 121 (gd rfl) rfl rfl ?_
              refine g_iload_n 122 (gd rfl) rfl rfl ?_
              refine g_lshl 123 (gd rfl) rfl (fun z122 e122 => ?_)
              have i122 := l_shl 59 e122 i47 rfl
              have p123 : InL z119 0 1152921504606846975 := by exact lw 0 1152921504606846975 i119 rfl
              have p123a : InL z122 0 2305843009213693951 := by exact lw 0 2305843009213693951 i122 rfl
              refine g_callv (X := _) (As := [.long z119, .long z122]) (r := []) (b := A 94) (q := 94) 126 (gd rfl) rfl rfl rfl rfl rfl (ww_o rfl) (Nat.le_of_ble_eq_true rfl) (Nat.zero_le _) (Nat.zero_le _) (k_159_94 (by first | exact dq1 hd rfl | exact dq0 hd rfl | exact dq2 hd rfl | exact dq3 hd rfl | omega) hIc42 p123 p123a) (fun e u h => h) (fun v u h => ?_)
              obtain ⟨s123, hI123, hF123, rfl, rfl⟩ := h
              show GG _ _ _ _ _ _ _ _ [] _ _ _
              refine g_iinc 129 (gd rfl) rfl rfl (Nat.le_of_ble_eq_true rfl) (fun z126 e126 => ?_)
              have i126 := in_add 0 9 e126 i102 (in_c (-1) rfl) rfl rfl
              refine g_aload_n 130 (gd rfl) rfl rfl ?_
              refine g_iload 132 (gd rfl) rfl rfl ?_
              refine g_iload_n 133 (gd rfl) rfl rfl ?_
              refine g_iload_n 134 (gd rfl) rfl rfl ?_
              refine g_callv (X := _) (As := [.int z55, .int y42_3, .int z126]) (r := []) (b := A 94) (q := 94) 137 (gd rfl) rfl rfl rfl rfl rfl (ww_o rfl) (Nat.le_of_ble_eq_true rfl) (Nat.zero_le _) (Nat.zero_le _) (k_160_94 (by first | exact dq1 hd rfl | exact dq0 hd rfl | exact dq2 hd rfl | exact dq3 hd rfl | omega) hI123 (in_w 0 65535 i98 rfl) (in_w 0 59 i47 rfl) (in_w 0 10 i126 rfl)) (fun e u h => h) (fun v u h => ?_)
              obtain ⟨s134, hI134, hF134, rfl, rfl⟩ := h
              show GG _ _ _ _ _ _ _ _ [] _ _ _
              refine g_iload_n 138 (gd rfl) rfl rfl ?_
              refine g_iconst 1 139 (gd rfl) rfl rfl ?_
              refine g_iadd 140 (gd rfl) rfl (fun z139 e139 => ?_)
              have i139 := in_add 1 60 e139 i47 (in_c 1 rfl) rfl rfl
              refine g_aload_n 141 (gd rfl) rfl rfl ?_
              refine g_getI 144 (gd rfl) rfl rfl rfl (fun z141 e141 => ?_)
              have q141 : u_46_1 = z141 := (fr_F (fr_F (fr_F e_46_1 hFc42 rfl) hF123 rfl) hF134 rfl).trans e141.symm
              subst q141
              refine g_cmp_ge 147 164 (gd rfl) rfl rfl (fun c144 => ?_) (fun c144 => ?_)
              · skip
                refine g_iinc 167 (gd rfl) rfl rfl (Nat.le_of_ble_eq_true rfl) (fun z164 e164 => ?_)
                have i164 := in_add 1 60 e164 i47 (in_c 1 rfl) rfl rfl
                refine g_goto 42 (gd rfl) rfl ?_
                exact gg_w (by first | exact Nat.le_add_right _ _ | exact gw2 | exact gw3 | exact gwe rfl | exact gwf rfl | exact gwg rfl | exact gwh rfl | omega) (gg_f (gf_cons rfl (gf_cons rfl (gf_cons rfl (gf_cons rfl gf_nil)))) (ih42 s134 z126 z164 hI134 (fr_tr rfl (fr_tr rfl hFc42 hF123) hF134) (in_w 0 10 i126 rfl) (in_w 0 60 i164 rfl) (m_up mm42 (t_add e164 i47 (in_c 1 rfl) rfl) (in_w 1 1 (in_c 1 rfl) rfl))))
              · skip
                have i144 := r_lt1 1 59 c144 i139 i47a rfl
                have i144a := r_lt2 2 60 c144 i139 i47a rfl
                refine g_aload_n 148 (gd rfl) rfl rfl ?_
                refine g_aload_n 149 (gd rfl) rfl rfl ?_
                refine g_getA (q2 := 47) 152 (gd rfl) rfl rfl rfl rfl ?_
                refine g_iload_n 153 (gd rfl) rfl rfl ?_
                refine g_iconst 1 154 (gd rfl) rfl rfl ?_
                refine g_iadd 155 (gd rfl) rfl (fun z154 e154 => ?_)
                have i154 := in_add 1 60 e154 i47 (in_c 1 rfl) rfl rfl
                refine g_caload 156 (gd rfl) rfl (n := 1000) rfl (in_ix i154 rfl) (fun z155 e155 => ?_)
                have i155 := inv_I hI134 (n := 1000) (t := 2) 0 65535 rfl (in_ix i154 rfl) rfl e155
                refine g_iload 158 (gd rfl) rfl rfl ?_
                refine g_iload_n 159 (gd rfl) rfl rfl ?_
                refine g_iconst 1 160 (gd rfl) rfl rfl ?_
                refine g_iadd 161 (gd rfl) rfl (fun z160 e160 => ?_)
                have i160 := in_add 1 60 e160 i47 (in_c 1 rfl) rfl rfl
                refine g_callv (X := _) (As := [.int z155, .int z110, .int z160]) (r := []) (b := A 94) (q := 94) 164 (gd rfl) rfl rfl rfl rfl rfl (ww_o rfl) (Nat.le_of_ble_eq_true rfl) (mc := 0) (ms := 0) (Nat.zero_le _) (Nat.zero_le _) (P := fun v u => _) ?_ (fun e u h => h) (fun v u h => h)
                intro po161 xx161 hp161 hx161
                refine g_enter2 (k := 161) (N := 300) (by first | exact dq1 hd rfl | exact dq0 hd rfl | exact dq2 hd rfl | exact dq3 hd rfl | omega) rfl (Nat.le_of_ble_eq_true rfl) ?_
                refine g_iload_n 1 (gd rfl) rfl rfl ?_
                refine g_bipush 42 3 (gd rfl) rfl rfl ?_
                refine g_cmp_eq 6 12 (gd rfl) rfl rfl (fun c161x3 => ?_) (fun c161x3 => ?_)
                · skip
                  have i161x3 := r_eq1 42 42 c161x3 i155 (in_c 42 rfl) rfl
                  refine g_aload_n 13 (gd rfl) rfl rfl ?_
                  refine g_getA (q2 := 95) 16 (gd rfl) rfl rfl rfl rfl ?_
                  refine g_iload_n 17 (gd rfl) rfl rfl ?_
                  refine g_dup2 18 (gd rfl) rfl rfl rfl ?_
                  refine g_laload 19 (gd rfl) rfl (n := 61) rfl (in_ix i160 rfl) (fun z161x18 e161x18 => ?_)
                  have i161x18 := inv_L hI134 (n := 61) 0 2305843009213693951 rfl (in_ix i160 rfl) rfl e161x18
                  refine g_lconst 1 20 (gd rfl) rfl rfl ?_
                  refine g_iload_n 21 (gd rfl) rfl rfl ?_
                  refine g_lshl 22 (gd rfl) rfl (fun z161x21 e161x21 => ?_)
                  have i161x21 := l_shl 60 e161x21 i110 rfl
                  refine g_lor 23 (gd rfl) rfl (fun z161x22 e161x22 => ?_)
                  have i161x22 := inl_or 61 e161x22 (lw 0 2305843009213693951 i161x18 rfl) (lw 0 2305843009213693951 i161x21 rfl) rfl
                  refine g_lastore 24 (gd rfl) rfl (n := 61) rfl (in_ix i160 rfl) ?_
                  have hI161x23 := inv_sL (q := 95) (j := z160.toNatClampNeg) (x := z161x22) hI134 rfl (lw 0 2305843009213693951 i161x22 rfl)
                  refine g_iload_n 25 (gd rfl) rfl rfl ?_
                  refine g_bipush 42 27 (gd rfl) rfl rfl ?_
                  refine g_cmp_eq 30 36 (gd rfl) rfl rfl (fun c161x27 => ?_) (fun c161x27 => ?_)
                  · skip
                    refine g_aload_n 37 (gd rfl) rfl rfl ?_
                    refine g_getA (q2 := 95) 40 (gd rfl) rfl rfl rfl rfl ?_
                    refine g_iload_n 41 (gd rfl) rfl rfl ?_
                    refine g_dup2 42 (gd rfl) rfl rfl rfl ?_
                    refine g_laload 43 (gd rfl) rfl (n := 61) rfl (in_ix i110 rfl) (fun z161x42 e161x42 => ?_)
                    have i161x42 := inv_L hI161x23 (n := 61) 0 2305843009213693951 rfl (in_ix i110 rfl) rfl e161x42
                    refine g_lconst 1 44 (gd rfl) rfl rfl ?_
                    refine g_iload_n 45 (gd rfl) rfl rfl ?_
                    refine g_lshl 46 (gd rfl) rfl (fun z161x45 e161x45 => ?_)
                    have i161x45 := l_shl 60 e161x45 i160 rfl
                    refine g_lor 47 (gd rfl) rfl (fun z161x46 e161x46 => ?_)
                    have i161x46 := inl_or 61 e161x46 (lw 0 2305843009213693951 i161x42 rfl) (lw 0 2305843009213693951 i161x45 rfl) rfl
                    refine g_lastore 48 (gd rfl) rfl (n := 61) rfl (in_ix i110 rfl) ?_
                    have hI161x47 := inv_sL (q := 95) (j := z110.toNatClampNeg) (x := z161x46) hI161x23 rfl (lw 0 2305843009213693951 i161x46 rfl)
                    refine g_return (gd rfl) rfl (hp161 _ _ ?_)
                    show GG _ _ _ _ _ _ _ _ [] _ _ _
                    refine g_iinc 167 (gd rfl) rfl rfl (Nat.le_of_ble_eq_true rfl) (fun z164 e164 => ?_)
                    have i164 := in_add 1 60 e164 i47 (in_c 1 rfl) rfl rfl
                    refine g_goto 42 (gd rfl) rfl ?_
                    exact gg_w (by first | exact Nat.le_add_right _ _ | exact gw2 | exact gw3 | exact gwe rfl | exact gwf rfl | exact gwg rfl | exact gwh rfl | omega) (gg_f (gf_cons rfl (gf_cons rfl (gf_cons rfl (gf_cons rfl gf_nil)))) (ih42 (sL (sL s134 95 z160.toNatClampNeg z161x22) 95 z110.toNatClampNeg z161x46) z126 z164 hI161x47 (fr_sL rfl (fr_sL rfl (fr_tr rfl (fr_tr rfl hFc42 hF123) hF134))) (in_w 0 10 i126 rfl) (in_w 0 60 i164 rfl) (m_up mm42 (t_add e164 i47 (in_c 1 rfl) rfl) (in_w 1 1 (in_c 1 rfl) rfl))))
                  · skip
                    exact n_ne c161x27 i161x3 (in_c 42 rfl) rfl
                · skip
                  refine g_iload_n 7 (gd rfl) rfl rfl ?_
                  refine g_bipush 43 9 (gd rfl) rfl rfl ?_
                  refine g_cmp_ne 12 24 (gd rfl) rfl rfl (fun c161x9 => ?_) (fun c161x9 => ?_)
                  · skip
                    refine g_iload_n 25 (gd rfl) rfl rfl ?_
                    refine g_bipush 42 27 (gd rfl) rfl rfl ?_
                    refine g_cmp_eq 30 36 (gd rfl) rfl rfl (fun c161x27 => ?_) (fun c161x27 => ?_)
                    · skip
                      exact absurd c161x27 c161x3
                    · skip
                      refine g_iload_n 31 (gd rfl) rfl rfl ?_
                      refine g_bipush 63 33 (gd rfl) rfl rfl ?_
                      refine g_cmp_ne 36 48 (gd rfl) rfl rfl (fun c161x33 => ?_) (fun c161x33 => ?_)
                      · skip
                        refine g_return (gd rfl) rfl (hp161 _ _ ?_)
                        show GG _ _ _ _ _ _ _ _ [] _ _ _
                        refine g_iinc 167 (gd rfl) rfl rfl (Nat.le_of_ble_eq_true rfl) (fun z164 e164 => ?_)
                        have i164 := in_add 1 60 e164 i47 (in_c 1 rfl) rfl rfl
                        refine g_goto 42 (gd rfl) rfl ?_
                        exact gg_w (by first | exact Nat.le_add_right _ _ | exact gw2 | exact gw3 | exact gwe rfl | exact gwf rfl | exact gwg rfl | exact gwh rfl | omega) (gg_f (gf_cons rfl (gf_cons rfl (gf_cons rfl (gf_cons rfl gf_nil)))) (ih42 s134 z126 z164 hI134 (fr_tr rfl (fr_tr rfl hFc42 hF123) hF134) (in_w 0 10 i126 rfl) (in_w 0 60 i164 rfl) (m_up mm42 (t_add e164 i47 (in_c 1 rfl) rfl) (in_w 1 1 (in_c 1 rfl) rfl))))
                      · skip
                        have i161x33 := r_eq1 63 63 c161x33 i155 (in_c 63 rfl) rfl
                        refine g_aload_n 37 (gd rfl) rfl rfl ?_
                        refine g_getA (q2 := 95) 40 (gd rfl) rfl rfl rfl rfl ?_
                        refine g_iload_n 41 (gd rfl) rfl rfl ?_
                        refine g_dup2 42 (gd rfl) rfl rfl rfl ?_
                        refine g_laload 43 (gd rfl) rfl (n := 61) rfl (in_ix i110 rfl) (fun z161x42 e161x42 => ?_)
                        have i161x42 := inv_L hI134 (n := 61) 0 2305843009213693951 rfl (in_ix i110 rfl) rfl e161x42
                        refine g_lconst 1 44 (gd rfl) rfl rfl ?_
                        refine g_iload_n 45 (gd rfl) rfl rfl ?_
                        refine g_lshl 46 (gd rfl) rfl (fun z161x45 e161x45 => ?_)
                        have i161x45 := l_shl 60 e161x45 i160 rfl
                        refine g_lor 47 (gd rfl) rfl (fun z161x46 e161x46 => ?_)
                        have i161x46 := inl_or 61 e161x46 (lw 0 2305843009213693951 i161x42 rfl) (lw 0 2305843009213693951 i161x45 rfl) rfl
                        refine g_lastore 48 (gd rfl) rfl (n := 61) rfl (in_ix i110 rfl) ?_
                        have hI161x47 := inv_sL (q := 95) (j := z110.toNatClampNeg) (x := z161x46) hI134 rfl (lw 0 2305843009213693951 i161x46 rfl)
                        refine g_return (gd rfl) rfl (hp161 _ _ ?_)
                        show GG _ _ _ _ _ _ _ _ [] _ _ _
                        refine g_iinc 167 (gd rfl) rfl rfl (Nat.le_of_ble_eq_true rfl) (fun z164 e164 => ?_)
                        have i164 := in_add 1 60 e164 i47 (in_c 1 rfl) rfl rfl
                        refine g_goto 42 (gd rfl) rfl ?_
                        exact gg_w (by first | exact Nat.le_add_right _ _ | exact gw2 | exact gw3 | exact gwe rfl | exact gwf rfl | exact gwg rfl | exact gwh rfl | omega) (gg_f (gf_cons rfl (gf_cons rfl (gf_cons rfl (gf_cons rfl gf_nil)))) (ih42 (sL s134 95 z110.toNatClampNeg z161x46) z126 z164 hI161x47 (fr_sL rfl (fr_tr rfl (fr_tr rfl hFc42 hF123) hF134)) (in_w 0 10 i126 rfl) (in_w 0 60 i164 rfl) (m_up mm42 (t_add e164 i47 (in_c 1 rfl) rfl) (in_w 1 1 (in_c 1 rfl) rfl))))
                  · skip
                    have i161x9 := r_eq1 43 43 c161x9 i155 (in_c 43 rfl) rfl
                    refine g_aload_n 13 (gd rfl) rfl rfl ?_
                    refine g_getA (q2 := 95) 16 (gd rfl) rfl rfl rfl rfl ?_
                    refine g_iload_n 17 (gd rfl) rfl rfl ?_
                    refine g_dup2 18 (gd rfl) rfl rfl rfl ?_
                    refine g_laload 19 (gd rfl) rfl (n := 61) rfl (in_ix i160 rfl) (fun z161x18 e161x18 => ?_)
                    have i161x18 := inv_L hI134 (n := 61) 0 2305843009213693951 rfl (in_ix i160 rfl) rfl e161x18
                    refine g_lconst 1 20 (gd rfl) rfl rfl ?_
                    refine g_iload_n 21 (gd rfl) rfl rfl ?_
                    refine g_lshl 22 (gd rfl) rfl (fun z161x21 e161x21 => ?_)
                    have i161x21 := l_shl 60 e161x21 i110 rfl
                    refine g_lor 23 (gd rfl) rfl (fun z161x22 e161x22 => ?_)
                    have i161x22 := inl_or 61 e161x22 (lw 0 2305843009213693951 i161x18 rfl) (lw 0 2305843009213693951 i161x21 rfl) rfl
                    refine g_lastore 24 (gd rfl) rfl (n := 61) rfl (in_ix i160 rfl) ?_
                    have hI161x23 := inv_sL (q := 95) (j := z160.toNatClampNeg) (x := z161x22) hI134 rfl (lw 0 2305843009213693951 i161x22 rfl)
                    refine g_iload_n 25 (gd rfl) rfl rfl ?_
                    refine g_bipush 42 27 (gd rfl) rfl rfl ?_
                    refine g_cmp_eq 30 36 (gd rfl) rfl rfl (fun c161x27 => ?_) (fun c161x27 => ?_)
                    · skip
                      exact absurd c161x27 c161x3
                    · skip
                      refine g_iload_n 31 (gd rfl) rfl rfl ?_
                      refine g_bipush 63 33 (gd rfl) rfl rfl ?_
                      refine g_cmp_ne 36 48 (gd rfl) rfl rfl (fun c161x33 => ?_) (fun c161x33 => ?_)
                      · skip
                        refine g_return (gd rfl) rfl (hp161 _ _ ?_)
                        show GG _ _ _ _ _ _ _ _ [] _ _ _
                        refine g_iinc 167 (gd rfl) rfl rfl (Nat.le_of_ble_eq_true rfl) (fun z164 e164 => ?_)
                        have i164 := in_add 1 60 e164 i47 (in_c 1 rfl) rfl rfl
                        refine g_goto 42 (gd rfl) rfl ?_
                        exact gg_w (by first | exact Nat.le_add_right _ _ | exact gw2 | exact gw3 | exact gwe rfl | exact gwf rfl | exact gwg rfl | exact gwh rfl | omega) (gg_f (gf_cons rfl (gf_cons rfl (gf_cons rfl (gf_cons rfl gf_nil)))) (ih42 (sL s134 95 z160.toNatClampNeg z161x22) z126 z164 hI161x23 (fr_sL rfl (fr_tr rfl (fr_tr rfl hFc42 hF123) hF134)) (in_w 0 10 i126 rfl) (in_w 0 60 i164 rfl) (m_up mm42 (t_add e164 i47 (in_c 1 rfl) rfl) (in_w 1 1 (in_c 1 rfl) rfl))))
                      · skip
                        exact n_eq c161x33 i161x9 (in_c 63 rfl) rfl
        · skip
          have i65 := r_eq1 40 40 c65 i55 (in_c 40 rfl) rfl
          refine g_iload_n 69 (gd rfl) rfl rfl ?_
          refine g_bipush 10 71 (gd rfl) rfl rfl ?_
          refine g_cmp_ge 74 94 (gd rfl) rfl rfl (fun c71 => ?_) (fun c71 => ?_)
          · skip
            have i71 := r_le2 10 10 c71 (in_c 10 rfl) j42_2 rfl
            refine g_iload 96 (gd rfl) rfl rfl ?_
            refine g_bipush 41 98 (gd rfl) rfl rfl ?_
            refine g_cmp_ne 101 129 (gd rfl) rfl rfl (fun c98 => ?_) (fun c98 => ?_)
            · skip
              refine g_aload_n 130 (gd rfl) rfl rfl ?_
              refine g_iload 132 (gd rfl) rfl rfl ?_
              refine g_iload_n 133 (gd rfl) rfl rfl ?_
              refine g_iload_n 134 (gd rfl) rfl rfl ?_
              refine g_callv (X := _) (As := [.int z55, .int y42_3, .int y42_2]) (r := []) (b := A 94) (q := 94) 137 (gd rfl) rfl rfl rfl rfl rfl (ww_o rfl) (Nat.le_of_ble_eq_true rfl) (Nat.zero_le _) (Nat.zero_le _) (k_160_94 (by first | exact dq1 hd rfl | exact dq0 hd rfl | exact dq2 hd rfl | exact dq3 hd rfl | omega) hIc42 (in_w 0 65535 i65 rfl) (in_w 0 59 i47 rfl) (in_w 0 10 i71 rfl)) (fun e u h => h) (fun v u h => ?_)
              obtain ⟨s134, hI134, hF134, rfl, rfl⟩ := h
              show GG _ _ _ _ _ _ _ _ [] _ _ _
              refine g_iload_n 138 (gd rfl) rfl rfl ?_
              refine g_iconst 1 139 (gd rfl) rfl rfl ?_
              refine g_iadd 140 (gd rfl) rfl (fun z139 e139 => ?_)
              have i139 := in_add 1 60 e139 i47 (in_c 1 rfl) rfl rfl
              refine g_aload_n 141 (gd rfl) rfl rfl ?_
              refine g_getI 144 (gd rfl) rfl rfl rfl (fun z141 e141 => ?_)
              have q141 : u_46_1 = z141 := (fr_F (fr_F e_46_1 hFc42 rfl) hF134 rfl).trans e141.symm
              subst q141
              refine g_cmp_ge 147 164 (gd rfl) rfl rfl (fun c144 => ?_) (fun c144 => ?_)
              · skip
                refine g_iinc 167 (gd rfl) rfl rfl (Nat.le_of_ble_eq_true rfl) (fun z164 e164 => ?_)
                have i164 := in_add 1 60 e164 i47 (in_c 1 rfl) rfl rfl
                refine g_goto 42 (gd rfl) rfl ?_
                exact gg_w (by first | exact Nat.le_add_right _ _ | exact gw2 | exact gw3 | exact gwe rfl | exact gwf rfl | exact gwg rfl | exact gwh rfl | omega) (gg_f (gf_cons rfl (gf_cons rfl (gf_cons rfl (gf_cons rfl gf_nil)))) (ih42 s134 y42_2 z164 hI134 (fr_tr rfl hFc42 hF134) (in_w 0 10 i71 rfl) (in_w 0 60 i164 rfl) (m_up mm42 (t_add e164 i47 (in_c 1 rfl) rfl) (in_w 1 1 (in_c 1 rfl) rfl))))
              · skip
                have i144 := r_lt1 1 59 c144 i139 i47a rfl
                have i144a := r_lt2 2 60 c144 i139 i47a rfl
                refine g_aload_n 148 (gd rfl) rfl rfl ?_
                refine g_aload_n 149 (gd rfl) rfl rfl ?_
                refine g_getA (q2 := 47) 152 (gd rfl) rfl rfl rfl rfl ?_
                refine g_iload_n 153 (gd rfl) rfl rfl ?_
                refine g_iconst 1 154 (gd rfl) rfl rfl ?_
                refine g_iadd 155 (gd rfl) rfl (fun z154 e154 => ?_)
                have i154 := in_add 1 60 e154 i47 (in_c 1 rfl) rfl rfl
                refine g_caload 156 (gd rfl) rfl (n := 1000) rfl (in_ix i154 rfl) (fun z155 e155 => ?_)
                have i155 := inv_I hI134 (n := 1000) (t := 2) 0 65535 rfl (in_ix i154 rfl) rfl e155
                refine g_iload 158 (gd rfl) rfl rfl ?_
                refine g_iload_n 159 (gd rfl) rfl rfl ?_
                refine g_iconst 1 160 (gd rfl) rfl rfl ?_
                refine g_iadd 161 (gd rfl) rfl (fun z160 e160 => ?_)
                have i160 := in_add 1 60 e160 i47 (in_c 1 rfl) rfl rfl
                refine g_callv (X := _) (As := [.int z155, .int y42_3, .int z160]) (r := []) (b := A 94) (q := 94) 164 (gd rfl) rfl rfl rfl rfl rfl (ww_o rfl) (Nat.le_of_ble_eq_true rfl) (mc := 0) (ms := 0) (Nat.zero_le _) (Nat.zero_le _) (P := fun v u => _) ?_ (fun e u h => h) (fun v u h => h)
                intro po161 xx161 hp161 hx161
                refine g_enter2 (k := 161) (N := 300) (by first | exact dq1 hd rfl | exact dq0 hd rfl | exact dq2 hd rfl | exact dq3 hd rfl | omega) rfl (Nat.le_of_ble_eq_true rfl) ?_
                refine g_iload_n 1 (gd rfl) rfl rfl ?_
                refine g_bipush 42 3 (gd rfl) rfl rfl ?_
                refine g_cmp_eq 6 12 (gd rfl) rfl rfl (fun c161x3 => ?_) (fun c161x3 => ?_)
                · skip
                  have i161x3 := r_eq1 42 42 c161x3 i155 (in_c 42 rfl) rfl
                  refine g_aload_n 13 (gd rfl) rfl rfl ?_
                  refine g_getA (q2 := 95) 16 (gd rfl) rfl rfl rfl rfl ?_
                  refine g_iload_n 17 (gd rfl) rfl rfl ?_
                  refine g_dup2 18 (gd rfl) rfl rfl rfl ?_
                  refine g_laload 19 (gd rfl) rfl (n := 61) rfl (in_ix i160 rfl) (fun z161x18 e161x18 => ?_)
                  have i161x18 := inv_L hI134 (n := 61) 0 2305843009213693951 rfl (in_ix i160 rfl) rfl e161x18
                  refine g_lconst 1 20 (gd rfl) rfl rfl ?_
                  refine g_iload_n 21 (gd rfl) rfl rfl ?_
                  refine g_lshl 22 (gd rfl) rfl (fun z161x21 e161x21 => ?_)
                  have i161x21 := l_shl 59 e161x21 i47 rfl
                  refine g_lor 23 (gd rfl) rfl (fun z161x22 e161x22 => ?_)
                  have i161x22 := inl_or 61 e161x22 (lw 0 2305843009213693951 i161x18 rfl) (lw 0 2305843009213693951 i161x21 rfl) rfl
                  refine g_lastore 24 (gd rfl) rfl (n := 61) rfl (in_ix i160 rfl) ?_
                  have hI161x23 := inv_sL (q := 95) (j := z160.toNatClampNeg) (x := z161x22) hI134 rfl (lw 0 2305843009213693951 i161x22 rfl)
                  refine g_iload_n 25 (gd rfl) rfl rfl ?_
                  refine g_bipush 42 27 (gd rfl) rfl rfl ?_
                  refine g_cmp_eq 30 36 (gd rfl) rfl rfl (fun c161x27 => ?_) (fun c161x27 => ?_)
                  · skip
                    refine g_aload_n 37 (gd rfl) rfl rfl ?_
                    refine g_getA (q2 := 95) 40 (gd rfl) rfl rfl rfl rfl ?_
                    refine g_iload_n 41 (gd rfl) rfl rfl ?_
                    refine g_dup2 42 (gd rfl) rfl rfl rfl ?_
                    refine g_laload 43 (gd rfl) rfl (n := 61) rfl (in_ix i47 rfl) (fun z161x42 e161x42 => ?_)
                    have i161x42 := inv_L hI161x23 (n := 61) 0 2305843009213693951 rfl (in_ix i47 rfl) rfl e161x42
                    refine g_lconst 1 44 (gd rfl) rfl rfl ?_
                    refine g_iload_n 45 (gd rfl) rfl rfl ?_
                    refine g_lshl 46 (gd rfl) rfl (fun z161x45 e161x45 => ?_)
                    have i161x45 := l_shl 60 e161x45 i160 rfl
                    refine g_lor 47 (gd rfl) rfl (fun z161x46 e161x46 => ?_)
                    have i161x46 := inl_or 61 e161x46 (lw 0 2305843009213693951 i161x42 rfl) (lw 0 2305843009213693951 i161x45 rfl) rfl
                    refine g_lastore 48 (gd rfl) rfl (n := 61) rfl (in_ix i47 rfl) ?_
                    have hI161x47 := inv_sL (q := 95) (j := y42_3.toNatClampNeg) (x := z161x46) hI161x23 rfl (lw 0 2305843009213693951 i161x46 rfl)
                    refine g_return (gd rfl) rfl (hp161 _ _ ?_)
                    show GG _ _ _ _ _ _ _ _ [] _ _ _
                    refine g_iinc 167 (gd rfl) rfl rfl (Nat.le_of_ble_eq_true rfl) (fun z164 e164 => ?_)
                    have i164 := in_add 1 60 e164 i47 (in_c 1 rfl) rfl rfl
                    refine g_goto 42 (gd rfl) rfl ?_
                    exact gg_w (by first | exact Nat.le_add_right _ _ | exact gw2 | exact gw3 | exact gwe rfl | exact gwf rfl | exact gwg rfl | exact gwh rfl | omega) (gg_f (gf_cons rfl (gf_cons rfl (gf_cons rfl (gf_cons rfl gf_nil)))) (ih42 (sL (sL s134 95 z160.toNatClampNeg z161x22) 95 y42_3.toNatClampNeg z161x46) y42_2 z164 hI161x47 (fr_sL rfl (fr_sL rfl (fr_tr rfl hFc42 hF134))) (in_w 0 10 i71 rfl) (in_w 0 60 i164 rfl) (m_up mm42 (t_add e164 i47 (in_c 1 rfl) rfl) (in_w 1 1 (in_c 1 rfl) rfl))))
                  · skip
                    exact n_ne c161x27 i161x3 (in_c 42 rfl) rfl
                · skip
                  refine g_iload_n 7 (gd rfl) rfl rfl ?_
                  refine g_bipush 43 9 (gd rfl) rfl rfl ?_
                  refine g_cmp_ne 12 24 (gd rfl) rfl rfl (fun c161x9 => ?_) (fun c161x9 => ?_)
                  · skip
                    refine g_iload_n 25 (gd rfl) rfl rfl ?_
                    refine g_bipush 42 27 (gd rfl) rfl rfl ?_
                    refine g_cmp_eq 30 36 (gd rfl) rfl rfl (fun c161x27 => ?_) (fun c161x27 => ?_)
                    · skip
                      exact absurd c161x27 c161x3
                    · skip
                      refine g_iload_n 31 (gd rfl) rfl rfl ?_
                      refine g_bipush 63 33 (gd rfl) rfl rfl ?_
                      refine g_cmp_ne 36 48 (gd rfl) rfl rfl (fun c161x33 => ?_) (fun c161x33 => ?_)
                      · skip
                        refine g_return (gd rfl) rfl (hp161 _ _ ?_)
                        show GG _ _ _ _ _ _ _ _ [] _ _ _
                        refine g_iinc 167 (gd rfl) rfl rfl (Nat.le_of_ble_eq_true rfl) (fun z164 e164 => ?_)
                        have i164 := in_add 1 60 e164 i47 (in_c 1 rfl) rfl rfl
                        refine g_goto 42 (gd rfl) rfl ?_
                        exact gg_w (by first | exact Nat.le_add_right _ _ | exact gw2 | exact gw3 | exact gwe rfl | exact gwf rfl | exact gwg rfl | exact gwh rfl | omega) (gg_f (gf_cons rfl (gf_cons rfl (gf_cons rfl (gf_cons rfl gf_nil)))) (ih42 s134 y42_2 z164 hI134 (fr_tr rfl hFc42 hF134) (in_w 0 10 i71 rfl) (in_w 0 60 i164 rfl) (m_up mm42 (t_add e164 i47 (in_c 1 rfl) rfl) (in_w 1 1 (in_c 1 rfl) rfl))))
                      · skip
                        have i161x33 := r_eq1 63 63 c161x33 i155 (in_c 63 rfl) rfl
                        refine g_aload_n 37 (gd rfl) rfl rfl ?_
                        refine g_getA (q2 := 95) 40 (gd rfl) rfl rfl rfl rfl ?_
                        refine g_iload_n 41 (gd rfl) rfl rfl ?_
                        refine g_dup2 42 (gd rfl) rfl rfl rfl ?_
                        refine g_laload 43 (gd rfl) rfl (n := 61) rfl (in_ix i47 rfl) (fun z161x42 e161x42 => ?_)
                        have i161x42 := inv_L hI134 (n := 61) 0 2305843009213693951 rfl (in_ix i47 rfl) rfl e161x42
                        refine g_lconst 1 44 (gd rfl) rfl rfl ?_
                        refine g_iload_n 45 (gd rfl) rfl rfl ?_
                        refine g_lshl 46 (gd rfl) rfl (fun z161x45 e161x45 => ?_)
                        have i161x45 := l_shl 60 e161x45 i160 rfl
                        refine g_lor 47 (gd rfl) rfl (fun z161x46 e161x46 => ?_)
                        have i161x46 := inl_or 61 e161x46 (lw 0 2305843009213693951 i161x42 rfl) (lw 0 2305843009213693951 i161x45 rfl) rfl
                        refine g_lastore 48 (gd rfl) rfl (n := 61) rfl (in_ix i47 rfl) ?_
                        have hI161x47 := inv_sL (q := 95) (j := y42_3.toNatClampNeg) (x := z161x46) hI134 rfl (lw 0 2305843009213693951 i161x46 rfl)
                        refine g_return (gd rfl) rfl (hp161 _ _ ?_)
                        show GG _ _ _ _ _ _ _ _ [] _ _ _
                        refine g_iinc 167 (gd rfl) rfl rfl (Nat.le_of_ble_eq_true rfl) (fun z164 e164 => ?_)
                        have i164 := in_add 1 60 e164 i47 (in_c 1 rfl) rfl rfl
                        refine g_goto 42 (gd rfl) rfl ?_
                        exact gg_w (by first | exact Nat.le_add_right _ _ | exact gw2 | exact gw3 | exact gwe rfl | exact gwf rfl | exact gwg rfl | exact gwh rfl | omega) (gg_f (gf_cons rfl (gf_cons rfl (gf_cons rfl (gf_cons rfl gf_nil)))) (ih42 (sL s134 95 y42_3.toNatClampNeg z161x46) y42_2 z164 hI161x47 (fr_sL rfl (fr_tr rfl hFc42 hF134)) (in_w 0 10 i71 rfl) (in_w 0 60 i164 rfl) (m_up mm42 (t_add e164 i47 (in_c 1 rfl) rfl) (in_w 1 1 (in_c 1 rfl) rfl))))
                  · skip
                    have i161x9 := r_eq1 43 43 c161x9 i155 (in_c 43 rfl) rfl
                    refine g_aload_n 13 (gd rfl) rfl rfl ?_
                    refine g_getA (q2 := 95) 16 (gd rfl) rfl rfl rfl rfl ?_
                    refine g_iload_n 17 (gd rfl) rfl rfl ?_
                    refine g_dup2 18 (gd rfl) rfl rfl rfl ?_
                    refine g_laload 19 (gd rfl) rfl (n := 61) rfl (in_ix i160 rfl) (fun z161x18 e161x18 => ?_)
                    have i161x18 := inv_L hI134 (n := 61) 0 2305843009213693951 rfl (in_ix i160 rfl) rfl e161x18
                    refine g_lconst 1 20 (gd rfl) rfl rfl ?_
                    refine g_iload_n 21 (gd rfl) rfl rfl ?_
                    refine g_lshl 22 (gd rfl) rfl (fun z161x21 e161x21 => ?_)
                    have i161x21 := l_shl 59 e161x21 i47 rfl
                    refine g_lor 23 (gd rfl) rfl (fun z161x22 e161x22 => ?_)
                    have i161x22 := inl_or 61 e161x22 (lw 0 2305843009213693951 i161x18 rfl) (lw 0 2305843009213693951 i161x21 rfl) rfl
                    refine g_lastore 24 (gd rfl) rfl (n := 61) rfl (in_ix i160 rfl) ?_
                    have hI161x23 := inv_sL (q := 95) (j := z160.toNatClampNeg) (x := z161x22) hI134 rfl (lw 0 2305843009213693951 i161x22 rfl)
                    refine g_iload_n 25 (gd rfl) rfl rfl ?_
                    refine g_bipush 42 27 (gd rfl) rfl rfl ?_
                    refine g_cmp_eq 30 36 (gd rfl) rfl rfl (fun c161x27 => ?_) (fun c161x27 => ?_)
                    · skip
                      exact absurd c161x27 c161x3
                    · skip
                      refine g_iload_n 31 (gd rfl) rfl rfl ?_
                      refine g_bipush 63 33 (gd rfl) rfl rfl ?_
                      refine g_cmp_ne 36 48 (gd rfl) rfl rfl (fun c161x33 => ?_) (fun c161x33 => ?_)
                      · skip
                        refine g_return (gd rfl) rfl (hp161 _ _ ?_)
                        show GG _ _ _ _ _ _ _ _ [] _ _ _
                        refine g_iinc 167 (gd rfl) rfl rfl (Nat.le_of_ble_eq_true rfl) (fun z164 e164 => ?_)
                        have i164 := in_add 1 60 e164 i47 (in_c 1 rfl) rfl rfl
                        refine g_goto 42 (gd rfl) rfl ?_
                        exact gg_w (by first | exact Nat.le_add_right _ _ | exact gw2 | exact gw3 | exact gwe rfl | exact gwf rfl | exact gwg rfl | exact gwh rfl | omega) (gg_f (gf_cons rfl (gf_cons rfl (gf_cons rfl (gf_cons rfl gf_nil)))) (ih42 (sL s134 95 z160.toNatClampNeg z161x22) y42_2 z164 hI161x23 (fr_sL rfl (fr_tr rfl hFc42 hF134)) (in_w 0 10 i71 rfl) (in_w 0 60 i164 rfl) (m_up mm42 (t_add e164 i47 (in_c 1 rfl) rfl) (in_w 1 1 (in_c 1 rfl) rfl))))
                      · skip
                        exact n_eq c161x33 i161x9 (in_c 63 rfl) rfl
            · skip
              exact n_eq c98 i65 (in_c 41 rfl) rfl
          · skip
            have i71 := r_lt1 0 9 c71 j42_2 (in_c 10 rfl) rfl
            refine g_iinc 77 (gd rfl) rfl rfl (Nat.le_of_ble_eq_true rfl) (fun z74 e74 => ?_)
            have i74 := in_add 1 10 e74 i71 (in_c 1 rfl) rfl rfl
            refine g_aload_n 78 (gd rfl) rfl rfl ?_
            refine g_getA (q2 := 97) 81 (gd rfl) rfl rfl rfl rfl ?_
            refine g_iload_n 82 (gd rfl) rfl rfl ?_
            refine g_iload_n 83 (gd rfl) rfl rfl ?_
            refine g_iastore 84 (gd rfl) rfl (n := 11) rfl (in_ix i74 rfl) ?_
            have hI83 := inv_sI (q := 97) (j := z74.toNatClampNeg) hIc42 rfl (in_w 0 60 i47 rfl)
            refine g_aload_n 85 (gd rfl) rfl rfl ?_
            refine g_getA (q2 := 98) 88 (gd rfl) rfl rfl rfl rfl ?_
            refine g_iload_n 89 (gd rfl) rfl rfl ?_
            refine g_lconst 0 90 (gd rfl) rfl rfl ?_
            refine g_lastore 91 (gd rfl) rfl (n := 11) rfl (in_ix i74 rfl) ?_
            have hI90 := inv_sL (q := 98) (j := z74.toNatClampNeg) (x := (Int64.ofInt 0)) hI83 rfl (lw 0 1152921504606846975 (l_c 0 rfl) rfl)
            refine g_goto 129 (gd rfl) rfl ?_
            refine g_aload_n 130 (gd rfl) rfl rfl ?_
            refine g_iload 132 (gd rfl) rfl rfl ?_
            refine g_iload_n 133 (gd rfl) rfl rfl ?_
            refine g_iload_n 134 (gd rfl) rfl rfl ?_
            refine g_callv (X := _) (As := [.int z55, .int y42_3, .int z74]) (r := []) (b := A 94) (q := 94) 137 (gd rfl) rfl rfl rfl rfl rfl (ww_o rfl) (Nat.le_of_ble_eq_true rfl) (Nat.zero_le _) (Nat.zero_le _) (k_160_94 (by first | exact dq1 hd rfl | exact dq0 hd rfl | exact dq2 hd rfl | exact dq3 hd rfl | omega) hI90 (in_w 0 65535 i65 rfl) (in_w 0 59 i47 rfl) (in_w 0 10 i74 rfl)) (fun e u h => h) (fun v u h => ?_)
            obtain ⟨s134, hI134, hF134, rfl, rfl⟩ := h
            show GG _ _ _ _ _ _ _ _ [] _ _ _
            refine g_iload_n 138 (gd rfl) rfl rfl ?_
            refine g_iconst 1 139 (gd rfl) rfl rfl ?_
            refine g_iadd 140 (gd rfl) rfl (fun z139 e139 => ?_)
            have i139 := in_add 1 60 e139 i47 (in_c 1 rfl) rfl rfl
            refine g_aload_n 141 (gd rfl) rfl rfl ?_
            refine g_getI 144 (gd rfl) rfl rfl rfl (fun z141 e141 => ?_)
            have q141 : u_46_1 = z141 := (fr_F (s := (sL (sI sc42 97 z74.toNatClampNeg y42_3) 98 z74.toNatClampNeg (Int64.ofInt 0))) (sL_F (sI_F (fr_F e_46_1 hFc42 rfl))) hF134 rfl).trans e141.symm
            subst q141
            refine g_cmp_ge 147 164 (gd rfl) rfl rfl (fun c144 => ?_) (fun c144 => ?_)
            · skip
              refine g_iinc 167 (gd rfl) rfl rfl (Nat.le_of_ble_eq_true rfl) (fun z164 e164 => ?_)
              have i164 := in_add 1 60 e164 i47 (in_c 1 rfl) rfl rfl
              refine g_goto 42 (gd rfl) rfl ?_
              exact gg_w (by first | exact Nat.le_add_right _ _ | exact gw2 | exact gw3 | exact gwe rfl | exact gwf rfl | exact gwg rfl | exact gwh rfl | omega) (gg_f (gf_cons rfl (gf_cons rfl (gf_cons rfl (gf_cons rfl gf_nil)))) (ih42 s134 z74 z164 hI134 (fr_tr rfl (fr_sL rfl (fr_sI rfl hFc42)) hF134) (in_w 0 10 i74 rfl) (in_w 0 60 i164 rfl) (m_up mm42 (t_add e164 i47 (in_c 1 rfl) rfl) (in_w 1 1 (in_c 1 rfl) rfl))))
            · skip
              have i144 := r_lt1 1 59 c144 i139 i47a rfl
              have i144a := r_lt2 2 60 c144 i139 i47a rfl
              refine g_aload_n 148 (gd rfl) rfl rfl ?_
              refine g_aload_n 149 (gd rfl) rfl rfl ?_
              refine g_getA (q2 := 47) 152 (gd rfl) rfl rfl rfl rfl ?_
              refine g_iload_n 153 (gd rfl) rfl rfl ?_
              refine g_iconst 1 154 (gd rfl) rfl rfl ?_
              refine g_iadd 155 (gd rfl) rfl (fun z154 e154 => ?_)
              have i154 := in_add 1 60 e154 i47 (in_c 1 rfl) rfl rfl
              refine g_caload 156 (gd rfl) rfl (n := 1000) rfl (in_ix i154 rfl) (fun z155 e155 => ?_)
              have i155 := inv_I hI134 (n := 1000) (t := 2) 0 65535 rfl (in_ix i154 rfl) rfl e155
              refine g_iload 158 (gd rfl) rfl rfl ?_
              refine g_iload_n 159 (gd rfl) rfl rfl ?_
              refine g_iconst 1 160 (gd rfl) rfl rfl ?_
              refine g_iadd 161 (gd rfl) rfl (fun z160 e160 => ?_)
              have i160 := in_add 1 60 e160 i47 (in_c 1 rfl) rfl rfl
              refine g_callv (X := _) (As := [.int z155, .int y42_3, .int z160]) (r := []) (b := A 94) (q := 94) 164 (gd rfl) rfl rfl rfl rfl rfl (ww_o rfl) (Nat.le_of_ble_eq_true rfl) (mc := 0) (ms := 0) (Nat.zero_le _) (Nat.zero_le _) (P := fun v u => _) ?_ (fun e u h => h) (fun v u h => h)
              intro po161 xx161 hp161 hx161
              refine g_enter2 (k := 161) (N := 300) (by first | exact dq1 hd rfl | exact dq0 hd rfl | exact dq2 hd rfl | exact dq3 hd rfl | omega) rfl (Nat.le_of_ble_eq_true rfl) ?_
              refine g_iload_n 1 (gd rfl) rfl rfl ?_
              refine g_bipush 42 3 (gd rfl) rfl rfl ?_
              refine g_cmp_eq 6 12 (gd rfl) rfl rfl (fun c161x3 => ?_) (fun c161x3 => ?_)
              · skip
                have i161x3 := r_eq1 42 42 c161x3 i155 (in_c 42 rfl) rfl
                refine g_aload_n 13 (gd rfl) rfl rfl ?_
                refine g_getA (q2 := 95) 16 (gd rfl) rfl rfl rfl rfl ?_
                refine g_iload_n 17 (gd rfl) rfl rfl ?_
                refine g_dup2 18 (gd rfl) rfl rfl rfl ?_
                refine g_laload 19 (gd rfl) rfl (n := 61) rfl (in_ix i160 rfl) (fun z161x18 e161x18 => ?_)
                have i161x18 := inv_L hI134 (n := 61) 0 2305843009213693951 rfl (in_ix i160 rfl) rfl e161x18
                refine g_lconst 1 20 (gd rfl) rfl rfl ?_
                refine g_iload_n 21 (gd rfl) rfl rfl ?_
                refine g_lshl 22 (gd rfl) rfl (fun z161x21 e161x21 => ?_)
                have i161x21 := l_shl 59 e161x21 i47 rfl
                refine g_lor 23 (gd rfl) rfl (fun z161x22 e161x22 => ?_)
                have i161x22 := inl_or 61 e161x22 (lw 0 2305843009213693951 i161x18 rfl) (lw 0 2305843009213693951 i161x21 rfl) rfl
                refine g_lastore 24 (gd rfl) rfl (n := 61) rfl (in_ix i160 rfl) ?_
                have hI161x23 := inv_sL (q := 95) (j := z160.toNatClampNeg) (x := z161x22) hI134 rfl (lw 0 2305843009213693951 i161x22 rfl)
                refine g_iload_n 25 (gd rfl) rfl rfl ?_
                refine g_bipush 42 27 (gd rfl) rfl rfl ?_
                refine g_cmp_eq 30 36 (gd rfl) rfl rfl (fun c161x27 => ?_) (fun c161x27 => ?_)
                · skip
                  refine g_aload_n 37 (gd rfl) rfl rfl ?_
                  refine g_getA (q2 := 95) 40 (gd rfl) rfl rfl rfl rfl ?_
                  refine g_iload_n 41 (gd rfl) rfl rfl ?_
                  refine g_dup2 42 (gd rfl) rfl rfl rfl ?_
                  refine g_laload 43 (gd rfl) rfl (n := 61) rfl (in_ix i47 rfl) (fun z161x42 e161x42 => ?_)
                  have i161x42 := inv_L hI161x23 (n := 61) 0 2305843009213693951 rfl (in_ix i47 rfl) rfl e161x42
                  refine g_lconst 1 44 (gd rfl) rfl rfl ?_
                  refine g_iload_n 45 (gd rfl) rfl rfl ?_
                  refine g_lshl 46 (gd rfl) rfl (fun z161x45 e161x45 => ?_)
                  have i161x45 := l_shl 60 e161x45 i160 rfl
                  refine g_lor 47 (gd rfl) rfl (fun z161x46 e161x46 => ?_)
                  have i161x46 := inl_or 61 e161x46 (lw 0 2305843009213693951 i161x42 rfl) (lw 0 2305843009213693951 i161x45 rfl) rfl
                  refine g_lastore 48 (gd rfl) rfl (n := 61) rfl (in_ix i47 rfl) ?_
                  have hI161x47 := inv_sL (q := 95) (j := y42_3.toNatClampNeg) (x := z161x46) hI161x23 rfl (lw 0 2305843009213693951 i161x46 rfl)
                  refine g_return (gd rfl) rfl (hp161 _ _ ?_)
                  show GG _ _ _ _ _ _ _ _ [] _ _ _
                  refine g_iinc 167 (gd rfl) rfl rfl (Nat.le_of_ble_eq_true rfl) (fun z164 e164 => ?_)
                  have i164 := in_add 1 60 e164 i47 (in_c 1 rfl) rfl rfl
                  refine g_goto 42 (gd rfl) rfl ?_
                  exact gg_w (by first | exact Nat.le_add_right _ _ | exact gw2 | exact gw3 | exact gwe rfl | exact gwf rfl | exact gwg rfl | exact gwh rfl | omega) (gg_f (gf_cons rfl (gf_cons rfl (gf_cons rfl (gf_cons rfl gf_nil)))) (ih42 (sL (sL s134 95 z160.toNatClampNeg z161x22) 95 y42_3.toNatClampNeg z161x46) z74 z164 hI161x47 (fr_sL rfl (fr_sL rfl (fr_tr rfl (fr_sL rfl (fr_sI rfl hFc42)) hF134))) (in_w 0 10 i74 rfl) (in_w 0 60 i164 rfl) (m_up mm42 (t_add e164 i47 (in_c 1 rfl) rfl) (in_w 1 1 (in_c 1 rfl) rfl))))
                · skip
                  exact n_ne c161x27 i161x3 (in_c 42 rfl) rfl
              · skip
                refine g_iload_n 7 (gd rfl) rfl rfl ?_
                refine g_bipush 43 9 (gd rfl) rfl rfl ?_
                refine g_cmp_ne 12 24 (gd rfl) rfl rfl (fun c161x9 => ?_) (fun c161x9 => ?_)
                · skip
                  refine g_iload_n 25 (gd rfl) rfl rfl ?_
                  refine g_bipush 42 27 (gd rfl) rfl rfl ?_
                  refine g_cmp_eq 30 36 (gd rfl) rfl rfl (fun c161x27 => ?_) (fun c161x27 => ?_)
                  · skip
                    exact absurd c161x27 c161x3
                  · skip
                    refine g_iload_n 31 (gd rfl) rfl rfl ?_
                    refine g_bipush 63 33 (gd rfl) rfl rfl ?_
                    refine g_cmp_ne 36 48 (gd rfl) rfl rfl (fun c161x33 => ?_) (fun c161x33 => ?_)
                    · skip
                      refine g_return (gd rfl) rfl (hp161 _ _ ?_)
                      show GG _ _ _ _ _ _ _ _ [] _ _ _
                      refine g_iinc 167 (gd rfl) rfl rfl (Nat.le_of_ble_eq_true rfl) (fun z164 e164 => ?_)
                      have i164 := in_add 1 60 e164 i47 (in_c 1 rfl) rfl rfl
                      refine g_goto 42 (gd rfl) rfl ?_
                      exact gg_w (by first | exact Nat.le_add_right _ _ | exact gw2 | exact gw3 | exact gwe rfl | exact gwf rfl | exact gwg rfl | exact gwh rfl | omega) (gg_f (gf_cons rfl (gf_cons rfl (gf_cons rfl (gf_cons rfl gf_nil)))) (ih42 s134 z74 z164 hI134 (fr_tr rfl (fr_sL rfl (fr_sI rfl hFc42)) hF134) (in_w 0 10 i74 rfl) (in_w 0 60 i164 rfl) (m_up mm42 (t_add e164 i47 (in_c 1 rfl) rfl) (in_w 1 1 (in_c 1 rfl) rfl))))
                    · skip
                      have i161x33 := r_eq1 63 63 c161x33 i155 (in_c 63 rfl) rfl
                      refine g_aload_n 37 (gd rfl) rfl rfl ?_
                      refine g_getA (q2 := 95) 40 (gd rfl) rfl rfl rfl rfl ?_
                      refine g_iload_n 41 (gd rfl) rfl rfl ?_
                      refine g_dup2 42 (gd rfl) rfl rfl rfl ?_
                      refine g_laload 43 (gd rfl) rfl (n := 61) rfl (in_ix i47 rfl) (fun z161x42 e161x42 => ?_)
                      have i161x42 := inv_L hI134 (n := 61) 0 2305843009213693951 rfl (in_ix i47 rfl) rfl e161x42
                      refine g_lconst 1 44 (gd rfl) rfl rfl ?_
                      refine g_iload_n 45 (gd rfl) rfl rfl ?_
                      refine g_lshl 46 (gd rfl) rfl (fun z161x45 e161x45 => ?_)
                      have i161x45 := l_shl 60 e161x45 i160 rfl
                      refine g_lor 47 (gd rfl) rfl (fun z161x46 e161x46 => ?_)
                      have i161x46 := inl_or 61 e161x46 (lw 0 2305843009213693951 i161x42 rfl) (lw 0 2305843009213693951 i161x45 rfl) rfl
                      refine g_lastore 48 (gd rfl) rfl (n := 61) rfl (in_ix i47 rfl) ?_
                      have hI161x47 := inv_sL (q := 95) (j := y42_3.toNatClampNeg) (x := z161x46) hI134 rfl (lw 0 2305843009213693951 i161x46 rfl)
                      refine g_return (gd rfl) rfl (hp161 _ _ ?_)
                      show GG _ _ _ _ _ _ _ _ [] _ _ _
                      refine g_iinc 167 (gd rfl) rfl rfl (Nat.le_of_ble_eq_true rfl) (fun z164 e164 => ?_)
                      have i164 := in_add 1 60 e164 i47 (in_c 1 rfl) rfl rfl
                      refine g_goto 42 (gd rfl) rfl ?_
                      exact gg_w (by first | exact Nat.le_add_right _ _ | exact gw2 | exact gw3 | exact gwe rfl | exact gwf rfl | exact gwg rfl | exact gwh rfl | omega) (gg_f (gf_cons rfl (gf_cons rfl (gf_cons rfl (gf_cons rfl gf_nil)))) (ih42 (sL s134 95 y42_3.toNatClampNeg z161x46) z74 z164 hI161x47 (fr_sL rfl (fr_tr rfl (fr_sL rfl (fr_sI rfl hFc42)) hF134)) (in_w 0 10 i74 rfl) (in_w 0 60 i164 rfl) (m_up mm42 (t_add e164 i47 (in_c 1 rfl) rfl) (in_w 1 1 (in_c 1 rfl) rfl))))
                · skip
                  have i161x9 := r_eq1 43 43 c161x9 i155 (in_c 43 rfl) rfl
                  refine g_aload_n 13 (gd rfl) rfl rfl ?_
                  refine g_getA (q2 := 95) 16 (gd rfl) rfl rfl rfl rfl ?_
                  refine g_iload_n 17 (gd rfl) rfl rfl ?_
                  refine g_dup2 18 (gd rfl) rfl rfl rfl ?_
                  refine g_laload 19 (gd rfl) rfl (n := 61) rfl (in_ix i160 rfl) (fun z161x18 e161x18 => ?_)
                  have i161x18 := inv_L hI134 (n := 61) 0 2305843009213693951 rfl (in_ix i160 rfl) rfl e161x18
                  refine g_lconst 1 20 (gd rfl) rfl rfl ?_
                  refine g_iload_n 21 (gd rfl) rfl rfl ?_
                  refine g_lshl 22 (gd rfl) rfl (fun z161x21 e161x21 => ?_)
                  have i161x21 := l_shl 59 e161x21 i47 rfl
                  refine g_lor 23 (gd rfl) rfl (fun z161x22 e161x22 => ?_)
                  have i161x22 := inl_or 61 e161x22 (lw 0 2305843009213693951 i161x18 rfl) (lw 0 2305843009213693951 i161x21 rfl) rfl
                  refine g_lastore 24 (gd rfl) rfl (n := 61) rfl (in_ix i160 rfl) ?_
                  have hI161x23 := inv_sL (q := 95) (j := z160.toNatClampNeg) (x := z161x22) hI134 rfl (lw 0 2305843009213693951 i161x22 rfl)
                  refine g_iload_n 25 (gd rfl) rfl rfl ?_
                  refine g_bipush 42 27 (gd rfl) rfl rfl ?_
                  refine g_cmp_eq 30 36 (gd rfl) rfl rfl (fun c161x27 => ?_) (fun c161x27 => ?_)
                  · skip
                    exact absurd c161x27 c161x3
                  · skip
                    refine g_iload_n 31 (gd rfl) rfl rfl ?_
                    refine g_bipush 63 33 (gd rfl) rfl rfl ?_
                    refine g_cmp_ne 36 48 (gd rfl) rfl rfl (fun c161x33 => ?_) (fun c161x33 => ?_)
                    · skip
                      refine g_return (gd rfl) rfl (hp161 _ _ ?_)
                      show GG _ _ _ _ _ _ _ _ [] _ _ _
                      refine g_iinc 167 (gd rfl) rfl rfl (Nat.le_of_ble_eq_true rfl) (fun z164 e164 => ?_)
                      have i164 := in_add 1 60 e164 i47 (in_c 1 rfl) rfl rfl
                      refine g_goto 42 (gd rfl) rfl ?_
                      exact gg_w (by first | exact Nat.le_add_right _ _ | exact gw2 | exact gw3 | exact gwe rfl | exact gwf rfl | exact gwg rfl | exact gwh rfl | omega) (gg_f (gf_cons rfl (gf_cons rfl (gf_cons rfl (gf_cons rfl gf_nil)))) (ih42 (sL s134 95 z160.toNatClampNeg z161x22) z74 z164 hI161x23 (fr_sL rfl (fr_tr rfl (fr_sL rfl (fr_sI rfl hFc42)) hF134)) (in_w 0 10 i74 rfl) (in_w 0 60 i164 rfl) (m_up mm42 (t_add e164 i47 (in_c 1 rfl) rfl) (in_w 1 1 (in_c 1 rfl) rfl))))
                    · skip
                      exact n_eq c161x33 i161x9 (in_c 63 rfl) rfl
  refine g_enter2 (k := 158) (N := 55801) (by first | exact dq1 hd rfl | exact dq0 hd rfl | exact dq2 hd rfl | exact dq3 hd rfl | omega) rfl (Nat.le_of_ble_eq_true rfl) ?_
  refine g_aload_n 1 (gd rfl) rfl rfl ?_
  refine g_getA (q2 := 95) 4 (gd rfl) rfl rfl rfl rfl ?_
  refine g_lconst 0 5 (gd rfl) rfl rfl ?_
  refine g_calls (As := [.ref (A 95), .long (Int64.ofInt 0)]) (r := []) 8 (gd rfl) rfl rfl rfl rfl rfl (Nat.le_of_ble_eq_true rfl) (Nat.zero_le _) (Nat.zero_le _) (k_fillL 95 (by first | exact dq1 hd rfl | exact dq0 hd rfl | exact dq2 hd rfl | exact dq3 hd rfl | omega) hI (n := 61) rfl rfl rfl (lw 0 2305843009213693951 (l_c 0 rfl) rfl)) (fun v u h => ?_)
  obtain ⟨s5, hI5, hF5, rfl, rfl, fl5⟩ := h
  show GG _ _ _ _ _ _ _ _ [] _ _ _
  refine g_aload_n 9 (gd rfl) rfl rfl ?_
  refine g_getA (q2 := 96) 12 (gd rfl) rfl rfl rfl rfl ?_
  refine g_lconst 0 13 (gd rfl) rfl rfl ?_
  refine g_calls (As := [.ref (A 96), .long (Int64.ofInt 0)]) (r := []) 16 (gd rfl) rfl rfl rfl rfl rfl (Nat.le_of_ble_eq_true rfl) (Nat.zero_le _) (Nat.zero_le _) (k_fillL 96 (by first | exact dq1 hd rfl | exact dq0 hd rfl | exact dq2 hd rfl | exact dq3 hd rfl | omega) hI5 (n := 26) rfl rfl rfl (lw 0 1152921504606846975 (l_c 0 rfl) rfl)) (fun v u h => ?_)
  obtain ⟨s13, hI13, hF13, rfl, rfl, fl13⟩ := h
  show GG _ _ _ _ _ _ _ _ [] _ _ _
  refine g_aload_n 17 (gd rfl) rfl rfl ?_
  refine g_lconst 1 18 (gd rfl) rfl rfl ?_
  refine g_putL 21 (gd rfl) rfl rfl rfl rfl ?_
  have hI18 := inv_sG (q := 94) (j := 0) (x := (Int64.ofInt 1)) hI13 rfl (lw 0 2305843009213693951 (l_c 1 rfl) rfl)
  refine g_aload_n 22 (gd rfl) rfl rfl ?_
  refine g_lconst 1 23 (gd rfl) rfl rfl ?_
  refine g_aload_n 24 (gd rfl) rfl rfl ?_
  refine g_getI 27 (gd rfl) rfl rfl rfl (fun z24 e24 => ?_)
  have q24 : u_46_1 = z24 := (sG_F (fr_F (fr_F (e_46_1) hF5 rfl) hF13 rfl)).trans e24.symm
  subst q24
  refine g_lshl 28 (gd rfl) rfl (fun z27 e27 => ?_)
  have i27 := l_shl 60 e27 r_46_1 rfl
  refine g_putL 31 (gd rfl) rfl rfl rfl rfl ?_
  have hI28 := inv_sG (q := 94) (j := 1) (x := z27) hI18 rfl (lw 0 2305843009213693951 i27 rfl)
  refine g_aload_n 32 (gd rfl) rfl rfl ?_
  refine g_getA (q2 := 98) 35 (gd rfl) rfl rfl rfl rfl ?_
  refine g_iconst 0 36 (gd rfl) rfl rfl ?_
  refine g_lconst 0 37 (gd rfl) rfl rfl ?_
  refine g_lastore 38 (gd rfl) rfl (n := 11) rfl (in_ix (in_c 0 rfl) rfl) ?_
  have hI37 := inv_sL (q := 98) (j := (Int32.ofInt 0).toNatClampNeg) (x := (Int64.ofInt 0)) hI28 rfl (lw 0 1152921504606846975 (l_c 0 rfl) rfl)
  refine g_iconst 0 39 (gd rfl) rfl rfl ?_
  refine g_istore_n 40 (gd rfl) rfl (Nat.le_of_ble_eq_true rfl) ?_
  refine g_iconst 0 41 (gd rfl) rfl rfl ?_
  refine g_istore_n 42 (gd rfl) rfl (Nat.le_of_ble_eq_true rfl) ?_
  exact gg_w (by first | exact Nat.le_of_ble_eq_true rfl | omega) (gg_f (gf_cons rfl (gf_cons rfl (gf_cons rfl (gf_cons rfl gf_nil)))) (ct42 61 (sL (sG (sG s13 94 0 (Int64.ofInt 1)) 94 1 z27) 98 (Int32.ofInt 0).toNatClampNeg (Int64.ofInt 0)) (Int32.ofInt 0) (Int32.ofInt 0) hI37 (fr_sL rfl (fr_sG rfl (fr_sG rfl (fr_tr rfl (fr_tr rfl fr_rf hF5) hF13)))) (in_w 0 10 (in_c 0 rfl) rfl) (in_w 0 60 (in_c 0 rfl) rfl) (m_in 61 (in_w 0 60 (in_c 0 rfl) rfl) rfl)))

def fm_164_94_2 : FM := ([], [99, 100, 101], [], [])
/-- GraphHouse$Question.step -/
theorem k_164_94_2 {Z : AmZ} {A : Nat → Nat} {s : GS} {ex : va_W} {d : Nat} {X : AmX}  (hd : 5 ≤ d) (hI : Inv s)  : GC Z d 164 [.ref (A 94), .ref (A 2)] (WW Z A s ++ ex) 0 0 (fun v u => ∃ t : GS, Inv t ∧ Fr fm_164_94_2 s t ∧ ∃ z : Int32, v = some (.int z) ∧ u = WW Z A t ++ ex ∧ In z 0 1) X := by
  intro post xp hP hX
  obtain ⟨u_2_1, e_2_1⟩ : ∃ w, w = s.2.2.1 2 1 := ⟨_, rfl⟩
  have ro_2_1 := inv_F hI 0 32 rfl e_2_1
  have ct12 : ∀ (k12 : Nat) (sc12 : GS) (y12_2 : Int32) (y12_3 : Int32), Inv sc12 → Fr fm_164_94_2 s sc12 → (In y12_2 0 1) → (In y12_3 0 32) → 32 - (y12_3).toInt < (k12 : Int) → GG Z (d - 1) 164 post (gx xp) (1 + k12 * 147601) 12 (fun j => xlook j [(0, .ref (A 94)), (1, .ref (A 2)), (2, .int y12_2), (3, .int y12_3)]) [] (WW Z A sc12 ++ ex) 0 0 := by
    intro k12
    induction k12 with
    | zero => intro sc12 y12_2 y12_3 hIc12 hFc12 j12_2 j12_3 mm12; exact m_no mm12 j12_3 rfl
    | succ k12 ih12 =>
      intro sc12 y12_2 y12_3 hIc12 hFc12 j12_2 j12_3 mm12
      refine gg_w (M := 1 + k12 * 147601 + 147601) gws ?_
      have ct28 : ∀ (k28 : Nat) (sc28 : GS) (y28_2 : Int32) (y28_4 : Int32), Inv sc28 → Fr fm_164_94_2 s sc28 → (In y28_2 0 1) → (In y12_3 0 31) → (In y28_4 0 160) → 160 - (y28_4).toInt < (k28 : Int) → GG Z (d - 1) 164 post (gx xp) (1 + k12 * 147601 + 1 + k28 * 900) 28 (fun j => xlook j [(0, .ref (A 94)), (1, .ref (A 2)), (2, .int y28_2), (3, .int y12_3), (4, .int y28_4)]) [] (WW Z A sc28 ++ ex) 0 0 := by
        intro k28
        induction k28 with
        | zero => intro sc28 y28_2 y28_4 hIc28 hFc28 j28_2 j28_3 j28_4 mm28; exact m_no mm28 j28_4 rfl
        | succ k28 ih28 =>
          intro sc28 y28_2 y28_4 hIc28 hFc28 j28_2 j28_3 j28_4 mm28
          refine gg_w (M := 1 + k12 * 147601 + 1 + k28 * 900 + 900) gws ?_
          refine g_iload 30 (gd rfl) rfl rfl ?_
          refine g_aload_n 31 (gd rfl) rfl rfl ?_
          refine g_getA (q2 := 12) 34 (gd rfl) rfl rfl rfl rfl ?_
          refine g_iload_n 35 (gd rfl) rfl rfl ?_
          refine g_iconst 1 36 (gd rfl) rfl rfl ?_
          refine g_iadd 37 (gd rfl) rfl (fun z36 e36 => ?_)
          have i36 := in_add 1 32 e36 j28_3 (in_c 1 rfl) rfl rfl
          refine g_iaload 38 (gd rfl) rfl (n := 33) rfl (in_ix i36 rfl) (fun z37 e37 => ?_)
          have i37 := inv_I hIc28 (n := 33) (t := 0) 0 160 rfl (in_ix i36 rfl) rfl e37
          refine g_cmp_ge 41 152 (gd rfl) rfl rfl (fun c38 => ?_) (fun c38 => ?_)
          · skip
            refine g_iinc 155 (gd rfl) rfl rfl (Nat.le_of_ble_eq_true rfl) (fun z152 e152 => ?_)
            have i152 := in_add 1 32 e152 j28_3 (in_c 1 rfl) rfl rfl
            refine g_goto 12 (gd rfl) rfl ?_
            exact gg_w (by first | exact Nat.le_add_right _ _ | exact gw2 | exact gw3 | exact gwe rfl | exact gwf rfl | exact gwg rfl | exact gwh rfl | omega) (gg_f (gf_cons rfl (gf_cons rfl (gf_cons rfl (gf_cons rfl gf_nil)))) (ih12 sc28 y28_2 z152 hIc28 hFc28 (in_w 0 1 j28_2 rfl) (in_w 0 32 i152 rfl) (m_up mm12 (t_add e152 j28_3 (in_c 1 rfl) rfl) (in_w 1 1 (in_c 1 rfl) rfl))))
          · skip
            have i38 := r_lt1 0 159 c38 j28_4 i37 rfl
            have i38a := r_lt2 1 160 c38 j28_4 i37 rfl
            refine g_aload_n 42 (gd rfl) rfl rfl ?_
            refine g_getA (q2 := 99) 45 (gd rfl) rfl rfl rfl rfl ?_
            refine g_iload_n 46 (gd rfl) rfl rfl ?_
            refine g_laload 47 (gd rfl) rfl (n := 32) rfl (in_ix j28_3 rfl) (fun z46 e46 => ?_)
            have i46 := inv_L hIc28 (n := 32) 0 2305843009213693951 rfl (in_ix j28_3 rfl) rfl e46
            refine g_lconst 0 48 (gd rfl) rfl rfl ?_
            refine g_lcmp 49 (gd rfl) rfl (fun z48 e48 => ?_)
            have i48 := lc_in e48
            refine g_if_eq 52 152 (gd rfl) rfl rfl (fun c49 => ?_) (fun c49 => ?_)
            · skip
              have i49 := z_eq 0 0 c49 i48 rfl
              have c49a := lc_eq e48 c49
              have i49a := lr_eq1 0 0 c49a i46 (l_c 0 rfl) rfl
              refine g_iinc 155 (gd rfl) rfl rfl (Nat.le_of_ble_eq_true rfl) (fun z152 e152 => ?_)
              have i152 := in_add 1 32 e152 j28_3 (in_c 1 rfl) rfl rfl
              refine g_goto 12 (gd rfl) rfl ?_
              exact gg_w (by first | exact Nat.le_add_right _ _ | exact gw2 | exact gw3 | exact gwe rfl | exact gwf rfl | exact gwg rfl | exact gwh rfl | omega) (gg_f (gf_cons rfl (gf_cons rfl (gf_cons rfl (gf_cons rfl gf_nil)))) (ih12 sc28 y28_2 z152 hIc28 hFc28 (in_w 0 1 j28_2 rfl) (in_w 0 32 i152 rfl) (m_up mm12 (t_add e152 j28_3 (in_c 1 rfl) rfl) (in_w 1 1 (in_c 1 rfl) rfl))))
            · skip
              have c49a := lc_ne e48 c49
              have i49 := lr_ne1 1 2305843009213693951 c49a i46 (l_c 0 rfl) rfl
              refine g_aload_n 53 (gd rfl) rfl rfl ?_
              refine g_getA (q2 := 13) 56 (gd rfl) rfl rfl rfl rfl ?_
              refine g_iload 58 (gd rfl) rfl rfl ?_
              refine g_iaload 59 (gd rfl) rfl (n := 160) rfl (in_ix i38 rfl) (fun z58 e58 => ?_)
              have i58 := inv_I hIc28 (n := 160) (t := 0) 0 159 rfl (in_ix i38 rfl) rfl e58
              refine g_istore 61 (gd rfl) rfl (Nat.le_of_ble_eq_true rfl) ?_
              refine g_aload_n 62 (gd rfl) rfl rfl ?_
              refine g_getA (q2 := 5) 65 (gd rfl) rfl rfl rfl rfl ?_
              refine g_iload 67 (gd rfl) rfl rfl ?_
              refine g_iaload 68 (gd rfl) rfl (n := 160) rfl (in_ix i58 rfl) (fun z67 e67 => ?_)
              have i67 := inv_I hIc28 (n := 160) (t := 0) 0 31 rfl (in_ix i58 rfl) rfl e67
              refine g_istore 70 (gd rfl) rfl (Nat.le_of_ble_eq_true rfl) ?_
              refine g_aload_n 71 (gd rfl) rfl rfl ?_
              refine g_aload_n 72 (gd rfl) rfl rfl ?_
              refine g_getA (q2 := 99) 75 (gd rfl) rfl rfl rfl rfl ?_
              refine g_iload_n 76 (gd rfl) rfl rfl ?_
              refine g_laload 77 (gd rfl) rfl (n := 32) rfl (in_ix j28_3 rfl) (fun z76 e76 => ?_)
              have i76 := inv_L hIc28 (n := 32) 0 2305843009213693951 rfl (in_ix j28_3 rfl) rfl e76
              refine g_aload_n 78 (gd rfl) rfl rfl ?_
              refine g_getA (q2 := 96) 81 (gd rfl) rfl rfl rfl rfl ?_
              refine g_aload_n 82 (gd rfl) rfl rfl ?_
              refine g_getA (q2 := 8) 85 (gd rfl) rfl rfl rfl rfl ?_
              refine g_iload 87 (gd rfl) rfl rfl ?_
              refine g_iaload 88 (gd rfl) rfl (n := 160) rfl (in_ix i58 rfl) (fun z87 e87 => ?_)
              have i87 := inv_I hIc28 (n := 160) (t := 0) 0 25 rfl (in_ix i58 rfl) rfl e87
              refine g_laload 89 (gd rfl) rfl (n := 26) rfl (in_ix i87 rfl) (fun z88 e88 => ?_)
              have i88 := inv_L hIc28 (n := 26) 0 1152921504606846975 rfl (in_ix i87 rfl) rfl e88
              refine g_land 90 (gd rfl) rfl (fun z89 e89 => ?_)
              have i89 := inl_and2 e89 i88 rfl
              have p90 : InL z89 0 1152921504606846975 := by exact lw 0 1152921504606846975 i89 rfl
              refine g_callv (X := _) (As := [.long z89]) (r := []) (b := A 94) (q := 94) 93 (gd rfl) rfl rfl rfl rfl rfl (ww_o rfl) (Nat.le_of_ble_eq_true rfl) (Nat.zero_le _) (Nat.zero_le _) (k_165_94 (by first | exact dq1 hd rfl | exact dq0 hd rfl | exact dq2 hd rfl | exact dq3 hd rfl | omega) hIc28 p90) (fun e u h => h) (fun v u h => ?_)
              obtain ⟨z90, rfl, rfl, p90a⟩ := h
              show GG _ _ _ _ _ _ _ _ [.long z90] _ _ _
              have i93 : InL z90 0 2305843009213693951 := by exact p90a
              refine g_aload_n 94 (gd rfl) rfl rfl ?_
              refine g_getA (q2 := 101) 97 (gd rfl) rfl rfl rfl rfl ?_
              refine g_iload 99 (gd rfl) rfl rfl ?_
              refine g_laload 100 (gd rfl) rfl (n := 32) rfl (in_ix i67 rfl) (fun z99 e99 => ?_)
              have i99 := inv_L hIc28 (n := 32) 0 2305843009213693951 rfl (in_ix i67 rfl) rfl e99
              refine g_ldc2_w (-1) 103 (gd rfl) rfl rfl ?_
              refine g_lxor 104 (gd rfl) rfl (fun z103 e103 => ?_)
              refine g_land 105 (gd rfl) rfl (fun z104 e104 => ?_)
              have i104 := inl_and1 e104 i93 rfl
              refine g_lstore 107 (gd rfl) rfl (Nat.le_of_ble_eq_true rfl) ?_
              refine g_aload_n 108 (gd rfl) rfl rfl ?_
              refine g_getA (q2 := 100) 111 (gd rfl) rfl rfl rfl rfl ?_
              refine g_iload 113 (gd rfl) rfl rfl ?_
              refine g_dup2 114 (gd rfl) rfl rfl rfl ?_
              refine g_laload 115 (gd rfl) rfl (n := 32) rfl (in_ix i67 rfl) (fun z114 e114 => ?_)
              have i114 := inv_L hIc28 (n := 32) 0 2305843009213693951 rfl (in_ix i67 rfl) rfl e114
              refine g_lload 117 (gd rfl) rfl rfl ?_
              refine g_lor 118 (gd rfl) rfl (fun z117 e117 => ?_)
              have i117 := inl_or 61 e117 (lw 0 2305843009213693951 i114 rfl) (lw 0 2305843009213693951 i104 rfl) rfl
              refine g_lastore 119 (gd rfl) rfl (n := 32) rfl (in_ix i67 rfl) ?_
              have hI118 := inv_sL (q := 100) (j := z67.toNatClampNeg) (x := z117) hIc28 rfl (lw 0 2305843009213693951 i117 rfl)
              refine g_aload_n 120 (gd rfl) rfl rfl ?_
              refine g_getA (q2 := 101) 123 (gd rfl) rfl rfl rfl rfl ?_
              refine g_iload 125 (gd rfl) rfl rfl ?_
              refine g_dup2 126 (gd rfl) rfl rfl rfl ?_
              refine g_laload 127 (gd rfl) rfl (n := 32) rfl (in_ix i67 rfl) (fun z126 e126 => ?_)
              have i126 := inv_L hI118 (n := 32) 0 2305843009213693951 rfl (in_ix i67 rfl) rfl e126
              refine g_lload 129 (gd rfl) rfl rfl ?_
              refine g_lor 130 (gd rfl) rfl (fun z129 e129 => ?_)
              have i129 := inl_or 61 e129 (lw 0 2305843009213693951 i126 rfl) (lw 0 2305843009213693951 i104 rfl) rfl
              refine g_lastore 131 (gd rfl) rfl (n := 32) rfl (in_ix i67 rfl) ?_
              have hI130 := inv_sL (q := 101) (j := z67.toNatClampNeg) (x := z129) hI118 rfl (lw 0 2305843009213693951 i129 rfl)
              refine g_iload_n 132 (gd rfl) rfl rfl ?_
              refine g_lload 134 (gd rfl) rfl rfl ?_
              refine g_lconst 0 135 (gd rfl) rfl rfl ?_
              refine g_lcmp 136 (gd rfl) rfl (fun z135 e135 => ?_)
              have i135 := lc_in e135
              refine g_if_eq 139 143 (gd rfl) rfl rfl (fun c136 => ?_) (fun c136 => ?_)
              · skip
                have i136 := z_eq 0 0 c136 i135 rfl
                have c136a := lc_eq e135 c136
                have i136a := lr_eq1 0 0 c136a i104 (l_c 0 rfl) rfl
                refine g_iconst 0 144 (gd rfl) rfl rfl ?_
                refine g_ior 145 (gd rfl) rfl (fun z144 e144 => ?_)
                have i144 := in_or 1 e144 (in_w 0 1 j28_2 rfl) (in_w 0 1 (in_c 0 rfl) rfl) rfl
                refine g_istore_n 146 (gd rfl) rfl (Nat.le_of_ble_eq_true rfl) ?_
                refine g_iinc 149 (gd rfl) rfl rfl (Nat.le_of_ble_eq_true rfl) (fun z146 e146 => ?_)
                have i146 := in_add 1 160 e146 i38 (in_c 1 rfl) rfl rfl
                refine g_goto 28 (gd rfl) rfl ?_
                exact gg_w (by first | exact Nat.le_add_right _ _ | exact gw2 | exact gw3 | exact gwe rfl | exact gwf rfl | exact gwg rfl | exact gwh rfl | omega) (gg_f (gf_cons rfl (gf_cons rfl (gf_cons rfl (gf_cons rfl (gf_cons rfl gf_nil))))) (ih28 (sL (sL sc28 100 z67.toNatClampNeg z117) 101 z67.toNatClampNeg z129) z144 z146 hI130 (fr_sL rfl (fr_sL rfl hFc28)) (in_w 0 1 i144 rfl) (in_w 0 31 j28_3 rfl) (in_w 0 160 i146 rfl) (m_up mm28 (t_add e146 i38 (in_c 1 rfl) rfl) (in_w 1 1 (in_c 1 rfl) rfl))))
              · skip
                have c136a := lc_ne e135 c136
                have i136 := lr_ne1 1 2305843009213693951 c136a i104 (l_c 0 rfl) rfl
                refine g_iconst 1 140 (gd rfl) rfl rfl ?_
                refine g_goto 144 (gd rfl) rfl ?_
                refine g_ior 145 (gd rfl) rfl (fun z144 e144 => ?_)
                have i144 := in_or 1 e144 (in_w 0 1 j28_2 rfl) (in_w 0 1 (in_c 1 rfl) rfl) rfl
                refine g_istore_n 146 (gd rfl) rfl (Nat.le_of_ble_eq_true rfl) ?_
                refine g_iinc 149 (gd rfl) rfl rfl (Nat.le_of_ble_eq_true rfl) (fun z146 e146 => ?_)
                have i146 := in_add 1 160 e146 i38 (in_c 1 rfl) rfl rfl
                refine g_goto 28 (gd rfl) rfl ?_
                exact gg_w (by first | exact Nat.le_add_right _ _ | exact gw2 | exact gw3 | exact gwe rfl | exact gwf rfl | exact gwg rfl | exact gwh rfl | omega) (gg_f (gf_cons rfl (gf_cons rfl (gf_cons rfl (gf_cons rfl (gf_cons rfl gf_nil))))) (ih28 (sL (sL sc28 100 z67.toNatClampNeg z117) 101 z67.toNatClampNeg z129) z144 z146 hI130 (fr_sL rfl (fr_sL rfl hFc28)) (in_w 0 1 i144 rfl) (in_w 0 31 j28_3 rfl) (in_w 0 160 i146 rfl) (m_up mm28 (t_add e146 i38 (in_c 1 rfl) rfl) (in_w 1 1 (in_c 1 rfl) rfl))))
      refine g_iload_n 13 (gd rfl) rfl rfl ?_
      refine g_aload_n 14 (gd rfl) rfl rfl ?_
      refine g_getI 17 (gd rfl) rfl rfl rfl (fun z14 e14 => ?_)
      have q14 : u_2_1 = z14 := (fr_F e_2_1 hFc12 rfl).trans e14.symm
      subst q14
      refine g_cmp_ge 20 158 (gd rfl) rfl rfl (fun c17 => ?_) (fun c17 => ?_)
      · skip
        refine g_aload_n 159 (gd rfl) rfl rfl ?_
        refine g_getA (q2 := 100) 162 (gd rfl) rfl rfl rfl rfl ?_
        refine g_iconst 0 163 (gd rfl) rfl rfl ?_
        refine g_aload_n 164 (gd rfl) rfl rfl ?_
        refine g_getA (q2 := 99) 167 (gd rfl) rfl rfl rfl rfl ?_
        refine g_iconst 0 168 (gd rfl) rfl rfl ?_
        refine g_bipush 32 170 (gd rfl) rfl rfl ?_
        refine g_cpL (q2 := 100) (q := 99) (n0 := 32) (n1 := 32) 173 (gd rfl) rfl rfl rfl rfl (Nat.le_of_ble_eq_true rfl) (cp_0 (in_c 0 rfl) rfl) (cp_0 (in_c 0 rfl) rfl) (cp_0 (in_c 32 rfl) rfl) (cp_1 (in_c 0 rfl) (in_c 32 rfl) rfl) (cp_1 (in_c 0 rfl) (in_c 32 rfl) rfl) hIc12 rfl rfl rfl (fun s170 hI170 hF170 cp170 => ?_)
        refine g_iload_n 174 (gd rfl) rfl rfl ?_
        exact g_ireturn (gd rfl) rfl (nb01 (in_w 0 1 j12_2 rfl)) (hP _ _ ⟨s170, hI170, (fr_tr rfl hFc12 hF170), y12_2, rfl, rfl, in_w 0 1 j12_2 rfl⟩)
      · skip
        have i17 := r_lt1 0 31 c17 j12_3 ro_2_1 rfl
        have i17a := r_lt2 1 32 c17 j12_3 ro_2_1 rfl
        refine g_aload_n 21 (gd rfl) rfl rfl ?_
        refine g_getA (q2 := 12) 24 (gd rfl) rfl rfl rfl rfl ?_
        refine g_iload_n 25 (gd rfl) rfl rfl ?_
        refine g_iaload 26 (gd rfl) rfl (n := 33) rfl (in_ix i17 rfl) (fun z25 e25 => ?_)
        have i25 := inv_I hIc12 (n := 33) (t := 0) 0 160 rfl (in_ix i17 rfl) rfl e25
        refine g_istore 28 (gd rfl) rfl (Nat.le_of_ble_eq_true rfl) ?_
        exact gg_w (by first | exact Nat.le_add_right _ _ | exact gw2 | exact gw3 | exact gwe rfl | exact gwf rfl | exact gwg rfl | exact gwh rfl | omega) (gg_f (gf_cons rfl (gf_cons rfl (gf_cons rfl (gf_cons rfl (gf_cons rfl gf_nil))))) (ct28 161 sc12 y12_2 z25 hIc12 hFc12 (in_w 0 1 j12_2 rfl) (in_w 0 31 i17 rfl) (in_w 0 160 i25 rfl) (m_in 161 (in_w 0 160 i25 rfl) rfl)))
  refine g_enter2 (k := 164) (N := 4871734) (by first | exact dq1 hd rfl | exact dq0 hd rfl | exact dq2 hd rfl | exact dq3 hd rfl | omega) rfl (Nat.le_of_ble_eq_true rfl) ?_
  refine g_iconst 0 1 (gd rfl) rfl rfl ?_
  refine g_istore_n 2 (gd rfl) rfl (Nat.le_of_ble_eq_true rfl) ?_
  refine g_aload_n 3 (gd rfl) rfl rfl ?_
  refine g_getA (q2 := 100) 6 (gd rfl) rfl rfl rfl rfl ?_
  refine g_lconst 0 7 (gd rfl) rfl rfl ?_
  refine g_calls (As := [.ref (A 100), .long (Int64.ofInt 0)]) (r := []) 10 (gd rfl) rfl rfl rfl rfl rfl (Nat.le_of_ble_eq_true rfl) (Nat.zero_le _) (Nat.zero_le _) (k_fillL 100 (by first | exact dq1 hd rfl | exact dq0 hd rfl | exact dq2 hd rfl | exact dq3 hd rfl | omega) hI (n := 32) rfl rfl rfl (lw 0 2305843009213693951 (l_c 0 rfl) rfl)) (fun v u h => ?_)
  obtain ⟨s7, hI7, hF7, rfl, rfl, fl7⟩ := h
  show GG _ _ _ _ _ _ _ _ [] _ _ _
  refine g_iconst 0 11 (gd rfl) rfl rfl ?_
  refine g_istore_n 12 (gd rfl) rfl (Nat.le_of_ble_eq_true rfl) ?_
  exact gg_w (by first | exact Nat.le_of_ble_eq_true rfl | omega) (gg_f (gf_cons rfl (gf_cons rfl (gf_cons rfl (gf_cons rfl gf_nil)))) (ct12 33 s7 (Int32.ofInt 0) (Int32.ofInt 0) hI7 (fr_tr rfl fr_rf hF7) (in_w 0 1 (in_c 0 rfl) rfl) (in_w 0 32 (in_c 0 rfl) rfl) (m_in 33 (in_w 0 32 (in_c 0 rfl) rfl) rfl)))

def fm_164_94_32 : FM := ([], [99, 100, 101], [], [])
/-- GraphHouse$Question.step -/
theorem k_164_94_32 {Z : AmZ} {A : Nat → Nat} {s : GS} {ex : va_W} {d : Nat} {X : AmX}  (hd : 5 ≤ d) (hI : Inv s)  : GC Z d 164 [.ref (A 94), .ref (A 32)] (WW Z A s ++ ex) 0 0 (fun v u => ∃ t : GS, Inv t ∧ Fr fm_164_94_32 s t ∧ ∃ z : Int32, v = some (.int z) ∧ u = WW Z A t ++ ex ∧ In z 0 1) X := by
  intro post xp hP hX
  obtain ⟨u_32_1, e_32_1⟩ : ∃ w, w = s.2.2.1 32 1 := ⟨_, rfl⟩
  have ro_32_1 := inv_F hI 0 32 rfl e_32_1
  have ct12 : ∀ (k12 : Nat) (sc12 : GS) (y12_2 : Int32) (y12_3 : Int32), Inv sc12 → Fr fm_164_94_32 s sc12 → (In y12_2 0 1) → (In y12_3 0 32) → 32 - (y12_3).toInt < (k12 : Int) → GG Z (d - 1) 164 post (gx xp) (1 + k12 * 147601) 12 (fun j => xlook j [(0, .ref (A 94)), (1, .ref (A 32)), (2, .int y12_2), (3, .int y12_3)]) [] (WW Z A sc12 ++ ex) 0 0 := by
    intro k12
    induction k12 with
    | zero => intro sc12 y12_2 y12_3 hIc12 hFc12 j12_2 j12_3 mm12; exact m_no mm12 j12_3 rfl
    | succ k12 ih12 =>
      intro sc12 y12_2 y12_3 hIc12 hFc12 j12_2 j12_3 mm12
      refine gg_w (M := 1 + k12 * 147601 + 147601) gws ?_
      have ct28 : ∀ (k28 : Nat) (sc28 : GS) (y28_2 : Int32) (y28_4 : Int32), Inv sc28 → Fr fm_164_94_32 s sc28 → (In y28_2 0 1) → (In y12_3 0 31) → (In y28_4 0 160) → 160 - (y28_4).toInt < (k28 : Int) → GG Z (d - 1) 164 post (gx xp) (1 + k12 * 147601 + 1 + k28 * 900) 28 (fun j => xlook j [(0, .ref (A 94)), (1, .ref (A 32)), (2, .int y28_2), (3, .int y12_3), (4, .int y28_4)]) [] (WW Z A sc28 ++ ex) 0 0 := by
        intro k28
        induction k28 with
        | zero => intro sc28 y28_2 y28_4 hIc28 hFc28 j28_2 j28_3 j28_4 mm28; exact m_no mm28 j28_4 rfl
        | succ k28 ih28 =>
          intro sc28 y28_2 y28_4 hIc28 hFc28 j28_2 j28_3 j28_4 mm28
          refine gg_w (M := 1 + k12 * 147601 + 1 + k28 * 900 + 900) gws ?_
          refine g_iload 30 (gd rfl) rfl rfl ?_
          refine g_aload_n 31 (gd rfl) rfl rfl ?_
          refine g_getA (q2 := 42) 34 (gd rfl) rfl rfl rfl rfl ?_
          refine g_iload_n 35 (gd rfl) rfl rfl ?_
          refine g_iconst 1 36 (gd rfl) rfl rfl ?_
          refine g_iadd 37 (gd rfl) rfl (fun z36 e36 => ?_)
          have i36 := in_add 1 32 e36 j28_3 (in_c 1 rfl) rfl rfl
          refine g_iaload 38 (gd rfl) rfl (n := 33) rfl (in_ix i36 rfl) (fun z37 e37 => ?_)
          have i37 := inv_I hIc28 (n := 33) (t := 0) 0 160 rfl (in_ix i36 rfl) rfl e37
          refine g_cmp_ge 41 152 (gd rfl) rfl rfl (fun c38 => ?_) (fun c38 => ?_)
          · skip
            refine g_iinc 155 (gd rfl) rfl rfl (Nat.le_of_ble_eq_true rfl) (fun z152 e152 => ?_)
            have i152 := in_add 1 32 e152 j28_3 (in_c 1 rfl) rfl rfl
            refine g_goto 12 (gd rfl) rfl ?_
            exact gg_w (by first | exact Nat.le_add_right _ _ | exact gw2 | exact gw3 | exact gwe rfl | exact gwf rfl | exact gwg rfl | exact gwh rfl | omega) (gg_f (gf_cons rfl (gf_cons rfl (gf_cons rfl (gf_cons rfl gf_nil)))) (ih12 sc28 y28_2 z152 hIc28 hFc28 (in_w 0 1 j28_2 rfl) (in_w 0 32 i152 rfl) (m_up mm12 (t_add e152 j28_3 (in_c 1 rfl) rfl) (in_w 1 1 (in_c 1 rfl) rfl))))
          · skip
            have i38 := r_lt1 0 159 c38 j28_4 i37 rfl
            have i38a := r_lt2 1 160 c38 j28_4 i37 rfl
            refine g_aload_n 42 (gd rfl) rfl rfl ?_
            refine g_getA (q2 := 99) 45 (gd rfl) rfl rfl rfl rfl ?_
            refine g_iload_n 46 (gd rfl) rfl rfl ?_
            refine g_laload 47 (gd rfl) rfl (n := 32) rfl (in_ix j28_3 rfl) (fun z46 e46 => ?_)
            have i46 := inv_L hIc28 (n := 32) 0 2305843009213693951 rfl (in_ix j28_3 rfl) rfl e46
            refine g_lconst 0 48 (gd rfl) rfl rfl ?_
            refine g_lcmp 49 (gd rfl) rfl (fun z48 e48 => ?_)
            have i48 := lc_in e48
            refine g_if_eq 52 152 (gd rfl) rfl rfl (fun c49 => ?_) (fun c49 => ?_)
            · skip
              have i49 := z_eq 0 0 c49 i48 rfl
              have c49a := lc_eq e48 c49
              have i49a := lr_eq1 0 0 c49a i46 (l_c 0 rfl) rfl
              refine g_iinc 155 (gd rfl) rfl rfl (Nat.le_of_ble_eq_true rfl) (fun z152 e152 => ?_)
              have i152 := in_add 1 32 e152 j28_3 (in_c 1 rfl) rfl rfl
              refine g_goto 12 (gd rfl) rfl ?_
              exact gg_w (by first | exact Nat.le_add_right _ _ | exact gw2 | exact gw3 | exact gwe rfl | exact gwf rfl | exact gwg rfl | exact gwh rfl | omega) (gg_f (gf_cons rfl (gf_cons rfl (gf_cons rfl (gf_cons rfl gf_nil)))) (ih12 sc28 y28_2 z152 hIc28 hFc28 (in_w 0 1 j28_2 rfl) (in_w 0 32 i152 rfl) (m_up mm12 (t_add e152 j28_3 (in_c 1 rfl) rfl) (in_w 1 1 (in_c 1 rfl) rfl))))
            · skip
              have c49a := lc_ne e48 c49
              have i49 := lr_ne1 1 2305843009213693951 c49a i46 (l_c 0 rfl) rfl
              refine g_aload_n 53 (gd rfl) rfl rfl ?_
              refine g_getA (q2 := 43) 56 (gd rfl) rfl rfl rfl rfl ?_
              refine g_iload 58 (gd rfl) rfl rfl ?_
              refine g_iaload 59 (gd rfl) rfl (n := 160) rfl (in_ix i38 rfl) (fun z58 e58 => ?_)
              have i58 := inv_I hIc28 (n := 160) (t := 0) 0 159 rfl (in_ix i38 rfl) rfl e58
              refine g_istore 61 (gd rfl) rfl (Nat.le_of_ble_eq_true rfl) ?_
              refine g_aload_n 62 (gd rfl) rfl rfl ?_
              refine g_getA (q2 := 35) 65 (gd rfl) rfl rfl rfl rfl ?_
              refine g_iload 67 (gd rfl) rfl rfl ?_
              refine g_iaload 68 (gd rfl) rfl (n := 160) rfl (in_ix i58 rfl) (fun z67 e67 => ?_)
              have i67 := inv_I hIc28 (n := 160) (t := 0) 0 31 rfl (in_ix i58 rfl) rfl e67
              refine g_istore 70 (gd rfl) rfl (Nat.le_of_ble_eq_true rfl) ?_
              refine g_aload_n 71 (gd rfl) rfl rfl ?_
              refine g_aload_n 72 (gd rfl) rfl rfl ?_
              refine g_getA (q2 := 99) 75 (gd rfl) rfl rfl rfl rfl ?_
              refine g_iload_n 76 (gd rfl) rfl rfl ?_
              refine g_laload 77 (gd rfl) rfl (n := 32) rfl (in_ix j28_3 rfl) (fun z76 e76 => ?_)
              have i76 := inv_L hIc28 (n := 32) 0 2305843009213693951 rfl (in_ix j28_3 rfl) rfl e76
              refine g_aload_n 78 (gd rfl) rfl rfl ?_
              refine g_getA (q2 := 96) 81 (gd rfl) rfl rfl rfl rfl ?_
              refine g_aload_n 82 (gd rfl) rfl rfl ?_
              refine g_getA (q2 := 38) 85 (gd rfl) rfl rfl rfl rfl ?_
              refine g_iload 87 (gd rfl) rfl rfl ?_
              refine g_iaload 88 (gd rfl) rfl (n := 160) rfl (in_ix i58 rfl) (fun z87 e87 => ?_)
              have i87 := inv_I hIc28 (n := 160) (t := 0) 0 25 rfl (in_ix i58 rfl) rfl e87
              refine g_laload 89 (gd rfl) rfl (n := 26) rfl (in_ix i87 rfl) (fun z88 e88 => ?_)
              have i88 := inv_L hIc28 (n := 26) 0 1152921504606846975 rfl (in_ix i87 rfl) rfl e88
              refine g_land 90 (gd rfl) rfl (fun z89 e89 => ?_)
              have i89 := inl_and2 e89 i88 rfl
              have p90 : InL z89 0 1152921504606846975 := by exact lw 0 1152921504606846975 i89 rfl
              refine g_callv (X := _) (As := [.long z89]) (r := []) (b := A 94) (q := 94) 93 (gd rfl) rfl rfl rfl rfl rfl (ww_o rfl) (Nat.le_of_ble_eq_true rfl) (Nat.zero_le _) (Nat.zero_le _) (k_165_94 (by first | exact dq1 hd rfl | exact dq0 hd rfl | exact dq2 hd rfl | exact dq3 hd rfl | omega) hIc28 p90) (fun e u h => h) (fun v u h => ?_)
              obtain ⟨z90, rfl, rfl, p90a⟩ := h
              show GG _ _ _ _ _ _ _ _ [.long z90] _ _ _
              have i93 : InL z90 0 2305843009213693951 := by exact p90a
              refine g_aload_n 94 (gd rfl) rfl rfl ?_
              refine g_getA (q2 := 101) 97 (gd rfl) rfl rfl rfl rfl ?_
              refine g_iload 99 (gd rfl) rfl rfl ?_
              refine g_laload 100 (gd rfl) rfl (n := 32) rfl (in_ix i67 rfl) (fun z99 e99 => ?_)
              have i99 := inv_L hIc28 (n := 32) 0 2305843009213693951 rfl (in_ix i67 rfl) rfl e99
              refine g_ldc2_w (-1) 103 (gd rfl) rfl rfl ?_
              refine g_lxor 104 (gd rfl) rfl (fun z103 e103 => ?_)
              refine g_land 105 (gd rfl) rfl (fun z104 e104 => ?_)
              have i104 := inl_and1 e104 i93 rfl
              refine g_lstore 107 (gd rfl) rfl (Nat.le_of_ble_eq_true rfl) ?_
              refine g_aload_n 108 (gd rfl) rfl rfl ?_
              refine g_getA (q2 := 100) 111 (gd rfl) rfl rfl rfl rfl ?_
              refine g_iload 113 (gd rfl) rfl rfl ?_
              refine g_dup2 114 (gd rfl) rfl rfl rfl ?_
              refine g_laload 115 (gd rfl) rfl (n := 32) rfl (in_ix i67 rfl) (fun z114 e114 => ?_)
              have i114 := inv_L hIc28 (n := 32) 0 2305843009213693951 rfl (in_ix i67 rfl) rfl e114
              refine g_lload 117 (gd rfl) rfl rfl ?_
              refine g_lor 118 (gd rfl) rfl (fun z117 e117 => ?_)
              have i117 := inl_or 61 e117 (lw 0 2305843009213693951 i114 rfl) (lw 0 2305843009213693951 i104 rfl) rfl
              refine g_lastore 119 (gd rfl) rfl (n := 32) rfl (in_ix i67 rfl) ?_
              have hI118 := inv_sL (q := 100) (j := z67.toNatClampNeg) (x := z117) hIc28 rfl (lw 0 2305843009213693951 i117 rfl)
              refine g_aload_n 120 (gd rfl) rfl rfl ?_
              refine g_getA (q2 := 101) 123 (gd rfl) rfl rfl rfl rfl ?_
              refine g_iload 125 (gd rfl) rfl rfl ?_
              refine g_dup2 126 (gd rfl) rfl rfl rfl ?_
              refine g_laload 127 (gd rfl) rfl (n := 32) rfl (in_ix i67 rfl) (fun z126 e126 => ?_)
              have i126 := inv_L hI118 (n := 32) 0 2305843009213693951 rfl (in_ix i67 rfl) rfl e126
              refine g_lload 129 (gd rfl) rfl rfl ?_
              refine g_lor 130 (gd rfl) rfl (fun z129 e129 => ?_)
              have i129 := inl_or 61 e129 (lw 0 2305843009213693951 i126 rfl) (lw 0 2305843009213693951 i104 rfl) rfl
              refine g_lastore 131 (gd rfl) rfl (n := 32) rfl (in_ix i67 rfl) ?_
              have hI130 := inv_sL (q := 101) (j := z67.toNatClampNeg) (x := z129) hI118 rfl (lw 0 2305843009213693951 i129 rfl)
              refine g_iload_n 132 (gd rfl) rfl rfl ?_
              refine g_lload 134 (gd rfl) rfl rfl ?_
              refine g_lconst 0 135 (gd rfl) rfl rfl ?_
              refine g_lcmp 136 (gd rfl) rfl (fun z135 e135 => ?_)
              have i135 := lc_in e135
              refine g_if_eq 139 143 (gd rfl) rfl rfl (fun c136 => ?_) (fun c136 => ?_)
              · skip
                have i136 := z_eq 0 0 c136 i135 rfl
                have c136a := lc_eq e135 c136
                have i136a := lr_eq1 0 0 c136a i104 (l_c 0 rfl) rfl
                refine g_iconst 0 144 (gd rfl) rfl rfl ?_
                refine g_ior 145 (gd rfl) rfl (fun z144 e144 => ?_)
                have i144 := in_or 1 e144 (in_w 0 1 j28_2 rfl) (in_w 0 1 (in_c 0 rfl) rfl) rfl
                refine g_istore_n 146 (gd rfl) rfl (Nat.le_of_ble_eq_true rfl) ?_
                refine g_iinc 149 (gd rfl) rfl rfl (Nat.le_of_ble_eq_true rfl) (fun z146 e146 => ?_)
                have i146 := in_add 1 160 e146 i38 (in_c 1 rfl) rfl rfl
                refine g_goto 28 (gd rfl) rfl ?_
                exact gg_w (by first | exact Nat.le_add_right _ _ | exact gw2 | exact gw3 | exact gwe rfl | exact gwf rfl | exact gwg rfl | exact gwh rfl | omega) (gg_f (gf_cons rfl (gf_cons rfl (gf_cons rfl (gf_cons rfl (gf_cons rfl gf_nil))))) (ih28 (sL (sL sc28 100 z67.toNatClampNeg z117) 101 z67.toNatClampNeg z129) z144 z146 hI130 (fr_sL rfl (fr_sL rfl hFc28)) (in_w 0 1 i144 rfl) (in_w 0 31 j28_3 rfl) (in_w 0 160 i146 rfl) (m_up mm28 (t_add e146 i38 (in_c 1 rfl) rfl) (in_w 1 1 (in_c 1 rfl) rfl))))
              · skip
                have c136a := lc_ne e135 c136
                have i136 := lr_ne1 1 2305843009213693951 c136a i104 (l_c 0 rfl) rfl
                refine g_iconst 1 140 (gd rfl) rfl rfl ?_
                refine g_goto 144 (gd rfl) rfl ?_
                refine g_ior 145 (gd rfl) rfl (fun z144 e144 => ?_)
                have i144 := in_or 1 e144 (in_w 0 1 j28_2 rfl) (in_w 0 1 (in_c 1 rfl) rfl) rfl
                refine g_istore_n 146 (gd rfl) rfl (Nat.le_of_ble_eq_true rfl) ?_
                refine g_iinc 149 (gd rfl) rfl rfl (Nat.le_of_ble_eq_true rfl) (fun z146 e146 => ?_)
                have i146 := in_add 1 160 e146 i38 (in_c 1 rfl) rfl rfl
                refine g_goto 28 (gd rfl) rfl ?_
                exact gg_w (by first | exact Nat.le_add_right _ _ | exact gw2 | exact gw3 | exact gwe rfl | exact gwf rfl | exact gwg rfl | exact gwh rfl | omega) (gg_f (gf_cons rfl (gf_cons rfl (gf_cons rfl (gf_cons rfl (gf_cons rfl gf_nil))))) (ih28 (sL (sL sc28 100 z67.toNatClampNeg z117) 101 z67.toNatClampNeg z129) z144 z146 hI130 (fr_sL rfl (fr_sL rfl hFc28)) (in_w 0 1 i144 rfl) (in_w 0 31 j28_3 rfl) (in_w 0 160 i146 rfl) (m_up mm28 (t_add e146 i38 (in_c 1 rfl) rfl) (in_w 1 1 (in_c 1 rfl) rfl))))
      refine g_iload_n 13 (gd rfl) rfl rfl ?_
      refine g_aload_n 14 (gd rfl) rfl rfl ?_
      refine g_getI 17 (gd rfl) rfl rfl rfl (fun z14 e14 => ?_)
      have q14 : u_32_1 = z14 := (fr_F e_32_1 hFc12 rfl).trans e14.symm
      subst q14
      refine g_cmp_ge 20 158 (gd rfl) rfl rfl (fun c17 => ?_) (fun c17 => ?_)
      · skip
        refine g_aload_n 159 (gd rfl) rfl rfl ?_
        refine g_getA (q2 := 100) 162 (gd rfl) rfl rfl rfl rfl ?_
        refine g_iconst 0 163 (gd rfl) rfl rfl ?_
        refine g_aload_n 164 (gd rfl) rfl rfl ?_
        refine g_getA (q2 := 99) 167 (gd rfl) rfl rfl rfl rfl ?_
        refine g_iconst 0 168 (gd rfl) rfl rfl ?_
        refine g_bipush 32 170 (gd rfl) rfl rfl ?_
        refine g_cpL (q2 := 100) (q := 99) (n0 := 32) (n1 := 32) 173 (gd rfl) rfl rfl rfl rfl (Nat.le_of_ble_eq_true rfl) (cp_0 (in_c 0 rfl) rfl) (cp_0 (in_c 0 rfl) rfl) (cp_0 (in_c 32 rfl) rfl) (cp_1 (in_c 0 rfl) (in_c 32 rfl) rfl) (cp_1 (in_c 0 rfl) (in_c 32 rfl) rfl) hIc12 rfl rfl rfl (fun s170 hI170 hF170 cp170 => ?_)
        refine g_iload_n 174 (gd rfl) rfl rfl ?_
        exact g_ireturn (gd rfl) rfl (nb01 (in_w 0 1 j12_2 rfl)) (hP _ _ ⟨s170, hI170, (fr_tr rfl hFc12 hF170), y12_2, rfl, rfl, in_w 0 1 j12_2 rfl⟩)
      · skip
        have i17 := r_lt1 0 31 c17 j12_3 ro_32_1 rfl
        have i17a := r_lt2 1 32 c17 j12_3 ro_32_1 rfl
        refine g_aload_n 21 (gd rfl) rfl rfl ?_
        refine g_getA (q2 := 42) 24 (gd rfl) rfl rfl rfl rfl ?_
        refine g_iload_n 25 (gd rfl) rfl rfl ?_
        refine g_iaload 26 (gd rfl) rfl (n := 33) rfl (in_ix i17 rfl) (fun z25 e25 => ?_)
        have i25 := inv_I hIc12 (n := 33) (t := 0) 0 160 rfl (in_ix i17 rfl) rfl e25
        refine g_istore 28 (gd rfl) rfl (Nat.le_of_ble_eq_true rfl) ?_
        exact gg_w (by first | exact Nat.le_add_right _ _ | exact gw2 | exact gw3 | exact gwe rfl | exact gwf rfl | exact gwg rfl | exact gwh rfl | omega) (gg_f (gf_cons rfl (gf_cons rfl (gf_cons rfl (gf_cons rfl (gf_cons rfl gf_nil))))) (ct28 161 sc12 y12_2 z25 hIc12 hFc12 (in_w 0 1 j12_2 rfl) (in_w 0 31 i17 rfl) (in_w 0 160 i25 rfl) (m_in 161 (in_w 0 160 i25 rfl) rfl)))
  refine g_enter2 (k := 164) (N := 4871734) (by first | exact dq1 hd rfl | exact dq0 hd rfl | exact dq2 hd rfl | exact dq3 hd rfl | omega) rfl (Nat.le_of_ble_eq_true rfl) ?_
  refine g_iconst 0 1 (gd rfl) rfl rfl ?_
  refine g_istore_n 2 (gd rfl) rfl (Nat.le_of_ble_eq_true rfl) ?_
  refine g_aload_n 3 (gd rfl) rfl rfl ?_
  refine g_getA (q2 := 100) 6 (gd rfl) rfl rfl rfl rfl ?_
  refine g_lconst 0 7 (gd rfl) rfl rfl ?_
  refine g_calls (As := [.ref (A 100), .long (Int64.ofInt 0)]) (r := []) 10 (gd rfl) rfl rfl rfl rfl rfl (Nat.le_of_ble_eq_true rfl) (Nat.zero_le _) (Nat.zero_le _) (k_fillL 100 (by first | exact dq1 hd rfl | exact dq0 hd rfl | exact dq2 hd rfl | exact dq3 hd rfl | omega) hI (n := 32) rfl rfl rfl (lw 0 2305843009213693951 (l_c 0 rfl) rfl)) (fun v u h => ?_)
  obtain ⟨s7, hI7, hF7, rfl, rfl, fl7⟩ := h
  show GG _ _ _ _ _ _ _ _ [] _ _ _
  refine g_iconst 0 11 (gd rfl) rfl rfl ?_
  refine g_istore_n 12 (gd rfl) rfl (Nat.le_of_ble_eq_true rfl) ?_
  exact gg_w (by first | exact Nat.le_of_ble_eq_true rfl | omega) (gg_f (gf_cons rfl (gf_cons rfl (gf_cons rfl (gf_cons rfl gf_nil)))) (ct12 33 s7 (Int32.ofInt 0) (Int32.ofInt 0) hI7 (fr_tr rfl fr_rf hF7) (in_w 0 1 (in_c 0 rfl) rfl) (in_w 0 32 (in_c 0 rfl) rfl) (m_in 33 (in_w 0 32 (in_c 0 rfl) rfl) rfl)))

def fm_171_46 : FM := ([], [], [(46, 2), (46, 3), (46, 4), (46, 5)], [])
/-- GraphHouse$Script.next -/
theorem k_171_46 {Z : AmZ} {A : Nat → Nat} {s : GS} {ex : va_W} {d : Nat} {X : AmX} {x1 : Int32} {x2 : Int32} {u_46_2 : Int32} {u_46_1 : Int32} (hd : 7 ≤ d) (hI : Inv s) (h1 : In x1 6 7) (h2 : In x2 0 1) (e_46_2 : u_46_2 = s.2.2.1 46 2) (e_46_1 : u_46_1 = s.2.2.1 46 1) (p_0 : (u_46_2).toInt ≤ (u_46_1).toInt) : GC Z d 171 [.ref (A 46), .int x1, .int x2] (WW Z A s ++ ex) 0 0 (fun v u => ∃ t : GS, Inv t ∧ Fr fm_171_46 s t ∧ ((t.2.2.1 46 2).toInt ≤ (t.2.2.1 46 1).toInt) ∧ ((t.2.2.1 46 4).toInt ≤ (t.2.2.1 46 2).toInt) ∧ ((s.2.2.1 46 2).toInt ≤ (t.2.2.1 46 4).toInt) ∧ v = none ∧ u = WW Z A t ++ ex ∧ ((x1).toInt = 6 → TK t) ∧ ((t.2.2.1 46 3).toInt = 1 → In (t.2.2.1 46 5) 0 25)) X := by
  intro post xp hP hX
  have ro_46_1 := inv_F hI 0 1000 rfl e_46_1
  have ct123 : ∀ (sc123 : GS) (y123_3 : Int32) (y123_4 : Int32) (w123_46_2 : Int32) (w123_46_4 : Int32), Inv sc123 → Fr fm_171_46 s sc123 → (In y123_3 0 65535) → (In y123_4 0 1) → (w123_46_2 = sc123.2.2.1 46 2) → (w123_46_4 = sc123.2.2.1 46 4) → ((w123_46_2).toInt + 1 ≤ (u_46_1).toInt) → ((w123_46_4).toInt = (w123_46_2).toInt) → ((u_46_2).toInt ≤ (w123_46_2).toInt) → GG Z (d - 1) 171 post (gx xp) (901) 123 (fun j => xlook j [(0, .ref (A 46)), (1, .int x1), (2, .int x2), (3, .int y123_3), (4, .int y123_4)]) [] (WW Z A sc123 ++ ex) 0 0 := by
    intro sc123 y123_3 y123_4 w123_46_2 w123_46_4 hIc123 hFc123 j123_3 j123_4 v123_46_2 v123_46_4 n123_0 n123_1 n123_2
    refine g_aload_n 124 (gd rfl) rfl rfl ?_
    refine g_dup 125 (gd rfl) rfl rfl ?_
    refine g_getI 128 (gd rfl) rfl rfl rfl (fun z125 e125 => ?_)
    have q125 : w123_46_2 = z125 := (v123_46_2).trans e125.symm
    subst q125
    refine g_iconst 1 129 (gd rfl) rfl rfl ?_
    refine g_iadd 130 (gd rfl) rfl (fun z129 e129 => ?_)
    have i129 := in_add 1 1001 e129 (inv_F hIc123 0 1000 rfl v123_46_2) (in_c 1 rfl) rfl rfl
    have i130 : In z129 0 1000 := by exact (have a0 := in_u h2; have a1 := in_u h1; have a2 := in_u ro_46_1; have a3 := in_u ((inv_F hIc123 0 1000 rfl v123_46_4)); have a4 := in_u ((inv_F hIc123 0 1000 rfl v123_46_2)); have a5 := in_u j123_4; have a6 := in_u j123_3; have a7 := in_u i129; have a8 := t_add e129 (inv_F hIc123 0 1000 rfl v123_46_2) (in_c 1 rfl) rfl; have a9 := in_u ((in_c 1 rfl)); ⟨by omega, by omega⟩)
    refine g_putI 133 (gd rfl) rfl rfl rfl rfl ?_
    have hI130 := inv_sF (q := 46) (j := 2) hIc123 rfl (in_w 0 1000 i130 rfl)
    refine g_iload_n 134 (gd rfl) rfl rfl ?_
    refine g_bipush 97 136 (gd rfl) rfl rfl ?_
    refine g_cmp_lt 139 159 (gd rfl) rfl rfl (fun c136 => ?_) (fun c136 => ?_)
    · skip
      have i136 := r_lt1 0 96 c136 j123_3 (in_c 97 rfl) rfl
      refine g_aload_n 160 (gd rfl) rfl rfl ?_
      refine g_iload_n 161 (gd rfl) rfl rfl ?_
      refine g_iload_n 162 (gd rfl) rfl rfl ?_
      refine g_calls (As := [.int y123_3, .int x2]) (r := [.ref (A 46)]) 165 (gd rfl) rfl rfl rfl rfl rfl (Nat.le_of_ble_eq_true rfl) (mc := 0) (ms := 0) (Nat.zero_le _) (Nat.zero_le _) (P := fun v u => _) ?_ (fun v u h => h)
      intro po162 xx162 hp162 hx162
      refine g_enter2 (k := 174) (N := 300) (by first | exact dq1 hd rfl | exact dq0 hd rfl | exact dq2 hd rfl | exact dq3 hd rfl | omega) rfl (Nat.le_of_ble_eq_true rfl) ?_
      refine g_iload_n 1 (gd rfl) rfl rfl ?_
      refine g_bipush 59 3 (gd rfl) rfl rfl ?_
      refine g_cmp_eq 6 19 (gd rfl) rfl rfl (fun c162x3 => ?_) (fun c162x3 => ?_)
      · skip
        have i162x3 := r_eq1 59 59 c162x3 i136 (in_c 59 rfl) rfl
        refine g_iconst 1 20 (gd rfl) rfl rfl ?_
        refine g_goto 24 (gd rfl) rfl ?_
        refine g_ireturn (gd rfl) rfl (nb01 (in_w 0 1 (in_c 1 rfl) rfl)) (hp162 _ _ ?_)
        show GG _ _ _ _ _ _ _ _ [.int (Int32.ofInt 1), .ref (A 46)] _ _ _
        refine g_if_eq 168 172 (gd rfl) rfl rfl (fun c165 => ?_) (fun c165 => ?_)
        · skip
          exact zn_eq c165 (in_c 1 rfl) rfl
        · skip
          refine g_iconst 3 169 (gd rfl) rfl rfl ?_
          refine g_goto 173 (gd rfl) rfl ?_
          refine g_putI 176 (gd rfl) rfl rfl rfl rfl ?_
          have hI173 := inv_sF (q := 46) (j := 3) hI130 rfl (in_w 0 5 (in_c 3 rfl) rfl)
          refine g_aload_n 177 (gd rfl) rfl rfl ?_
          refine g_iload_n 178 (gd rfl) rfl rfl ?_
          refine g_putI 181 (gd rfl) rfl rfl rfl rfl ?_
          have hI178 := inv_sF (q := 46) (j := 5) hI173 rfl (in_w (-2147483648) 2147483647 i162x3 rfl)
          have n181 : (x1).toInt = 6 → TK (sF (sF (sF sc123 46 2 z129) 46 3 (Int32.ofInt 3)) 46 5 y123_3) := by intro h6; exact ⟨(Or.inr (by rw [← (show w123_46_4 = (sF (sF (sF sc123 46 2 z129) 46 3 (Int32.ofInt 3)) 46 5 y123_3).2.2.1 46 4 from sF_ne rfl (sF_ne rfl (sF_ne rfl (v123_46_4)))), ← (show z129 = (sF (sF (sF sc123 46 2 z129) 46 3 (Int32.ofInt 3)) 46 5 y123_3).2.2.1 46 2 from sF_ne rfl (sF_ne rfl (sF_get)))]; have a0 := h2; unfold In at a0; have a1 := h1; unfold In at a1; have a2 := ro_46_1; unfold In at a2; have a3 := (inv_F hIc123 0 1000 rfl v123_46_4); unfold In at a3; have a4 := (inv_F hIc123 0 1000 rfl v123_46_2); unfold In at a4; have a5 := j123_4; unfold In at a5; have a6 := i162x3; unfold In at a6; have a7 := (in_c 3 rfl); unfold In at a7; have a8 := i130; unfold In at a8; have a9 := t_add e129 (inv_F hIc123 0 1000 rfl v123_46_2) (in_c 1 rfl) rfl; have a10 := (in_c 1 rfl); unfold In at a10; omega)), (fun h2 => absurd h2 (by rw [← (show (Int32.ofInt 3) = (sF (sF (sF sc123 46 2 z129) 46 3 (Int32.ofInt 3)) 46 5 y123_3).2.2.1 46 3 from sF_ne rfl (sF_get))]; decide))⟩
          have n181a : ((sF (sF (sF sc123 46 2 z129) 46 3 (Int32.ofInt 3)) 46 5 y123_3).2.2.1 46 3).toInt = 1 → In ((sF (sF (sF sc123 46 2 z129) 46 3 (Int32.ofInt 3)) 46 5 y123_3).2.2.1 46 5) 0 25 := by intro h1; rw [← (show (Int32.ofInt 3) = (sF (sF (sF sc123 46 2 z129) 46 3 (Int32.ofInt 3)) 46 5 y123_3).2.2.1 46 3 from sF_ne rfl (sF_get))] at h1; exact absurd h1 (by decide)
          have n181b : (z129).toInt ≤ (u_46_1).toInt := by exact (have a0 := in_u h2; have a1 := in_u h1; have a2 := in_u ro_46_1; have a3 := in_u ((inv_F hIc123 0 1000 rfl v123_46_4)); have a4 := in_u ((inv_F hIc123 0 1000 rfl v123_46_2)); have a5 := in_u j123_4; have a6 := in_u i162x3; have a7 := in_u ((in_c 3 rfl)); have a8 := in_u i130; have a9 := t_add e129 (inv_F hIc123 0 1000 rfl v123_46_2) (in_c 1 rfl) rfl; have a10 := in_u ((in_c 1 rfl)); by omega)
          have n181c : ((sF (sF (sF sc123 46 2 z129) 46 3 (Int32.ofInt 3)) 46 5 y123_3).2.2.1 46 2).toInt ≤ ((sF (sF (sF sc123 46 2 z129) 46 3 (Int32.ofInt 3)) 46 5 y123_3).2.2.1 46 1).toInt := by have b0 : z129 = (sF (sF (sF sc123 46 2 z129) 46 3 (Int32.ofInt 3)) 46 5 y123_3).2.2.1 46 2 := sF_ne rfl (sF_ne rfl (sF_get)); have b1 : u_46_1 = (sF (sF (sF sc123 46 2 z129) 46 3 (Int32.ofInt 3)) 46 5 y123_3).2.2.1 46 1 := sF_ne rfl (sF_ne rfl (sF_ne rfl (fr_F e_46_1 hFc123 rfl))); rw [← b0, ← b1]; exact n181b
          have n181d : (w123_46_4).toInt ≤ (z129).toInt := by exact (have a0 := in_u h2; have a1 := in_u h1; have a2 := in_u ro_46_1; have a3 := in_u ((inv_F hIc123 0 1000 rfl v123_46_4)); have a4 := in_u ((inv_F hIc123 0 1000 rfl v123_46_2)); have a5 := in_u j123_4; have a6 := in_u i162x3; have a7 := in_u ((in_c 3 rfl)); have a8 := in_u i130; have a9 := t_add e129 (inv_F hIc123 0 1000 rfl v123_46_2) (in_c 1 rfl) rfl; have a10 := in_u ((in_c 1 rfl)); by omega)
          have n181e : ((sF (sF (sF sc123 46 2 z129) 46 3 (Int32.ofInt 3)) 46 5 y123_3).2.2.1 46 4).toInt ≤ ((sF (sF (sF sc123 46 2 z129) 46 3 (Int32.ofInt 3)) 46 5 y123_3).2.2.1 46 2).toInt := by have b0 : w123_46_4 = (sF (sF (sF sc123 46 2 z129) 46 3 (Int32.ofInt 3)) 46 5 y123_3).2.2.1 46 4 := sF_ne rfl (sF_ne rfl (sF_ne rfl (v123_46_4))); have b1 : z129 = (sF (sF (sF sc123 46 2 z129) 46 3 (Int32.ofInt 3)) 46 5 y123_3).2.2.1 46 2 := sF_ne rfl (sF_ne rfl (sF_get)); rw [← b0, ← b1]; exact n181d
          have n181f : (u_46_2).toInt ≤ (w123_46_4).toInt := by exact (have a0 := in_u h2; have a1 := in_u h1; have a2 := in_u ro_46_1; have a3 := in_u ((inv_F hIc123 0 1000 rfl v123_46_4)); have a4 := in_u ((inv_F hIc123 0 1000 rfl v123_46_2)); have a5 := in_u j123_4; have a6 := in_u i162x3; have a7 := in_u ((in_c 3 rfl)); have a8 := in_u i130; have a9 := t_add e129 (inv_F hIc123 0 1000 rfl v123_46_2) (in_c 1 rfl) rfl; have a10 := in_u ((in_c 1 rfl)); by omega)
          have n181g : (s.2.2.1 46 2).toInt ≤ ((sF (sF (sF sc123 46 2 z129) 46 3 (Int32.ofInt 3)) 46 5 y123_3).2.2.1 46 4).toInt := by have b0 : w123_46_4 = (sF (sF (sF sc123 46 2 z129) 46 3 (Int32.ofInt 3)) 46 5 y123_3).2.2.1 46 4 := sF_ne rfl (sF_ne rfl (sF_ne rfl (v123_46_4))); rw [← b0, ← e_46_2]; exact n181f
          exact g_return (gd rfl) rfl (hP _ _ ⟨(sF (sF (sF sc123 46 2 z129) 46 3 (Int32.ofInt 3)) 46 5 y123_3), hI178, (fr_sF rfl (fr_sF rfl (fr_sF rfl hFc123))), n181c, n181e, n181g, rfl, rfl, n181, n181a⟩)
      · skip
        refine g_iload_n 7 (gd rfl) rfl rfl ?_
        refine g_if_ne 10 23 (gd rfl) rfl rfl (fun c162x7 => ?_) (fun c162x7 => ?_)
        · skip
          have i162x7 := z_ne 1 1 c162x7 h2 rfl
          refine g_iconst 0 24 (gd rfl) rfl rfl ?_
          refine g_ireturn (gd rfl) rfl (nb01 (in_w 0 1 (in_c 0 rfl) rfl)) (hp162 _ _ ?_)
          show GG _ _ _ _ _ _ _ _ [.int (Int32.ofInt 0), .ref (A 46)] _ _ _
          refine g_if_eq 168 172 (gd rfl) rfl rfl (fun c165 => ?_) (fun c165 => ?_)
          · skip
            refine g_iconst 4 173 (gd rfl) rfl rfl ?_
            refine g_putI 176 (gd rfl) rfl rfl rfl rfl ?_
            have hI173 := inv_sF (q := 46) (j := 3) hI130 rfl (in_w 0 5 (in_c 4 rfl) rfl)
            refine g_aload_n 177 (gd rfl) rfl rfl ?_
            refine g_iload_n 178 (gd rfl) rfl rfl ?_
            refine g_putI 181 (gd rfl) rfl rfl rfl rfl ?_
            have hI178 := inv_sF (q := 46) (j := 5) hI173 rfl (in_w (-2147483648) 2147483647 i136 rfl)
            have n181 : (x1).toInt = 6 → TK (sF (sF (sF sc123 46 2 z129) 46 3 (Int32.ofInt 4)) 46 5 y123_3) := by intro h6; exact ⟨(Or.inr (by rw [← (show w123_46_4 = (sF (sF (sF sc123 46 2 z129) 46 3 (Int32.ofInt 4)) 46 5 y123_3).2.2.1 46 4 from sF_ne rfl (sF_ne rfl (sF_ne rfl (v123_46_4)))), ← (show z129 = (sF (sF (sF sc123 46 2 z129) 46 3 (Int32.ofInt 4)) 46 5 y123_3).2.2.1 46 2 from sF_ne rfl (sF_ne rfl (sF_get)))]; exact (have a0 := in_u i162x7; have a1 := in_u h1; have a2 := in_u ro_46_1; have a3 := in_u ((inv_F hIc123 0 1000 rfl v123_46_4)); have a4 := in_u ((inv_F hIc123 0 1000 rfl v123_46_2)); have a5 := in_u j123_4; have a6 := in_u i136; have a7 := in_u ((in_c 4 rfl)); have a8 := in_u i130; have a9 := t_add e129 (inv_F hIc123 0 1000 rfl v123_46_2) (in_c 1 rfl) rfl; have a10 := in_u ((in_c 1 rfl)); by omega))), (fun h2 => absurd h2 (by rw [← (show (Int32.ofInt 4) = (sF (sF (sF sc123 46 2 z129) 46 3 (Int32.ofInt 4)) 46 5 y123_3).2.2.1 46 3 from sF_ne rfl (sF_get))]; decide))⟩
            have n181a : ((sF (sF (sF sc123 46 2 z129) 46 3 (Int32.ofInt 4)) 46 5 y123_3).2.2.1 46 3).toInt = 1 → In ((sF (sF (sF sc123 46 2 z129) 46 3 (Int32.ofInt 4)) 46 5 y123_3).2.2.1 46 5) 0 25 := by intro h1; rw [← (show (Int32.ofInt 4) = (sF (sF (sF sc123 46 2 z129) 46 3 (Int32.ofInt 4)) 46 5 y123_3).2.2.1 46 3 from sF_ne rfl (sF_get))] at h1; exact absurd h1 (by decide)
            have n181b : (z129).toInt ≤ (u_46_1).toInt := by exact (have a0 := in_u i162x7; have a1 := in_u h1; have a2 := in_u ro_46_1; have a3 := in_u ((inv_F hIc123 0 1000 rfl v123_46_4)); have a4 := in_u ((inv_F hIc123 0 1000 rfl v123_46_2)); have a5 := in_u j123_4; have a6 := in_u i136; have a7 := in_u ((in_c 4 rfl)); have a8 := in_u i130; have a9 := t_add e129 (inv_F hIc123 0 1000 rfl v123_46_2) (in_c 1 rfl) rfl; have a10 := in_u ((in_c 1 rfl)); by omega)
            have n181c : ((sF (sF (sF sc123 46 2 z129) 46 3 (Int32.ofInt 4)) 46 5 y123_3).2.2.1 46 2).toInt ≤ ((sF (sF (sF sc123 46 2 z129) 46 3 (Int32.ofInt 4)) 46 5 y123_3).2.2.1 46 1).toInt := by have b0 : z129 = (sF (sF (sF sc123 46 2 z129) 46 3 (Int32.ofInt 4)) 46 5 y123_3).2.2.1 46 2 := sF_ne rfl (sF_ne rfl (sF_get)); have b1 : u_46_1 = (sF (sF (sF sc123 46 2 z129) 46 3 (Int32.ofInt 4)) 46 5 y123_3).2.2.1 46 1 := sF_ne rfl (sF_ne rfl (sF_ne rfl (fr_F e_46_1 hFc123 rfl))); rw [← b0, ← b1]; exact n181b
            have n181d : (w123_46_4).toInt ≤ (z129).toInt := by exact (have a0 := in_u i162x7; have a1 := in_u h1; have a2 := in_u ro_46_1; have a3 := in_u ((inv_F hIc123 0 1000 rfl v123_46_4)); have a4 := in_u ((inv_F hIc123 0 1000 rfl v123_46_2)); have a5 := in_u j123_4; have a6 := in_u i136; have a7 := in_u ((in_c 4 rfl)); have a8 := in_u i130; have a9 := t_add e129 (inv_F hIc123 0 1000 rfl v123_46_2) (in_c 1 rfl) rfl; have a10 := in_u ((in_c 1 rfl)); by omega)
            have n181e : ((sF (sF (sF sc123 46 2 z129) 46 3 (Int32.ofInt 4)) 46 5 y123_3).2.2.1 46 4).toInt ≤ ((sF (sF (sF sc123 46 2 z129) 46 3 (Int32.ofInt 4)) 46 5 y123_3).2.2.1 46 2).toInt := by have b0 : w123_46_4 = (sF (sF (sF sc123 46 2 z129) 46 3 (Int32.ofInt 4)) 46 5 y123_3).2.2.1 46 4 := sF_ne rfl (sF_ne rfl (sF_ne rfl (v123_46_4))); have b1 : z129 = (sF (sF (sF sc123 46 2 z129) 46 3 (Int32.ofInt 4)) 46 5 y123_3).2.2.1 46 2 := sF_ne rfl (sF_ne rfl (sF_get)); rw [← b0, ← b1]; exact n181d
            have n181f : (u_46_2).toInt ≤ (w123_46_4).toInt := by exact (have a0 := in_u i162x7; have a1 := in_u h1; have a2 := in_u ro_46_1; have a3 := in_u ((inv_F hIc123 0 1000 rfl v123_46_4)); have a4 := in_u ((inv_F hIc123 0 1000 rfl v123_46_2)); have a5 := in_u j123_4; have a6 := in_u i136; have a7 := in_u ((in_c 4 rfl)); have a8 := in_u i130; have a9 := t_add e129 (inv_F hIc123 0 1000 rfl v123_46_2) (in_c 1 rfl) rfl; have a10 := in_u ((in_c 1 rfl)); by omega)
            have n181g : (s.2.2.1 46 2).toInt ≤ ((sF (sF (sF sc123 46 2 z129) 46 3 (Int32.ofInt 4)) 46 5 y123_3).2.2.1 46 4).toInt := by have b0 : w123_46_4 = (sF (sF (sF sc123 46 2 z129) 46 3 (Int32.ofInt 4)) 46 5 y123_3).2.2.1 46 4 := sF_ne rfl (sF_ne rfl (sF_ne rfl (v123_46_4))); rw [← b0, ← e_46_2]; exact n181f
            exact g_return (gd rfl) rfl (hP _ _ ⟨(sF (sF (sF sc123 46 2 z129) 46 3 (Int32.ofInt 4)) 46 5 y123_3), hI178, (fr_sF rfl (fr_sF rfl (fr_sF rfl hFc123))), n181c, n181e, n181g, rfl, rfl, n181, n181a⟩)
          · skip
            exact zn_ne c165 (in_c 0 rfl) rfl
        · skip
          have i162x7 := z_eq 0 0 c162x7 h2 rfl
          refine g_ldcs 0 12 (gd rfl) rfl rfl ?_
          refine g_iload_n 13 (gd rfl) rfl rfl ?_
          have i162x13 : In (Int32.ofInt 0) 0 6 := in_w 0 6 (in_c 0 rfl) rfl
          refine g_callS (X := _) (As := [.int y123_3]) (r := []) (x := (Int32.ofInt 0)) 16 (gd rfl) rfl rfl rfl zm_430 rfl rfl rfl i162x13 (Nat.le_of_ble_eq_true rfl) (k_430 i162x13 (by omega)) (fun e u h => h) (fun v u h => ?_)
          obtain ⟨z162x13, rfl, rfl, p162x13⟩ := h
          have i162x13a : In z162x13 (-1) 8 := by have a := zn_9 i162x13; unfold In at p162x13; exact ⟨by omega, by omega⟩
          show GG _ _ _ _ _ _ _ _ [.int z162x13] _ _ _
          refine g_if_lt 19 23 (gd rfl) rfl rfl (fun c162x16 => ?_) (fun c162x16 => ?_)
          · skip
            have i162x16 := z_lt (-1) (-1) c162x16 i162x13a rfl
            refine g_iconst 0 24 (gd rfl) rfl rfl ?_
            refine g_ireturn (gd rfl) rfl (nb01 (in_w 0 1 (in_c 0 rfl) rfl)) (hp162 _ _ ?_)
            show GG _ _ _ _ _ _ _ _ [.int (Int32.ofInt 0), .ref (A 46)] _ _ _
            refine g_if_eq 168 172 (gd rfl) rfl rfl (fun c165 => ?_) (fun c165 => ?_)
            · skip
              refine g_iconst 4 173 (gd rfl) rfl rfl ?_
              refine g_putI 176 (gd rfl) rfl rfl rfl rfl ?_
              have hI173 := inv_sF (q := 46) (j := 3) hI130 rfl (in_w 0 5 (in_c 4 rfl) rfl)
              refine g_aload_n 177 (gd rfl) rfl rfl ?_
              refine g_iload_n 178 (gd rfl) rfl rfl ?_
              refine g_putI 181 (gd rfl) rfl rfl rfl rfl ?_
              have hI178 := inv_sF (q := 46) (j := 5) hI173 rfl (in_w (-2147483648) 2147483647 i136 rfl)
              have n181 : (x1).toInt = 6 → TK (sF (sF (sF sc123 46 2 z129) 46 3 (Int32.ofInt 4)) 46 5 y123_3) := by intro h6; exact ⟨(Or.inr (by rw [← (show w123_46_4 = (sF (sF (sF sc123 46 2 z129) 46 3 (Int32.ofInt 4)) 46 5 y123_3).2.2.1 46 4 from sF_ne rfl (sF_ne rfl (sF_ne rfl (v123_46_4)))), ← (show z129 = (sF (sF (sF sc123 46 2 z129) 46 3 (Int32.ofInt 4)) 46 5 y123_3).2.2.1 46 2 from sF_ne rfl (sF_ne rfl (sF_get)))]; exact (have a0 := in_u i162x7; have a1 := in_u h1; have a2 := in_u ro_46_1; have a3 := in_u ((inv_F hIc123 0 1000 rfl v123_46_4)); have a4 := in_u ((inv_F hIc123 0 1000 rfl v123_46_2)); have a5 := in_u j123_4; have a6 := in_u i136; have a7 := in_u ((in_c 4 rfl)); have a8 := in_u i130; have a9 := t_add e129 (inv_F hIc123 0 1000 rfl v123_46_2) (in_c 1 rfl) rfl; have a10 := in_u ((in_c 1 rfl)); by omega))), (fun h2 => absurd h2 (by rw [← (show (Int32.ofInt 4) = (sF (sF (sF sc123 46 2 z129) 46 3 (Int32.ofInt 4)) 46 5 y123_3).2.2.1 46 3 from sF_ne rfl (sF_get))]; decide))⟩
              have n181a : ((sF (sF (sF sc123 46 2 z129) 46 3 (Int32.ofInt 4)) 46 5 y123_3).2.2.1 46 3).toInt = 1 → In ((sF (sF (sF sc123 46 2 z129) 46 3 (Int32.ofInt 4)) 46 5 y123_3).2.2.1 46 5) 0 25 := by intro h1; rw [← (show (Int32.ofInt 4) = (sF (sF (sF sc123 46 2 z129) 46 3 (Int32.ofInt 4)) 46 5 y123_3).2.2.1 46 3 from sF_ne rfl (sF_get))] at h1; exact absurd h1 (by decide)
              have n181b : (z129).toInt ≤ (u_46_1).toInt := by exact (have a0 := in_u i162x7; have a1 := in_u h1; have a2 := in_u ro_46_1; have a3 := in_u ((inv_F hIc123 0 1000 rfl v123_46_4)); have a4 := in_u ((inv_F hIc123 0 1000 rfl v123_46_2)); have a5 := in_u j123_4; have a6 := in_u i136; have a7 := in_u ((in_c 4 rfl)); have a8 := in_u i130; have a9 := t_add e129 (inv_F hIc123 0 1000 rfl v123_46_2) (in_c 1 rfl) rfl; have a10 := in_u ((in_c 1 rfl)); by omega)
              have n181c : ((sF (sF (sF sc123 46 2 z129) 46 3 (Int32.ofInt 4)) 46 5 y123_3).2.2.1 46 2).toInt ≤ ((sF (sF (sF sc123 46 2 z129) 46 3 (Int32.ofInt 4)) 46 5 y123_3).2.2.1 46 1).toInt := by have b0 : z129 = (sF (sF (sF sc123 46 2 z129) 46 3 (Int32.ofInt 4)) 46 5 y123_3).2.2.1 46 2 := sF_ne rfl (sF_ne rfl (sF_get)); have b1 : u_46_1 = (sF (sF (sF sc123 46 2 z129) 46 3 (Int32.ofInt 4)) 46 5 y123_3).2.2.1 46 1 := sF_ne rfl (sF_ne rfl (sF_ne rfl (fr_F e_46_1 hFc123 rfl))); rw [← b0, ← b1]; exact n181b
              have n181d : (w123_46_4).toInt ≤ (z129).toInt := by exact (have a0 := in_u i162x7; have a1 := in_u h1; have a2 := in_u ro_46_1; have a3 := in_u ((inv_F hIc123 0 1000 rfl v123_46_4)); have a4 := in_u ((inv_F hIc123 0 1000 rfl v123_46_2)); have a5 := in_u j123_4; have a6 := in_u i136; have a7 := in_u ((in_c 4 rfl)); have a8 := in_u i130; have a9 := t_add e129 (inv_F hIc123 0 1000 rfl v123_46_2) (in_c 1 rfl) rfl; have a10 := in_u ((in_c 1 rfl)); by omega)
              have n181e : ((sF (sF (sF sc123 46 2 z129) 46 3 (Int32.ofInt 4)) 46 5 y123_3).2.2.1 46 4).toInt ≤ ((sF (sF (sF sc123 46 2 z129) 46 3 (Int32.ofInt 4)) 46 5 y123_3).2.2.1 46 2).toInt := by have b0 : w123_46_4 = (sF (sF (sF sc123 46 2 z129) 46 3 (Int32.ofInt 4)) 46 5 y123_3).2.2.1 46 4 := sF_ne rfl (sF_ne rfl (sF_ne rfl (v123_46_4))); have b1 : z129 = (sF (sF (sF sc123 46 2 z129) 46 3 (Int32.ofInt 4)) 46 5 y123_3).2.2.1 46 2 := sF_ne rfl (sF_ne rfl (sF_get)); rw [← b0, ← b1]; exact n181d
              have n181f : (u_46_2).toInt ≤ (w123_46_4).toInt := by exact (have a0 := in_u i162x7; have a1 := in_u h1; have a2 := in_u ro_46_1; have a3 := in_u ((inv_F hIc123 0 1000 rfl v123_46_4)); have a4 := in_u ((inv_F hIc123 0 1000 rfl v123_46_2)); have a5 := in_u j123_4; have a6 := in_u i136; have a7 := in_u ((in_c 4 rfl)); have a8 := in_u i130; have a9 := t_add e129 (inv_F hIc123 0 1000 rfl v123_46_2) (in_c 1 rfl) rfl; have a10 := in_u ((in_c 1 rfl)); by omega)
              have n181g : (s.2.2.1 46 2).toInt ≤ ((sF (sF (sF sc123 46 2 z129) 46 3 (Int32.ofInt 4)) 46 5 y123_3).2.2.1 46 4).toInt := by have b0 : w123_46_4 = (sF (sF (sF sc123 46 2 z129) 46 3 (Int32.ofInt 4)) 46 5 y123_3).2.2.1 46 4 := sF_ne rfl (sF_ne rfl (sF_ne rfl (v123_46_4))); rw [← b0, ← e_46_2]; exact n181f
              exact g_return (gd rfl) rfl (hP _ _ ⟨(sF (sF (sF sc123 46 2 z129) 46 3 (Int32.ofInt 4)) 46 5 y123_3), hI178, (fr_sF rfl (fr_sF rfl (fr_sF rfl hFc123))), n181c, n181e, n181g, rfl, rfl, n181, n181a⟩)
            · skip
              exact zn_ne c165 (in_c 0 rfl) rfl
          · skip
            have i162x16 := z_ge 0 8 c162x16 i162x13a rfl
            refine g_iconst 1 20 (gd rfl) rfl rfl ?_
            refine g_goto 24 (gd rfl) rfl ?_
            refine g_ireturn (gd rfl) rfl (nb01 (in_w 0 1 (in_c 1 rfl) rfl)) (hp162 _ _ ?_)
            show GG _ _ _ _ _ _ _ _ [.int (Int32.ofInt 1), .ref (A 46)] _ _ _
            refine g_if_eq 168 172 (gd rfl) rfl rfl (fun c165 => ?_) (fun c165 => ?_)
            · skip
              exact zn_eq c165 (in_c 1 rfl) rfl
            · skip
              refine g_iconst 3 169 (gd rfl) rfl rfl ?_
              refine g_goto 173 (gd rfl) rfl ?_
              refine g_putI 176 (gd rfl) rfl rfl rfl rfl ?_
              have hI173 := inv_sF (q := 46) (j := 3) hI130 rfl (in_w 0 5 (in_c 3 rfl) rfl)
              refine g_aload_n 177 (gd rfl) rfl rfl ?_
              refine g_iload_n 178 (gd rfl) rfl rfl ?_
              refine g_putI 181 (gd rfl) rfl rfl rfl rfl ?_
              have hI178 := inv_sF (q := 46) (j := 5) hI173 rfl (in_w (-2147483648) 2147483647 i136 rfl)
              have n181 : (x1).toInt = 6 → TK (sF (sF (sF sc123 46 2 z129) 46 3 (Int32.ofInt 3)) 46 5 y123_3) := by intro h6; exact ⟨(Or.inr (by rw [← (show w123_46_4 = (sF (sF (sF sc123 46 2 z129) 46 3 (Int32.ofInt 3)) 46 5 y123_3).2.2.1 46 4 from sF_ne rfl (sF_ne rfl (sF_ne rfl (v123_46_4)))), ← (show z129 = (sF (sF (sF sc123 46 2 z129) 46 3 (Int32.ofInt 3)) 46 5 y123_3).2.2.1 46 2 from sF_ne rfl (sF_ne rfl (sF_get)))]; exact (have a0 := in_u i162x7; have a1 := in_u h1; have a2 := in_u ro_46_1; have a3 := in_u ((inv_F hIc123 0 1000 rfl v123_46_4)); have a4 := in_u ((inv_F hIc123 0 1000 rfl v123_46_2)); have a5 := in_u j123_4; have a6 := in_u i136; have a7 := in_u ((in_c 3 rfl)); have a8 := in_u i130; have a9 := t_add e129 (inv_F hIc123 0 1000 rfl v123_46_2) (in_c 1 rfl) rfl; have a10 := in_u ((in_c 1 rfl)); by omega))), (fun h2 => absurd h2 (by rw [← (show (Int32.ofInt 3) = (sF (sF (sF sc123 46 2 z129) 46 3 (Int32.ofInt 3)) 46 5 y123_3).2.2.1 46 3 from sF_ne rfl (sF_get))]; decide))⟩
              have n181a : ((sF (sF (sF sc123 46 2 z129) 46 3 (Int32.ofInt 3)) 46 5 y123_3).2.2.1 46 3).toInt = 1 → In ((sF (sF (sF sc123 46 2 z129) 46 3 (Int32.ofInt 3)) 46 5 y123_3).2.2.1 46 5) 0 25 := by intro h1; rw [← (show (Int32.ofInt 3) = (sF (sF (sF sc123 46 2 z129) 46 3 (Int32.ofInt 3)) 46 5 y123_3).2.2.1 46 3 from sF_ne rfl (sF_get))] at h1; exact absurd h1 (by decide)
              have n181b : (z129).toInt ≤ (u_46_1).toInt := by exact (have a0 := in_u i162x7; have a1 := in_u h1; have a2 := in_u ro_46_1; have a3 := in_u ((inv_F hIc123 0 1000 rfl v123_46_4)); have a4 := in_u ((inv_F hIc123 0 1000 rfl v123_46_2)); have a5 := in_u j123_4; have a6 := in_u i136; have a7 := in_u ((in_c 3 rfl)); have a8 := in_u i130; have a9 := t_add e129 (inv_F hIc123 0 1000 rfl v123_46_2) (in_c 1 rfl) rfl; have a10 := in_u ((in_c 1 rfl)); by omega)
              have n181c : ((sF (sF (sF sc123 46 2 z129) 46 3 (Int32.ofInt 3)) 46 5 y123_3).2.2.1 46 2).toInt ≤ ((sF (sF (sF sc123 46 2 z129) 46 3 (Int32.ofInt 3)) 46 5 y123_3).2.2.1 46 1).toInt := by have b0 : z129 = (sF (sF (sF sc123 46 2 z129) 46 3 (Int32.ofInt 3)) 46 5 y123_3).2.2.1 46 2 := sF_ne rfl (sF_ne rfl (sF_get)); have b1 : u_46_1 = (sF (sF (sF sc123 46 2 z129) 46 3 (Int32.ofInt 3)) 46 5 y123_3).2.2.1 46 1 := sF_ne rfl (sF_ne rfl (sF_ne rfl (fr_F e_46_1 hFc123 rfl))); rw [← b0, ← b1]; exact n181b
              have n181d : (w123_46_4).toInt ≤ (z129).toInt := by exact (have a0 := in_u i162x7; have a1 := in_u h1; have a2 := in_u ro_46_1; have a3 := in_u ((inv_F hIc123 0 1000 rfl v123_46_4)); have a4 := in_u ((inv_F hIc123 0 1000 rfl v123_46_2)); have a5 := in_u j123_4; have a6 := in_u i136; have a7 := in_u ((in_c 3 rfl)); have a8 := in_u i130; have a9 := t_add e129 (inv_F hIc123 0 1000 rfl v123_46_2) (in_c 1 rfl) rfl; have a10 := in_u ((in_c 1 rfl)); by omega)
              have n181e : ((sF (sF (sF sc123 46 2 z129) 46 3 (Int32.ofInt 3)) 46 5 y123_3).2.2.1 46 4).toInt ≤ ((sF (sF (sF sc123 46 2 z129) 46 3 (Int32.ofInt 3)) 46 5 y123_3).2.2.1 46 2).toInt := by have b0 : w123_46_4 = (sF (sF (sF sc123 46 2 z129) 46 3 (Int32.ofInt 3)) 46 5 y123_3).2.2.1 46 4 := sF_ne rfl (sF_ne rfl (sF_ne rfl (v123_46_4))); have b1 : z129 = (sF (sF (sF sc123 46 2 z129) 46 3 (Int32.ofInt 3)) 46 5 y123_3).2.2.1 46 2 := sF_ne rfl (sF_ne rfl (sF_get)); rw [← b0, ← b1]; exact n181d
              have n181f : (u_46_2).toInt ≤ (w123_46_4).toInt := by exact (have a0 := in_u i162x7; have a1 := in_u h1; have a2 := in_u ro_46_1; have a3 := in_u ((inv_F hIc123 0 1000 rfl v123_46_4)); have a4 := in_u ((inv_F hIc123 0 1000 rfl v123_46_2)); have a5 := in_u j123_4; have a6 := in_u i136; have a7 := in_u ((in_c 3 rfl)); have a8 := in_u i130; have a9 := t_add e129 (inv_F hIc123 0 1000 rfl v123_46_2) (in_c 1 rfl) rfl; have a10 := in_u ((in_c 1 rfl)); by omega)
              have n181g : (s.2.2.1 46 2).toInt ≤ ((sF (sF (sF sc123 46 2 z129) 46 3 (Int32.ofInt 3)) 46 5 y123_3).2.2.1 46 4).toInt := by have b0 : w123_46_4 = (sF (sF (sF sc123 46 2 z129) 46 3 (Int32.ofInt 3)) 46 5 y123_3).2.2.1 46 4 := sF_ne rfl (sF_ne rfl (sF_ne rfl (v123_46_4))); rw [← b0, ← e_46_2]; exact n181f
              exact g_return (gd rfl) rfl (hP _ _ ⟨(sF (sF (sF sc123 46 2 z129) 46 3 (Int32.ofInt 3)) 46 5 y123_3), hI178, (fr_sF rfl (fr_sF rfl (fr_sF rfl hFc123))), n181c, n181e, n181g, rfl, rfl, n181, n181a⟩)
    · skip
      have i136 := r_le2 97 65535 c136 (in_c 97 rfl) j123_3 rfl
      refine g_iload_n 140 (gd rfl) rfl rfl ?_
      refine g_bipush 122 142 (gd rfl) rfl rfl ?_
      refine g_cmp_gt 145 159 (gd rfl) rfl rfl (fun c142 => ?_) (fun c142 => ?_)
      · skip
        have i142 := r_lt2 123 65535 c142 (in_c 122 rfl) i136 rfl
        refine g_aload_n 160 (gd rfl) rfl rfl ?_
        refine g_iload_n 161 (gd rfl) rfl rfl ?_
        refine g_iload_n 162 (gd rfl) rfl rfl ?_
        refine g_calls (As := [.int y123_3, .int x2]) (r := [.ref (A 46)]) 165 (gd rfl) rfl rfl rfl rfl rfl (Nat.le_of_ble_eq_true rfl) (mc := 0) (ms := 0) (Nat.zero_le _) (Nat.zero_le _) (P := fun v u => _) ?_ (fun v u h => h)
        intro po162 xx162 hp162 hx162
        refine g_enter2 (k := 174) (N := 300) (by first | exact dq1 hd rfl | exact dq0 hd rfl | exact dq2 hd rfl | exact dq3 hd rfl | omega) rfl (Nat.le_of_ble_eq_true rfl) ?_
        refine g_iload_n 1 (gd rfl) rfl rfl ?_
        refine g_bipush 59 3 (gd rfl) rfl rfl ?_
        refine g_cmp_eq 6 19 (gd rfl) rfl rfl (fun c162x3 => ?_) (fun c162x3 => ?_)
        · skip
          exact n_eq c162x3 i142 (in_c 59 rfl) rfl
        · skip
          refine g_iload_n 7 (gd rfl) rfl rfl ?_
          refine g_if_ne 10 23 (gd rfl) rfl rfl (fun c162x7 => ?_) (fun c162x7 => ?_)
          · skip
            have i162x7 := z_ne 1 1 c162x7 h2 rfl
            refine g_iconst 0 24 (gd rfl) rfl rfl ?_
            refine g_ireturn (gd rfl) rfl (nb01 (in_w 0 1 (in_c 0 rfl) rfl)) (hp162 _ _ ?_)
            show GG _ _ _ _ _ _ _ _ [.int (Int32.ofInt 0), .ref (A 46)] _ _ _
            refine g_if_eq 168 172 (gd rfl) rfl rfl (fun c165 => ?_) (fun c165 => ?_)
            · skip
              refine g_iconst 4 173 (gd rfl) rfl rfl ?_
              refine g_putI 176 (gd rfl) rfl rfl rfl rfl ?_
              have hI173 := inv_sF (q := 46) (j := 3) hI130 rfl (in_w 0 5 (in_c 4 rfl) rfl)
              refine g_aload_n 177 (gd rfl) rfl rfl ?_
              refine g_iload_n 178 (gd rfl) rfl rfl ?_
              refine g_putI 181 (gd rfl) rfl rfl rfl rfl ?_
              have hI178 := inv_sF (q := 46) (j := 5) hI173 rfl (in_w (-2147483648) 2147483647 i142 rfl)
              have n181 : (x1).toInt = 6 → TK (sF (sF (sF sc123 46 2 z129) 46 3 (Int32.ofInt 4)) 46 5 y123_3) := by intro h6; exact ⟨(Or.inr (by rw [← (show w123_46_4 = (sF (sF (sF sc123 46 2 z129) 46 3 (Int32.ofInt 4)) 46 5 y123_3).2.2.1 46 4 from sF_ne rfl (sF_ne rfl (sF_ne rfl (v123_46_4)))), ← (show z129 = (sF (sF (sF sc123 46 2 z129) 46 3 (Int32.ofInt 4)) 46 5 y123_3).2.2.1 46 2 from sF_ne rfl (sF_ne rfl (sF_get)))]; exact (have a0 := in_u i162x7; have a1 := in_u h1; have a2 := in_u ro_46_1; have a3 := in_u ((inv_F hIc123 0 1000 rfl v123_46_4)); have a4 := in_u ((inv_F hIc123 0 1000 rfl v123_46_2)); have a5 := in_u j123_4; have a6 := in_u i142; have a7 := in_u ((in_c 4 rfl)); have a8 := in_u i130; have a9 := t_add e129 (inv_F hIc123 0 1000 rfl v123_46_2) (in_c 1 rfl) rfl; have a10 := in_u ((in_c 1 rfl)); by omega))), (fun h2 => absurd h2 (by rw [← (show (Int32.ofInt 4) = (sF (sF (sF sc123 46 2 z129) 46 3 (Int32.ofInt 4)) 46 5 y123_3).2.2.1 46 3 from sF_ne rfl (sF_get))]; decide))⟩
              have n181a : ((sF (sF (sF sc123 46 2 z129) 46 3 (Int32.ofInt 4)) 46 5 y123_3).2.2.1 46 3).toInt = 1 → In ((sF (sF (sF sc123 46 2 z129) 46 3 (Int32.ofInt 4)) 46 5 y123_3).2.2.1 46 5) 0 25 := by intro h1; rw [← (show (Int32.ofInt 4) = (sF (sF (sF sc123 46 2 z129) 46 3 (Int32.ofInt 4)) 46 5 y123_3).2.2.1 46 3 from sF_ne rfl (sF_get))] at h1; exact absurd h1 (by decide)
              have n181b : (z129).toInt ≤ (u_46_1).toInt := by exact (have a0 := in_u i162x7; have a1 := in_u h1; have a2 := in_u ro_46_1; have a3 := in_u ((inv_F hIc123 0 1000 rfl v123_46_4)); have a4 := in_u ((inv_F hIc123 0 1000 rfl v123_46_2)); have a5 := in_u j123_4; have a6 := in_u i142; have a7 := in_u ((in_c 4 rfl)); have a8 := in_u i130; have a9 := t_add e129 (inv_F hIc123 0 1000 rfl v123_46_2) (in_c 1 rfl) rfl; have a10 := in_u ((in_c 1 rfl)); by omega)
              have n181c : ((sF (sF (sF sc123 46 2 z129) 46 3 (Int32.ofInt 4)) 46 5 y123_3).2.2.1 46 2).toInt ≤ ((sF (sF (sF sc123 46 2 z129) 46 3 (Int32.ofInt 4)) 46 5 y123_3).2.2.1 46 1).toInt := by have b0 : z129 = (sF (sF (sF sc123 46 2 z129) 46 3 (Int32.ofInt 4)) 46 5 y123_3).2.2.1 46 2 := sF_ne rfl (sF_ne rfl (sF_get)); have b1 : u_46_1 = (sF (sF (sF sc123 46 2 z129) 46 3 (Int32.ofInt 4)) 46 5 y123_3).2.2.1 46 1 := sF_ne rfl (sF_ne rfl (sF_ne rfl (fr_F e_46_1 hFc123 rfl))); rw [← b0, ← b1]; exact n181b
              have n181d : (w123_46_4).toInt ≤ (z129).toInt := by exact (have a0 := in_u i162x7; have a1 := in_u h1; have a2 := in_u ro_46_1; have a3 := in_u ((inv_F hIc123 0 1000 rfl v123_46_4)); have a4 := in_u ((inv_F hIc123 0 1000 rfl v123_46_2)); have a5 := in_u j123_4; have a6 := in_u i142; have a7 := in_u ((in_c 4 rfl)); have a8 := in_u i130; have a9 := t_add e129 (inv_F hIc123 0 1000 rfl v123_46_2) (in_c 1 rfl) rfl; have a10 := in_u ((in_c 1 rfl)); by omega)
              have n181e : ((sF (sF (sF sc123 46 2 z129) 46 3 (Int32.ofInt 4)) 46 5 y123_3).2.2.1 46 4).toInt ≤ ((sF (sF (sF sc123 46 2 z129) 46 3 (Int32.ofInt 4)) 46 5 y123_3).2.2.1 46 2).toInt := by have b0 : w123_46_4 = (sF (sF (sF sc123 46 2 z129) 46 3 (Int32.ofInt 4)) 46 5 y123_3).2.2.1 46 4 := sF_ne rfl (sF_ne rfl (sF_ne rfl (v123_46_4))); have b1 : z129 = (sF (sF (sF sc123 46 2 z129) 46 3 (Int32.ofInt 4)) 46 5 y123_3).2.2.1 46 2 := sF_ne rfl (sF_ne rfl (sF_get)); rw [← b0, ← b1]; exact n181d
              have n181f : (u_46_2).toInt ≤ (w123_46_4).toInt := by exact (have a0 := in_u i162x7; have a1 := in_u h1; have a2 := in_u ro_46_1; have a3 := in_u ((inv_F hIc123 0 1000 rfl v123_46_4)); have a4 := in_u ((inv_F hIc123 0 1000 rfl v123_46_2)); have a5 := in_u j123_4; have a6 := in_u i142; have a7 := in_u ((in_c 4 rfl)); have a8 := in_u i130; have a9 := t_add e129 (inv_F hIc123 0 1000 rfl v123_46_2) (in_c 1 rfl) rfl; have a10 := in_u ((in_c 1 rfl)); by omega)
              have n181g : (s.2.2.1 46 2).toInt ≤ ((sF (sF (sF sc123 46 2 z129) 46 3 (Int32.ofInt 4)) 46 5 y123_3).2.2.1 46 4).toInt := by have b0 : w123_46_4 = (sF (sF (sF sc123 46 2 z129) 46 3 (Int32.ofInt 4)) 46 5 y123_3).2.2.1 46 4 := sF_ne rfl (sF_ne rfl (sF_ne rfl (v123_46_4))); rw [← b0, ← e_46_2]; exact n181f
              exact g_return (gd rfl) rfl (hP _ _ ⟨(sF (sF (sF sc123 46 2 z129) 46 3 (Int32.ofInt 4)) 46 5 y123_3), hI178, (fr_sF rfl (fr_sF rfl (fr_sF rfl hFc123))), n181c, n181e, n181g, rfl, rfl, n181, n181a⟩)
            · skip
              exact zn_ne c165 (in_c 0 rfl) rfl
          · skip
            have i162x7 := z_eq 0 0 c162x7 h2 rfl
            refine g_ldcs 0 12 (gd rfl) rfl rfl ?_
            refine g_iload_n 13 (gd rfl) rfl rfl ?_
            have i162x13 : In (Int32.ofInt 0) 0 6 := in_w 0 6 (in_c 0 rfl) rfl
            refine g_callS (X := _) (As := [.int y123_3]) (r := []) (x := (Int32.ofInt 0)) 16 (gd rfl) rfl rfl rfl zm_430 rfl rfl rfl i162x13 (Nat.le_of_ble_eq_true rfl) (k_430 i162x13 (by omega)) (fun e u h => h) (fun v u h => ?_)
            obtain ⟨z162x13, rfl, rfl, p162x13⟩ := h
            have i162x13a : In z162x13 (-1) 8 := by have a := zn_9 i162x13; unfold In at p162x13; exact ⟨by omega, by omega⟩
            show GG _ _ _ _ _ _ _ _ [.int z162x13] _ _ _
            refine g_if_lt 19 23 (gd rfl) rfl rfl (fun c162x16 => ?_) (fun c162x16 => ?_)
            · skip
              have i162x16 := z_lt (-1) (-1) c162x16 i162x13a rfl
              refine g_iconst 0 24 (gd rfl) rfl rfl ?_
              refine g_ireturn (gd rfl) rfl (nb01 (in_w 0 1 (in_c 0 rfl) rfl)) (hp162 _ _ ?_)
              show GG _ _ _ _ _ _ _ _ [.int (Int32.ofInt 0), .ref (A 46)] _ _ _
              refine g_if_eq 168 172 (gd rfl) rfl rfl (fun c165 => ?_) (fun c165 => ?_)
              · skip
                refine g_iconst 4 173 (gd rfl) rfl rfl ?_
                refine g_putI 176 (gd rfl) rfl rfl rfl rfl ?_
                have hI173 := inv_sF (q := 46) (j := 3) hI130 rfl (in_w 0 5 (in_c 4 rfl) rfl)
                refine g_aload_n 177 (gd rfl) rfl rfl ?_
                refine g_iload_n 178 (gd rfl) rfl rfl ?_
                refine g_putI 181 (gd rfl) rfl rfl rfl rfl ?_
                have hI178 := inv_sF (q := 46) (j := 5) hI173 rfl (in_w (-2147483648) 2147483647 i142 rfl)
                have n181 : (x1).toInt = 6 → TK (sF (sF (sF sc123 46 2 z129) 46 3 (Int32.ofInt 4)) 46 5 y123_3) := by intro h6; exact ⟨(Or.inr (by rw [← (show w123_46_4 = (sF (sF (sF sc123 46 2 z129) 46 3 (Int32.ofInt 4)) 46 5 y123_3).2.2.1 46 4 from sF_ne rfl (sF_ne rfl (sF_ne rfl (v123_46_4)))), ← (show z129 = (sF (sF (sF sc123 46 2 z129) 46 3 (Int32.ofInt 4)) 46 5 y123_3).2.2.1 46 2 from sF_ne rfl (sF_ne rfl (sF_get)))]; exact (have a0 := in_u i162x7; have a1 := in_u h1; have a2 := in_u ro_46_1; have a3 := in_u ((inv_F hIc123 0 1000 rfl v123_46_4)); have a4 := in_u ((inv_F hIc123 0 1000 rfl v123_46_2)); have a5 := in_u j123_4; have a6 := in_u i142; have a7 := in_u ((in_c 4 rfl)); have a8 := in_u i130; have a9 := t_add e129 (inv_F hIc123 0 1000 rfl v123_46_2) (in_c 1 rfl) rfl; have a10 := in_u ((in_c 1 rfl)); by omega))), (fun h2 => absurd h2 (by rw [← (show (Int32.ofInt 4) = (sF (sF (sF sc123 46 2 z129) 46 3 (Int32.ofInt 4)) 46 5 y123_3).2.2.1 46 3 from sF_ne rfl (sF_get))]; decide))⟩
                have n181a : ((sF (sF (sF sc123 46 2 z129) 46 3 (Int32.ofInt 4)) 46 5 y123_3).2.2.1 46 3).toInt = 1 → In ((sF (sF (sF sc123 46 2 z129) 46 3 (Int32.ofInt 4)) 46 5 y123_3).2.2.1 46 5) 0 25 := by intro h1; rw [← (show (Int32.ofInt 4) = (sF (sF (sF sc123 46 2 z129) 46 3 (Int32.ofInt 4)) 46 5 y123_3).2.2.1 46 3 from sF_ne rfl (sF_get))] at h1; exact absurd h1 (by decide)
                have n181b : (z129).toInt ≤ (u_46_1).toInt := by exact (have a0 := in_u i162x7; have a1 := in_u h1; have a2 := in_u ro_46_1; have a3 := in_u ((inv_F hIc123 0 1000 rfl v123_46_4)); have a4 := in_u ((inv_F hIc123 0 1000 rfl v123_46_2)); have a5 := in_u j123_4; have a6 := in_u i142; have a7 := in_u ((in_c 4 rfl)); have a8 := in_u i130; have a9 := t_add e129 (inv_F hIc123 0 1000 rfl v123_46_2) (in_c 1 rfl) rfl; have a10 := in_u ((in_c 1 rfl)); by omega)
                have n181c : ((sF (sF (sF sc123 46 2 z129) 46 3 (Int32.ofInt 4)) 46 5 y123_3).2.2.1 46 2).toInt ≤ ((sF (sF (sF sc123 46 2 z129) 46 3 (Int32.ofInt 4)) 46 5 y123_3).2.2.1 46 1).toInt := by have b0 : z129 = (sF (sF (sF sc123 46 2 z129) 46 3 (Int32.ofInt 4)) 46 5 y123_3).2.2.1 46 2 := sF_ne rfl (sF_ne rfl (sF_get)); have b1 : u_46_1 = (sF (sF (sF sc123 46 2 z129) 46 3 (Int32.ofInt 4)) 46 5 y123_3).2.2.1 46 1 := sF_ne rfl (sF_ne rfl (sF_ne rfl (fr_F e_46_1 hFc123 rfl))); rw [← b0, ← b1]; exact n181b
                have n181d : (w123_46_4).toInt ≤ (z129).toInt := by exact (have a0 := in_u i162x7; have a1 := in_u h1; have a2 := in_u ro_46_1; have a3 := in_u ((inv_F hIc123 0 1000 rfl v123_46_4)); have a4 := in_u ((inv_F hIc123 0 1000 rfl v123_46_2)); have a5 := in_u j123_4; have a6 := in_u i142; have a7 := in_u ((in_c 4 rfl)); have a8 := in_u i130; have a9 := t_add e129 (inv_F hIc123 0 1000 rfl v123_46_2) (in_c 1 rfl) rfl; have a10 := in_u ((in_c 1 rfl)); by omega)
                have n181e : ((sF (sF (sF sc123 46 2 z129) 46 3 (Int32.ofInt 4)) 46 5 y123_3).2.2.1 46 4).toInt ≤ ((sF (sF (sF sc123 46 2 z129) 46 3 (Int32.ofInt 4)) 46 5 y123_3).2.2.1 46 2).toInt := by have b0 : w123_46_4 = (sF (sF (sF sc123 46 2 z129) 46 3 (Int32.ofInt 4)) 46 5 y123_3).2.2.1 46 4 := sF_ne rfl (sF_ne rfl (sF_ne rfl (v123_46_4))); have b1 : z129 = (sF (sF (sF sc123 46 2 z129) 46 3 (Int32.ofInt 4)) 46 5 y123_3).2.2.1 46 2 := sF_ne rfl (sF_ne rfl (sF_get)); rw [← b0, ← b1]; exact n181d
                have n181f : (u_46_2).toInt ≤ (w123_46_4).toInt := by exact (have a0 := in_u i162x7; have a1 := in_u h1; have a2 := in_u ro_46_1; have a3 := in_u ((inv_F hIc123 0 1000 rfl v123_46_4)); have a4 := in_u ((inv_F hIc123 0 1000 rfl v123_46_2)); have a5 := in_u j123_4; have a6 := in_u i142; have a7 := in_u ((in_c 4 rfl)); have a8 := in_u i130; have a9 := t_add e129 (inv_F hIc123 0 1000 rfl v123_46_2) (in_c 1 rfl) rfl; have a10 := in_u ((in_c 1 rfl)); by omega)
                have n181g : (s.2.2.1 46 2).toInt ≤ ((sF (sF (sF sc123 46 2 z129) 46 3 (Int32.ofInt 4)) 46 5 y123_3).2.2.1 46 4).toInt := by have b0 : w123_46_4 = (sF (sF (sF sc123 46 2 z129) 46 3 (Int32.ofInt 4)) 46 5 y123_3).2.2.1 46 4 := sF_ne rfl (sF_ne rfl (sF_ne rfl (v123_46_4))); rw [← b0, ← e_46_2]; exact n181f
                exact g_return (gd rfl) rfl (hP _ _ ⟨(sF (sF (sF sc123 46 2 z129) 46 3 (Int32.ofInt 4)) 46 5 y123_3), hI178, (fr_sF rfl (fr_sF rfl (fr_sF rfl hFc123))), n181c, n181e, n181g, rfl, rfl, n181, n181a⟩)
              · skip
                exact zn_ne c165 (in_c 0 rfl) rfl
            · skip
              have i162x16 := z_ge 0 8 c162x16 i162x13a rfl
              refine g_iconst 1 20 (gd rfl) rfl rfl ?_
              refine g_goto 24 (gd rfl) rfl ?_
              refine g_ireturn (gd rfl) rfl (nb01 (in_w 0 1 (in_c 1 rfl) rfl)) (hp162 _ _ ?_)
              show GG _ _ _ _ _ _ _ _ [.int (Int32.ofInt 1), .ref (A 46)] _ _ _
              refine g_if_eq 168 172 (gd rfl) rfl rfl (fun c165 => ?_) (fun c165 => ?_)
              · skip
                exact zn_eq c165 (in_c 1 rfl) rfl
              · skip
                refine g_iconst 3 169 (gd rfl) rfl rfl ?_
                refine g_goto 173 (gd rfl) rfl ?_
                refine g_putI 176 (gd rfl) rfl rfl rfl rfl ?_
                have hI173 := inv_sF (q := 46) (j := 3) hI130 rfl (in_w 0 5 (in_c 3 rfl) rfl)
                refine g_aload_n 177 (gd rfl) rfl rfl ?_
                refine g_iload_n 178 (gd rfl) rfl rfl ?_
                refine g_putI 181 (gd rfl) rfl rfl rfl rfl ?_
                have hI178 := inv_sF (q := 46) (j := 5) hI173 rfl (in_w (-2147483648) 2147483647 i142 rfl)
                have n181 : (x1).toInt = 6 → TK (sF (sF (sF sc123 46 2 z129) 46 3 (Int32.ofInt 3)) 46 5 y123_3) := by intro h6; exact ⟨(Or.inr (by rw [← (show w123_46_4 = (sF (sF (sF sc123 46 2 z129) 46 3 (Int32.ofInt 3)) 46 5 y123_3).2.2.1 46 4 from sF_ne rfl (sF_ne rfl (sF_ne rfl (v123_46_4)))), ← (show z129 = (sF (sF (sF sc123 46 2 z129) 46 3 (Int32.ofInt 3)) 46 5 y123_3).2.2.1 46 2 from sF_ne rfl (sF_ne rfl (sF_get)))]; exact (have a0 := in_u i162x7; have a1 := in_u h1; have a2 := in_u ro_46_1; have a3 := in_u ((inv_F hIc123 0 1000 rfl v123_46_4)); have a4 := in_u ((inv_F hIc123 0 1000 rfl v123_46_2)); have a5 := in_u j123_4; have a6 := in_u i142; have a7 := in_u ((in_c 3 rfl)); have a8 := in_u i130; have a9 := t_add e129 (inv_F hIc123 0 1000 rfl v123_46_2) (in_c 1 rfl) rfl; have a10 := in_u ((in_c 1 rfl)); by omega))), (fun h2 => absurd h2 (by rw [← (show (Int32.ofInt 3) = (sF (sF (sF sc123 46 2 z129) 46 3 (Int32.ofInt 3)) 46 5 y123_3).2.2.1 46 3 from sF_ne rfl (sF_get))]; decide))⟩
                have n181a : ((sF (sF (sF sc123 46 2 z129) 46 3 (Int32.ofInt 3)) 46 5 y123_3).2.2.1 46 3).toInt = 1 → In ((sF (sF (sF sc123 46 2 z129) 46 3 (Int32.ofInt 3)) 46 5 y123_3).2.2.1 46 5) 0 25 := by intro h1; rw [← (show (Int32.ofInt 3) = (sF (sF (sF sc123 46 2 z129) 46 3 (Int32.ofInt 3)) 46 5 y123_3).2.2.1 46 3 from sF_ne rfl (sF_get))] at h1; exact absurd h1 (by decide)
                have n181b : (z129).toInt ≤ (u_46_1).toInt := by exact (have a0 := in_u i162x7; have a1 := in_u h1; have a2 := in_u ro_46_1; have a3 := in_u ((inv_F hIc123 0 1000 rfl v123_46_4)); have a4 := in_u ((inv_F hIc123 0 1000 rfl v123_46_2)); have a5 := in_u j123_4; have a6 := in_u i142; have a7 := in_u ((in_c 3 rfl)); have a8 := in_u i130; have a9 := t_add e129 (inv_F hIc123 0 1000 rfl v123_46_2) (in_c 1 rfl) rfl; have a10 := in_u ((in_c 1 rfl)); by omega)
                have n181c : ((sF (sF (sF sc123 46 2 z129) 46 3 (Int32.ofInt 3)) 46 5 y123_3).2.2.1 46 2).toInt ≤ ((sF (sF (sF sc123 46 2 z129) 46 3 (Int32.ofInt 3)) 46 5 y123_3).2.2.1 46 1).toInt := by have b0 : z129 = (sF (sF (sF sc123 46 2 z129) 46 3 (Int32.ofInt 3)) 46 5 y123_3).2.2.1 46 2 := sF_ne rfl (sF_ne rfl (sF_get)); have b1 : u_46_1 = (sF (sF (sF sc123 46 2 z129) 46 3 (Int32.ofInt 3)) 46 5 y123_3).2.2.1 46 1 := sF_ne rfl (sF_ne rfl (sF_ne rfl (fr_F e_46_1 hFc123 rfl))); rw [← b0, ← b1]; exact n181b
                have n181d : (w123_46_4).toInt ≤ (z129).toInt := by exact (have a0 := in_u i162x7; have a1 := in_u h1; have a2 := in_u ro_46_1; have a3 := in_u ((inv_F hIc123 0 1000 rfl v123_46_4)); have a4 := in_u ((inv_F hIc123 0 1000 rfl v123_46_2)); have a5 := in_u j123_4; have a6 := in_u i142; have a7 := in_u ((in_c 3 rfl)); have a8 := in_u i130; have a9 := t_add e129 (inv_F hIc123 0 1000 rfl v123_46_2) (in_c 1 rfl) rfl; have a10 := in_u ((in_c 1 rfl)); by omega)
                have n181e : ((sF (sF (sF sc123 46 2 z129) 46 3 (Int32.ofInt 3)) 46 5 y123_3).2.2.1 46 4).toInt ≤ ((sF (sF (sF sc123 46 2 z129) 46 3 (Int32.ofInt 3)) 46 5 y123_3).2.2.1 46 2).toInt := by have b0 : w123_46_4 = (sF (sF (sF sc123 46 2 z129) 46 3 (Int32.ofInt 3)) 46 5 y123_3).2.2.1 46 4 := sF_ne rfl (sF_ne rfl (sF_ne rfl (v123_46_4))); have b1 : z129 = (sF (sF (sF sc123 46 2 z129) 46 3 (Int32.ofInt 3)) 46 5 y123_3).2.2.1 46 2 := sF_ne rfl (sF_ne rfl (sF_get)); rw [← b0, ← b1]; exact n181d
                have n181f : (u_46_2).toInt ≤ (w123_46_4).toInt := by exact (have a0 := in_u i162x7; have a1 := in_u h1; have a2 := in_u ro_46_1; have a3 := in_u ((inv_F hIc123 0 1000 rfl v123_46_4)); have a4 := in_u ((inv_F hIc123 0 1000 rfl v123_46_2)); have a5 := in_u j123_4; have a6 := in_u i142; have a7 := in_u ((in_c 3 rfl)); have a8 := in_u i130; have a9 := t_add e129 (inv_F hIc123 0 1000 rfl v123_46_2) (in_c 1 rfl) rfl; have a10 := in_u ((in_c 1 rfl)); by omega)
                have n181g : (s.2.2.1 46 2).toInt ≤ ((sF (sF (sF sc123 46 2 z129) 46 3 (Int32.ofInt 3)) 46 5 y123_3).2.2.1 46 4).toInt := by have b0 : w123_46_4 = (sF (sF (sF sc123 46 2 z129) 46 3 (Int32.ofInt 3)) 46 5 y123_3).2.2.1 46 4 := sF_ne rfl (sF_ne rfl (sF_ne rfl (v123_46_4))); rw [← b0, ← e_46_2]; exact n181f
                exact g_return (gd rfl) rfl (hP _ _ ⟨(sF (sF (sF sc123 46 2 z129) 46 3 (Int32.ofInt 3)) 46 5 y123_3), hI178, (fr_sF rfl (fr_sF rfl (fr_sF rfl hFc123))), n181c, n181e, n181g, rfl, rfl, n181, n181a⟩)
      · skip
        have i142 := r_le1 97 122 c142 i136 (in_c 122 rfl) rfl
        refine g_aload_n 146 (gd rfl) rfl rfl ?_
        refine g_iconst 1 147 (gd rfl) rfl rfl ?_
        refine g_putI 150 (gd rfl) rfl rfl rfl rfl ?_
        have hI147 := inv_sF (q := 46) (j := 3) hI130 rfl (in_w 0 5 (in_c 1 rfl) rfl)
        refine g_aload_n 151 (gd rfl) rfl rfl ?_
        refine g_iload_n 152 (gd rfl) rfl rfl ?_
        refine g_bipush 97 154 (gd rfl) rfl rfl ?_
        refine g_isub 155 (gd rfl) rfl (fun z154 e154 => ?_)
        have i154 := in_sub 0 25 e154 i142 (in_c 97 rfl) rfl rfl
        refine g_putI 158 (gd rfl) rfl rfl rfl rfl ?_
        have hI155 := inv_sF (q := 46) (j := 5) hI147 rfl (in_w (-2147483648) 2147483647 i154 rfl)
        have n158 : (x1).toInt = 6 → TK (sF (sF (sF sc123 46 2 z129) 46 3 (Int32.ofInt 1)) 46 5 z154) := by intro h6; exact ⟨(Or.inr (by rw [← (show w123_46_4 = (sF (sF (sF sc123 46 2 z129) 46 3 (Int32.ofInt 1)) 46 5 z154).2.2.1 46 4 from sF_ne rfl (sF_ne rfl (sF_ne rfl (v123_46_4)))), ← (show z129 = (sF (sF (sF sc123 46 2 z129) 46 3 (Int32.ofInt 1)) 46 5 z154).2.2.1 46 2 from sF_ne rfl (sF_ne rfl (sF_get)))]; have a0 := h2; unfold In at a0; have a1 := h1; unfold In at a1; have a2 := ro_46_1; unfold In at a2; have a3 := (inv_F hIc123 0 1000 rfl v123_46_4); unfold In at a3; have a4 := (inv_F hIc123 0 1000 rfl v123_46_2); unfold In at a4; have a5 := j123_4; unfold In at a5; have a6 := i142; unfold In at a6; have a7 := i154; unfold In at a7; have a8 := t_sub e154 i142 (in_c 97 rfl) rfl; have a9 := (in_c 97 rfl); unfold In at a9; have a10 := (in_c 1 rfl); unfold In at a10; have a11 := i130; unfold In at a11; have a12 := t_add e129 (inv_F hIc123 0 1000 rfl v123_46_2) (in_c 1 rfl) rfl; omega)), (fun h2 => absurd h2 (by rw [← (show (Int32.ofInt 1) = (sF (sF (sF sc123 46 2 z129) 46 3 (Int32.ofInt 1)) 46 5 z154).2.2.1 46 3 from sF_ne rfl (sF_get))]; decide))⟩
        have n158a : ((sF (sF (sF sc123 46 2 z129) 46 3 (Int32.ofInt 1)) 46 5 z154).2.2.1 46 3).toInt = 1 → In ((sF (sF (sF sc123 46 2 z129) 46 3 (Int32.ofInt 1)) 46 5 z154).2.2.1 46 5) 0 25 := by intro _; rw [← (show z154 = (sF (sF (sF sc123 46 2 z129) 46 3 (Int32.ofInt 1)) 46 5 z154).2.2.1 46 5 from sF_get)]; exact ⟨by exact (have a0 := in_u h2; have a1 := in_u h1; have a2 := in_u ro_46_1; have a3 := in_u ((inv_F hIc123 0 1000 rfl v123_46_4)); have a4 := in_u ((inv_F hIc123 0 1000 rfl v123_46_2)); have a5 := in_u j123_4; have a6 := in_u i142; have a7 := in_u i154; have a8 := t_sub e154 i142 (in_c 97 rfl) rfl; have a9 := in_u ((in_c 97 rfl)); have a10 := in_u ((in_c 1 rfl)); have a11 := in_u i130; have a12 := t_add e129 (inv_F hIc123 0 1000 rfl v123_46_2) (in_c 1 rfl) rfl; by omega), by exact (have a0 := in_u h2; have a1 := in_u h1; have a2 := in_u ro_46_1; have a3 := in_u ((inv_F hIc123 0 1000 rfl v123_46_4)); have a4 := in_u ((inv_F hIc123 0 1000 rfl v123_46_2)); have a5 := in_u j123_4; have a6 := in_u i142; have a7 := in_u i154; have a8 := t_sub e154 i142 (in_c 97 rfl) rfl; have a9 := in_u ((in_c 97 rfl)); have a10 := in_u ((in_c 1 rfl)); have a11 := in_u i130; have a12 := t_add e129 (inv_F hIc123 0 1000 rfl v123_46_2) (in_c 1 rfl) rfl; by omega)⟩
        have n158b : (z129).toInt ≤ (u_46_1).toInt := by exact (have a0 := in_u h2; have a1 := in_u h1; have a2 := in_u ro_46_1; have a3 := in_u ((inv_F hIc123 0 1000 rfl v123_46_4)); have a4 := in_u ((inv_F hIc123 0 1000 rfl v123_46_2)); have a5 := in_u j123_4; have a6 := in_u i142; have a7 := in_u i154; have a8 := t_sub e154 i142 (in_c 97 rfl) rfl; have a9 := in_u ((in_c 97 rfl)); have a10 := in_u ((in_c 1 rfl)); have a11 := in_u i130; have a12 := t_add e129 (inv_F hIc123 0 1000 rfl v123_46_2) (in_c 1 rfl) rfl; by omega)
        have n158c : ((sF (sF (sF sc123 46 2 z129) 46 3 (Int32.ofInt 1)) 46 5 z154).2.2.1 46 2).toInt ≤ ((sF (sF (sF sc123 46 2 z129) 46 3 (Int32.ofInt 1)) 46 5 z154).2.2.1 46 1).toInt := by have b0 : z129 = (sF (sF (sF sc123 46 2 z129) 46 3 (Int32.ofInt 1)) 46 5 z154).2.2.1 46 2 := sF_ne rfl (sF_ne rfl (sF_get)); have b1 : u_46_1 = (sF (sF (sF sc123 46 2 z129) 46 3 (Int32.ofInt 1)) 46 5 z154).2.2.1 46 1 := sF_ne rfl (sF_ne rfl (sF_ne rfl (fr_F e_46_1 hFc123 rfl))); rw [← b0, ← b1]; exact n158b
        have n158d : (w123_46_4).toInt ≤ (z129).toInt := by exact (have a0 := in_u h2; have a1 := in_u h1; have a2 := in_u ro_46_1; have a3 := in_u ((inv_F hIc123 0 1000 rfl v123_46_4)); have a4 := in_u ((inv_F hIc123 0 1000 rfl v123_46_2)); have a5 := in_u j123_4; have a6 := in_u i142; have a7 := in_u i154; have a8 := t_sub e154 i142 (in_c 97 rfl) rfl; have a9 := in_u ((in_c 97 rfl)); have a10 := in_u ((in_c 1 rfl)); have a11 := in_u i130; have a12 := t_add e129 (inv_F hIc123 0 1000 rfl v123_46_2) (in_c 1 rfl) rfl; by omega)
        have n158e : ((sF (sF (sF sc123 46 2 z129) 46 3 (Int32.ofInt 1)) 46 5 z154).2.2.1 46 4).toInt ≤ ((sF (sF (sF sc123 46 2 z129) 46 3 (Int32.ofInt 1)) 46 5 z154).2.2.1 46 2).toInt := by have b0 : w123_46_4 = (sF (sF (sF sc123 46 2 z129) 46 3 (Int32.ofInt 1)) 46 5 z154).2.2.1 46 4 := sF_ne rfl (sF_ne rfl (sF_ne rfl (v123_46_4))); have b1 : z129 = (sF (sF (sF sc123 46 2 z129) 46 3 (Int32.ofInt 1)) 46 5 z154).2.2.1 46 2 := sF_ne rfl (sF_ne rfl (sF_get)); rw [← b0, ← b1]; exact n158d
        have n158f : (u_46_2).toInt ≤ (w123_46_4).toInt := by exact (have a0 := in_u h2; have a1 := in_u h1; have a2 := in_u ro_46_1; have a3 := in_u ((inv_F hIc123 0 1000 rfl v123_46_4)); have a4 := in_u ((inv_F hIc123 0 1000 rfl v123_46_2)); have a5 := in_u j123_4; have a6 := in_u i142; have a7 := in_u i154; have a8 := t_sub e154 i142 (in_c 97 rfl) rfl; have a9 := in_u ((in_c 97 rfl)); have a10 := in_u ((in_c 1 rfl)); have a11 := in_u i130; have a12 := t_add e129 (inv_F hIc123 0 1000 rfl v123_46_2) (in_c 1 rfl) rfl; by omega)
        have n158g : (s.2.2.1 46 2).toInt ≤ ((sF (sF (sF sc123 46 2 z129) 46 3 (Int32.ofInt 1)) 46 5 z154).2.2.1 46 4).toInt := by have b0 : w123_46_4 = (sF (sF (sF sc123 46 2 z129) 46 3 (Int32.ofInt 1)) 46 5 z154).2.2.1 46 4 := sF_ne rfl (sF_ne rfl (sF_ne rfl (v123_46_4))); rw [← b0, ← e_46_2]; exact n158f
        exact g_return (gd rfl) rfl (hP _ _ ⟨(sF (sF (sF sc123 46 2 z129) 46 3 (Int32.ofInt 1)) 46 5 z154), hI155, (fr_sF rfl (fr_sF rfl (fr_sF rfl hFc123))), n158c, n158e, n158g, rfl, rfl, n158, n158a⟩)
  have ct90 : ∀ (sc90 : GS) (y90_3 : Int32) (y90_4 : Int32) (w90_46_2 : Int32) (w90_46_4 : Int32), Inv sc90 → Fr fm_171_46 s sc90 → (In y90_3 0 65535) → (In y90_4 0 1) → (w90_46_2 = sc90.2.2.1 46 2) → (w90_46_4 = sc90.2.2.1 46 4) → ((w90_46_2).toInt + 1 ≤ (u_46_1).toInt) → ((w90_46_4).toInt = (w90_46_2).toInt) → ((u_46_2).toInt ≤ (w90_46_2).toInt) → GG Z (d - 1) 171 post (gx xp) (1802) 90 (fun j => xlook j [(0, .ref (A 46)), (1, .int x1), (2, .int x2), (3, .int y90_3), (4, .int y90_4)]) [] (WW Z A sc90 ++ ex) 0 0 := by
    intro sc90 y90_3 y90_4 w90_46_2 w90_46_4 hIc90 hFc90 j90_3 j90_4 v90_46_2 v90_46_4 n90_0 n90_1 n90_2
    refine g_aload_n 91 (gd rfl) rfl rfl ?_
    refine g_iload 93 (gd rfl) rfl rfl ?_
    refine g_if_eq 96 105 (gd rfl) rfl rfl (fun c93 => ?_) (fun c93 => ?_)
    · skip
      have i93 := z_eq 0 0 c93 j90_4 rfl
      refine g_aload_n 106 (gd rfl) rfl rfl ?_
      refine g_getI 109 (gd rfl) rfl rfl rfl (fun z106 e106 => ?_)
      have q106 : w90_46_2 = z106 := (v90_46_2).trans e106.symm
      subst q106
      refine g_callv (X := _) (As := [.int w90_46_2]) (r := []) (b := A 46) (q := 46) 112 (gd rfl) rfl rfl rfl rfl rfl (ww_o rfl) (Nat.le_of_ble_eq_true rfl) (mc := 0) (ms := 0) (Nat.zero_le _) (Nat.zero_le _) (P := fun v u => _) ?_ (fun e u h => h) (fun v u h => h)
      intro po109 xx109 hp109 hx109
      refine g_enter2 (k := 172) (N := 300) (by first | exact dq1 hd rfl | exact dq0 hd rfl | exact dq2 hd rfl | exact dq3 hd rfl | omega) rfl (Nat.le_of_ble_eq_true rfl) ?_
      refine g_iload_n 1 (gd rfl) rfl rfl ?_
      refine g_aload_n 2 (gd rfl) rfl rfl ?_
      refine g_getI 5 (gd rfl) rfl rfl rfl (fun z109x2 e109x2 => ?_)
      have q109x2 : u_46_1 = z109x2 := (fr_F e_46_1 hFc90 rfl).trans e109x2.symm
      subst q109x2
      refine g_cmp_ge 8 34 (gd rfl) rfl rfl (fun c109x5 => ?_) (fun c109x5 => ?_)
      · skip
        refine g_iconst 0 35 (gd rfl) rfl rfl ?_
        refine g_ireturn (gd rfl) rfl (nb01 (in_w 0 1 (in_c 0 rfl) rfl)) (hp109 _ _ ?_)
        show GG _ _ _ _ _ _ _ _ [.int (Int32.ofInt 0)] _ _ _
        refine g_if_eq 115 123 (gd rfl) rfl rfl (fun c112 => ?_) (fun c112 => ?_)
        · skip
          have n123 : (w90_46_2).toInt + 1 ≤ (u_46_1).toInt := by first | exact n90_0 | (exact (have a0 := in_u h2; have a1 := in_u h1; have a2 := in_u ro_46_1; have a3 := in_u ((inv_F hIc90 0 1000 rfl v90_46_4)); have a4 := in_u ((inv_F hIc90 0 1000 rfl v90_46_2)); have a5 := in_u i93; have a6 := in_u j90_3; by omega))
          have n123a : (w90_46_4).toInt = (w90_46_2).toInt := by first | exact n90_1 | (exact (have a0 := in_u h2; have a1 := in_u h1; have a2 := in_u ro_46_1; have a3 := in_u ((inv_F hIc90 0 1000 rfl v90_46_4)); have a4 := in_u ((inv_F hIc90 0 1000 rfl v90_46_2)); have a5 := in_u i93; have a6 := in_u j90_3; by omega))
          have n123b : (u_46_2).toInt ≤ (w90_46_2).toInt := by first | exact n90_2 | (exact (have a0 := in_u h2; have a1 := in_u h1; have a2 := in_u ro_46_1; have a3 := in_u ((inv_F hIc90 0 1000 rfl v90_46_4)); have a4 := in_u ((inv_F hIc90 0 1000 rfl v90_46_2)); have a5 := in_u i93; have a6 := in_u j90_3; by omega))
          exact gg_w (by first | exact Nat.le_of_ble_eq_true rfl | omega) (gg_f (gf_cons rfl (gf_cons rfl (gf_cons rfl (gf_cons rfl (gf_cons rfl gf_nil))))) (ct123 sc90 y90_3 y90_4 w90_46_2 w90_46_4 hIc90 hFc90 (in_w 0 65535 j90_3 rfl) (in_w 0 1 i93 rfl) v90_46_2 v90_46_4 n123 n123a n123b))
        · skip
          exact zn_ne c112 (in_c 0 rfl) rfl
      · skip
        have i109x5 := r_lt1 0 999 c109x5 (inv_F hIc90 0 1000 rfl v90_46_2) ro_46_1 rfl
        have i109x5a := r_lt2 1 1000 c109x5 (inv_F hIc90 0 1000 rfl v90_46_2) ro_46_1 rfl
        refine g_aload_n 9 (gd rfl) rfl rfl ?_
        refine g_getA (q2 := 47) 12 (gd rfl) rfl rfl rfl rfl ?_
        refine g_iload_n 13 (gd rfl) rfl rfl ?_
        refine g_caload 14 (gd rfl) rfl (n := 1000) rfl (in_ix i109x5 rfl) (fun z109x13 e109x13 => ?_)
        have i109x13 := inv_I hIc90 (n := 1000) (t := 2) 0 65535 rfl (in_ix i109x5 rfl) rfl e109x13
        refine g_bipush 48 16 (gd rfl) rfl rfl ?_
        refine g_cmp_lt 19 34 (gd rfl) rfl rfl (fun c109x16 => ?_) (fun c109x16 => ?_)
        · skip
          have i109x16 := r_lt1 0 47 c109x16 i109x13 (in_c 48 rfl) rfl
          refine g_iconst 0 35 (gd rfl) rfl rfl ?_
          refine g_ireturn (gd rfl) rfl (nb01 (in_w 0 1 (in_c 0 rfl) rfl)) (hp109 _ _ ?_)
          show GG _ _ _ _ _ _ _ _ [.int (Int32.ofInt 0)] _ _ _
          refine g_if_eq 115 123 (gd rfl) rfl rfl (fun c112 => ?_) (fun c112 => ?_)
          · skip
            have n123 : (w90_46_2).toInt + 1 ≤ (u_46_1).toInt := by first | exact n90_0 | (exact (have a0 := in_u h2; have a1 := in_u h1; have a2 := in_u i109x5a; have a3 := in_u ((inv_F hIc90 0 1000 rfl v90_46_4)); have a4 := in_u i109x5; have a5 := in_u i93; have a6 := in_u j90_3; by omega))
            have n123a : (w90_46_4).toInt = (w90_46_2).toInt := by first | exact n90_1 | (exact (have a0 := in_u h2; have a1 := in_u h1; have a2 := in_u i109x5a; have a3 := in_u ((inv_F hIc90 0 1000 rfl v90_46_4)); have a4 := in_u i109x5; have a5 := in_u i93; have a6 := in_u j90_3; by omega))
            have n123b : (u_46_2).toInt ≤ (w90_46_2).toInt := by first | exact n90_2 | (exact (have a0 := in_u h2; have a1 := in_u h1; have a2 := in_u i109x5a; have a3 := in_u ((inv_F hIc90 0 1000 rfl v90_46_4)); have a4 := in_u i109x5; have a5 := in_u i93; have a6 := in_u j90_3; by omega))
            exact gg_w (by first | exact Nat.le_of_ble_eq_true rfl | omega) (gg_f (gf_cons rfl (gf_cons rfl (gf_cons rfl (gf_cons rfl (gf_cons rfl gf_nil))))) (ct123 sc90 y90_3 y90_4 w90_46_2 w90_46_4 hIc90 hFc90 (in_w 0 65535 j90_3 rfl) (in_w 0 1 i93 rfl) v90_46_2 v90_46_4 n123 n123a n123b))
          · skip
            exact zn_ne c112 (in_c 0 rfl) rfl
        · skip
          have i109x16 := r_le2 48 65535 c109x16 (in_c 48 rfl) i109x13 rfl
          refine g_aload_n 20 (gd rfl) rfl rfl ?_
          refine g_getA (q2 := 47) 23 (gd rfl) rfl rfl rfl rfl ?_
          refine g_iload_n 24 (gd rfl) rfl rfl ?_
          refine g_caload 25 (gd rfl) rfl (n := 1000) rfl (in_ix i109x5 rfl) (fun z109x24 e109x24 => ?_)
          have q109x24 : z109x13 = z109x24 := (e109x13).trans e109x24.symm
          subst q109x24
          refine g_bipush 57 27 (gd rfl) rfl rfl ?_
          refine g_cmp_gt 30 34 (gd rfl) rfl rfl (fun c109x27 => ?_) (fun c109x27 => ?_)
          · skip
            have i109x27 := r_lt2 58 65535 c109x27 (in_c 57 rfl) i109x16 rfl
            refine g_iconst 0 35 (gd rfl) rfl rfl ?_
            refine g_ireturn (gd rfl) rfl (nb01 (in_w 0 1 (in_c 0 rfl) rfl)) (hp109 _ _ ?_)
            show GG _ _ _ _ _ _ _ _ [.int (Int32.ofInt 0)] _ _ _
            refine g_if_eq 115 123 (gd rfl) rfl rfl (fun c112 => ?_) (fun c112 => ?_)
            · skip
              have n123 : (w90_46_2).toInt + 1 ≤ (u_46_1).toInt := by first | exact n90_0 | (exact (have a0 := in_u h2; have a1 := in_u h1; have a2 := in_u i109x5a; have a3 := in_u ((inv_F hIc90 0 1000 rfl v90_46_4)); have a4 := in_u i109x5; have a5 := in_u i93; have a6 := in_u j90_3; by omega))
              have n123a : (w90_46_4).toInt = (w90_46_2).toInt := by first | exact n90_1 | (exact (have a0 := in_u h2; have a1 := in_u h1; have a2 := in_u i109x5a; have a3 := in_u ((inv_F hIc90 0 1000 rfl v90_46_4)); have a4 := in_u i109x5; have a5 := in_u i93; have a6 := in_u j90_3; by omega))
              have n123b : (u_46_2).toInt ≤ (w90_46_2).toInt := by first | exact n90_2 | (exact (have a0 := in_u h2; have a1 := in_u h1; have a2 := in_u i109x5a; have a3 := in_u ((inv_F hIc90 0 1000 rfl v90_46_4)); have a4 := in_u i109x5; have a5 := in_u i93; have a6 := in_u j90_3; by omega))
              exact gg_w (by first | exact Nat.le_of_ble_eq_true rfl | omega) (gg_f (gf_cons rfl (gf_cons rfl (gf_cons rfl (gf_cons rfl (gf_cons rfl gf_nil))))) (ct123 sc90 y90_3 y90_4 w90_46_2 w90_46_4 hIc90 hFc90 (in_w 0 65535 j90_3 rfl) (in_w 0 1 i93 rfl) v90_46_2 v90_46_4 n123 n123a n123b))
            · skip
              exact zn_ne c112 (in_c 0 rfl) rfl
          · skip
            have i109x27 := r_le1 48 57 c109x27 i109x16 (in_c 57 rfl) rfl
            refine g_iconst 1 31 (gd rfl) rfl rfl ?_
            refine g_goto 35 (gd rfl) rfl ?_
            refine g_ireturn (gd rfl) rfl (nb01 (in_w 0 1 (in_c 1 rfl) rfl)) (hp109 _ _ ?_)
            show GG _ _ _ _ _ _ _ _ [.int (Int32.ofInt 1)] _ _ _
            refine g_if_eq 115 123 (gd rfl) rfl rfl (fun c112 => ?_) (fun c112 => ?_)
            · skip
              exact zn_eq c112 (in_c 1 rfl) rfl
            · skip
              refine g_aload_n 116 (gd rfl) rfl rfl ?_
              refine g_iload 118 (gd rfl) rfl rfl ?_
              refine g_iload_n 119 (gd rfl) rfl rfl ?_
              have v119 : u_46_1 = sc90.2.2.1 46 1 := fr_F e_46_1 hFc90 rfl
              have n119 : (w90_46_2).toInt + (y90_4).toInt + 1 ≤ (u_46_1).toInt := by exact (have a0 := in_u h2; have a1 := in_u h1; have a2 := in_u i109x5a; have a3 := in_u ((inv_F hIc90 0 1000 rfl v90_46_4)); have a4 := in_u i109x5; have a5 := in_u i93; have a6 := in_u j90_3; by omega)
              have p119 : 48 ≤ (sc90.1 47 ((sc90.2.2.1 46 2).toInt + (y90_4).toInt).toNat).toInt ∧ (sc90.1 47 ((sc90.2.2.1 46 2).toInt + (y90_4).toInt).toNat).toInt ≤ 57 := by have ei : ((sc90.2.2.1 46 2).toInt + (y90_4).toInt).toNat = w90_46_2.toNatClampNeg := (by rw [← (show w90_46_2 = sc90.2.2.1 46 2 from v90_46_2)]; show _ = w90_46_2.toInt.toNat; exact (have a0 := in_u h2; have a1 := in_u h1; have a2 := in_u i109x5a; have a3 := in_u ((inv_F hIc90 0 1000 rfl v90_46_4)); have a4 := in_u i109x5; have a5 := in_u i93; have a6 := in_u j90_3; by omega)); rw [ei, ← e109x13]; exact i109x27
              refine g_callv (X := _) (As := [.int y90_4, .int x1]) (r := []) (b := A 46) (q := 46) 122 (gd rfl) rfl rfl rfl rfl rfl (ww_o rfl) (Nat.le_of_ble_eq_true rfl) (Nat.zero_le _) (Nat.zero_le _) (k_173_46 (by first | exact dq1 hd rfl | exact dq0 hd rfl | exact dq2 hd rfl | exact dq3 hd rfl | omega) hIc90 (in_w 0 1 i93 rfl) (in_w 6 7 h1 rfl) v90_46_2 v119 n119 p119) (fun e u h => h) (fun v u h => ?_)
              obtain ⟨s119, hI119, hF119, n119a, n119b, rfl, rfl, p119a, p119b⟩ := h
              obtain ⟨z119a, e119⟩ : ∃ w, w = s119.2.2.1 46 2 := ⟨_, rfl⟩
              have i119a := inv_F hI119 0 1000 rfl e119
              rw [← (show z119a = s119.2.2.1 46 2 from e119)] at n119a
              rw [← (show u_46_1 = s119.2.2.1 46 1 from fr_F (fr_F e_46_1 hFc90 rfl) hF119 rfl)] at n119a
              rw [← (show w90_46_2 = sc90.2.2.1 46 2 from v90_46_2)] at n119b
              rw [← (show z119a = s119.2.2.1 46 2 from e119)] at n119b
              show GG _ _ _ _ _ _ _ _ [] _ _ _
              have n122 : (x1).toInt = 6 → TK s119 := by intro h6; exact ⟨(Or.inr (by rw [← (show w90_46_4 = s119.2.2.1 46 4 from fr_F (v90_46_4) hF119 rfl), ← (show z119a = s119.2.2.1 46 2 from e119)]; exact (have a0 := in_u h2; have a1 := in_u h1; have a2 := in_u i109x5a; have a3 := in_u ((inv_F hIc90 0 1000 rfl v90_46_4)); have a4 := in_u i109x5; have a5 := in_u i93; have a6 := in_u j90_3; have a7 := in_u i119a; by omega))), p119b h6⟩
              have n122a : (s119.2.2.1 46 3).toInt = 1 → In (s119.2.2.1 46 5) 0 25 := by intro h1; exact absurd h1 p119a
              have n122b : (z119a).toInt ≤ (u_46_1).toInt := by exact (have a0 := in_u h2; have a1 := in_u h1; have a2 := in_u i109x5a; have a3 := in_u ((inv_F hIc90 0 1000 rfl v90_46_4)); have a4 := in_u i109x5; have a5 := in_u i93; have a6 := in_u j90_3; have a7 := in_u i119a; by omega)
              have n122c : (s119.2.2.1 46 2).toInt ≤ (s119.2.2.1 46 1).toInt := by have b0 : z119a = s119.2.2.1 46 2 := e119; have b1 : u_46_1 = s119.2.2.1 46 1 := fr_F (fr_F e_46_1 hFc90 rfl) hF119 rfl; rw [← b0, ← b1]; exact n122b
              have n122d : (w90_46_4).toInt ≤ (z119a).toInt := by exact (have a0 := in_u h2; have a1 := in_u h1; have a2 := in_u i109x5a; have a3 := in_u ((inv_F hIc90 0 1000 rfl v90_46_4)); have a4 := in_u i109x5; have a5 := in_u i93; have a6 := in_u j90_3; have a7 := in_u i119a; by omega)
              have n122e : (s119.2.2.1 46 4).toInt ≤ (s119.2.2.1 46 2).toInt := by have b0 : w90_46_4 = s119.2.2.1 46 4 := fr_F (v90_46_4) hF119 rfl; have b1 : z119a = s119.2.2.1 46 2 := e119; rw [← b0, ← b1]; exact n122d
              have n122f : (u_46_2).toInt ≤ (w90_46_4).toInt := by exact (have a0 := in_u h2; have a1 := in_u h1; have a2 := in_u i109x5a; have a3 := in_u ((inv_F hIc90 0 1000 rfl v90_46_4)); have a4 := in_u i109x5; have a5 := in_u i93; have a6 := in_u j90_3; have a7 := in_u i119a; by omega)
              have n122g : (s.2.2.1 46 2).toInt ≤ (s119.2.2.1 46 4).toInt := by have b0 : w90_46_4 = s119.2.2.1 46 4 := fr_F (v90_46_4) hF119 rfl; rw [← b0, ← e_46_2]; exact n122f
              exact g_return (gd rfl) rfl (hP _ _ ⟨s119, hI119, (fr_tr rfl hFc90 hF119), n122c, n122e, n122g, rfl, rfl, n122, n122a⟩)
    · skip
      have i93 := z_ne 1 1 c93 j90_4 rfl
      refine g_aload_n 97 (gd rfl) rfl rfl ?_
      refine g_getI 100 (gd rfl) rfl rfl rfl (fun z97 e97 => ?_)
      have q97 : w90_46_2 = z97 := (v90_46_2).trans e97.symm
      subst q97
      refine g_iconst 1 101 (gd rfl) rfl rfl ?_
      refine g_iadd 102 (gd rfl) rfl (fun z101 e101 => ?_)
      have i101 := in_add 1 1001 e101 (inv_F hIc90 0 1000 rfl v90_46_2) (in_c 1 rfl) rfl rfl
      refine g_goto 109 (gd rfl) rfl ?_
      refine g_callv (X := _) (As := [.int z101]) (r := []) (b := A 46) (q := 46) 112 (gd rfl) rfl rfl rfl rfl rfl (ww_o rfl) (Nat.le_of_ble_eq_true rfl) (mc := 0) (ms := 0) (Nat.zero_le _) (Nat.zero_le _) (P := fun v u => _) ?_ (fun e u h => h) (fun v u h => h)
      intro po109 xx109 hp109 hx109
      refine g_enter2 (k := 172) (N := 300) (by first | exact dq1 hd rfl | exact dq0 hd rfl | exact dq2 hd rfl | exact dq3 hd rfl | omega) rfl (Nat.le_of_ble_eq_true rfl) ?_
      refine g_iload_n 1 (gd rfl) rfl rfl ?_
      refine g_aload_n 2 (gd rfl) rfl rfl ?_
      refine g_getI 5 (gd rfl) rfl rfl rfl (fun z109x2 e109x2 => ?_)
      have q109x2 : u_46_1 = z109x2 := (fr_F e_46_1 hFc90 rfl).trans e109x2.symm
      subst q109x2
      refine g_cmp_ge 8 34 (gd rfl) rfl rfl (fun c109x5 => ?_) (fun c109x5 => ?_)
      · skip
        refine g_iconst 0 35 (gd rfl) rfl rfl ?_
        refine g_ireturn (gd rfl) rfl (nb01 (in_w 0 1 (in_c 0 rfl) rfl)) (hp109 _ _ ?_)
        show GG _ _ _ _ _ _ _ _ [.int (Int32.ofInt 0)] _ _ _
        refine g_if_eq 115 123 (gd rfl) rfl rfl (fun c112 => ?_) (fun c112 => ?_)
        · skip
          have n123 : (w90_46_2).toInt + 1 ≤ (u_46_1).toInt := by first | exact n90_0 | (exact (have a0 := in_u h2; have a1 := in_u h1; have a2 := in_u ro_46_1; have a3 := in_u ((inv_F hIc90 0 1000 rfl v90_46_4)); have a4 := in_u ((inv_F hIc90 0 1000 rfl v90_46_2)); have a5 := in_u i93; have a6 := in_u j90_3; have a7 := in_u i101; have a8 := t_add e101 (inv_F hIc90 0 1000 rfl v90_46_2) (in_c 1 rfl) rfl; have a9 := in_u ((in_c 1 rfl)); by omega))
          have n123a : (w90_46_4).toInt = (w90_46_2).toInt := by first | exact n90_1 | (exact (have a0 := in_u h2; have a1 := in_u h1; have a2 := in_u ro_46_1; have a3 := in_u ((inv_F hIc90 0 1000 rfl v90_46_4)); have a4 := in_u ((inv_F hIc90 0 1000 rfl v90_46_2)); have a5 := in_u i93; have a6 := in_u j90_3; have a7 := in_u i101; have a8 := t_add e101 (inv_F hIc90 0 1000 rfl v90_46_2) (in_c 1 rfl) rfl; have a9 := in_u ((in_c 1 rfl)); by omega))
          have n123b : (u_46_2).toInt ≤ (w90_46_2).toInt := by first | exact n90_2 | (exact (have a0 := in_u h2; have a1 := in_u h1; have a2 := in_u ro_46_1; have a3 := in_u ((inv_F hIc90 0 1000 rfl v90_46_4)); have a4 := in_u ((inv_F hIc90 0 1000 rfl v90_46_2)); have a5 := in_u i93; have a6 := in_u j90_3; have a7 := in_u i101; have a8 := t_add e101 (inv_F hIc90 0 1000 rfl v90_46_2) (in_c 1 rfl) rfl; have a9 := in_u ((in_c 1 rfl)); by omega))
          exact gg_w (by first | exact Nat.le_of_ble_eq_true rfl | omega) (gg_f (gf_cons rfl (gf_cons rfl (gf_cons rfl (gf_cons rfl (gf_cons rfl gf_nil))))) (ct123 sc90 y90_3 y90_4 w90_46_2 w90_46_4 hIc90 hFc90 (in_w 0 65535 j90_3 rfl) (in_w 0 1 i93 rfl) v90_46_2 v90_46_4 n123 n123a n123b))
        · skip
          exact zn_ne c112 (in_c 0 rfl) rfl
      · skip
        have i109x5 := r_lt1 1 999 c109x5 i101 ro_46_1 rfl
        have i109x5a := r_lt2 2 1000 c109x5 i101 ro_46_1 rfl
        refine g_aload_n 9 (gd rfl) rfl rfl ?_
        refine g_getA (q2 := 47) 12 (gd rfl) rfl rfl rfl rfl ?_
        refine g_iload_n 13 (gd rfl) rfl rfl ?_
        refine g_caload 14 (gd rfl) rfl (n := 1000) rfl (in_ix i109x5 rfl) (fun z109x13 e109x13 => ?_)
        have i109x13 := inv_I hIc90 (n := 1000) (t := 2) 0 65535 rfl (in_ix i109x5 rfl) rfl e109x13
        refine g_bipush 48 16 (gd rfl) rfl rfl ?_
        refine g_cmp_lt 19 34 (gd rfl) rfl rfl (fun c109x16 => ?_) (fun c109x16 => ?_)
        · skip
          have i109x16 := r_lt1 0 47 c109x16 i109x13 (in_c 48 rfl) rfl
          refine g_iconst 0 35 (gd rfl) rfl rfl ?_
          refine g_ireturn (gd rfl) rfl (nb01 (in_w 0 1 (in_c 0 rfl) rfl)) (hp109 _ _ ?_)
          show GG _ _ _ _ _ _ _ _ [.int (Int32.ofInt 0)] _ _ _
          refine g_if_eq 115 123 (gd rfl) rfl rfl (fun c112 => ?_) (fun c112 => ?_)
          · skip
            have n123 : (w90_46_2).toInt + 1 ≤ (u_46_1).toInt := by first | exact n90_0 | (exact (have a0 := in_u h2; have a1 := in_u h1; have a2 := in_u i109x5a; have a3 := in_u ((inv_F hIc90 0 1000 rfl v90_46_4)); have a4 := in_u ((inv_F hIc90 0 1000 rfl v90_46_2)); have a5 := in_u i93; have a6 := in_u j90_3; have a7 := in_u i109x5; have a8 := t_add e101 (inv_F hIc90 0 1000 rfl v90_46_2) (in_c 1 rfl) rfl; have a9 := in_u ((in_c 1 rfl)); by omega))
            have n123a : (w90_46_4).toInt = (w90_46_2).toInt := by first | exact n90_1 | (exact (have a0 := in_u h2; have a1 := in_u h1; have a2 := in_u i109x5a; have a3 := in_u ((inv_F hIc90 0 1000 rfl v90_46_4)); have a4 := in_u ((inv_F hIc90 0 1000 rfl v90_46_2)); have a5 := in_u i93; have a6 := in_u j90_3; have a7 := in_u i109x5; have a8 := t_add e101 (inv_F hIc90 0 1000 rfl v90_46_2) (in_c 1 rfl) rfl; have a9 := in_u ((in_c 1 rfl)); by omega))
            have n123b : (u_46_2).toInt ≤ (w90_46_2).toInt := by first | exact n90_2 | (exact (have a0 := in_u h2; have a1 := in_u h1; have a2 := in_u i109x5a; have a3 := in_u ((inv_F hIc90 0 1000 rfl v90_46_4)); have a4 := in_u ((inv_F hIc90 0 1000 rfl v90_46_2)); have a5 := in_u i93; have a6 := in_u j90_3; have a7 := in_u i109x5; have a8 := t_add e101 (inv_F hIc90 0 1000 rfl v90_46_2) (in_c 1 rfl) rfl; have a9 := in_u ((in_c 1 rfl)); by omega))
            exact gg_w (by first | exact Nat.le_of_ble_eq_true rfl | omega) (gg_f (gf_cons rfl (gf_cons rfl (gf_cons rfl (gf_cons rfl (gf_cons rfl gf_nil))))) (ct123 sc90 y90_3 y90_4 w90_46_2 w90_46_4 hIc90 hFc90 (in_w 0 65535 j90_3 rfl) (in_w 0 1 i93 rfl) v90_46_2 v90_46_4 n123 n123a n123b))
          · skip
            exact zn_ne c112 (in_c 0 rfl) rfl
        · skip
          have i109x16 := r_le2 48 65535 c109x16 (in_c 48 rfl) i109x13 rfl
          refine g_aload_n 20 (gd rfl) rfl rfl ?_
          refine g_getA (q2 := 47) 23 (gd rfl) rfl rfl rfl rfl ?_
          refine g_iload_n 24 (gd rfl) rfl rfl ?_
          refine g_caload 25 (gd rfl) rfl (n := 1000) rfl (in_ix i109x5 rfl) (fun z109x24 e109x24 => ?_)
          have q109x24 : z109x13 = z109x24 := (e109x13).trans e109x24.symm
          subst q109x24
          refine g_bipush 57 27 (gd rfl) rfl rfl ?_
          refine g_cmp_gt 30 34 (gd rfl) rfl rfl (fun c109x27 => ?_) (fun c109x27 => ?_)
          · skip
            have i109x27 := r_lt2 58 65535 c109x27 (in_c 57 rfl) i109x16 rfl
            refine g_iconst 0 35 (gd rfl) rfl rfl ?_
            refine g_ireturn (gd rfl) rfl (nb01 (in_w 0 1 (in_c 0 rfl) rfl)) (hp109 _ _ ?_)
            show GG _ _ _ _ _ _ _ _ [.int (Int32.ofInt 0)] _ _ _
            refine g_if_eq 115 123 (gd rfl) rfl rfl (fun c112 => ?_) (fun c112 => ?_)
            · skip
              have n123 : (w90_46_2).toInt + 1 ≤ (u_46_1).toInt := by first | exact n90_0 | (exact (have a0 := in_u h2; have a1 := in_u h1; have a2 := in_u i109x5a; have a3 := in_u ((inv_F hIc90 0 1000 rfl v90_46_4)); have a4 := in_u ((inv_F hIc90 0 1000 rfl v90_46_2)); have a5 := in_u i93; have a6 := in_u j90_3; have a7 := in_u i109x5; have a8 := t_add e101 (inv_F hIc90 0 1000 rfl v90_46_2) (in_c 1 rfl) rfl; have a9 := in_u ((in_c 1 rfl)); by omega))
              have n123a : (w90_46_4).toInt = (w90_46_2).toInt := by first | exact n90_1 | (exact (have a0 := in_u h2; have a1 := in_u h1; have a2 := in_u i109x5a; have a3 := in_u ((inv_F hIc90 0 1000 rfl v90_46_4)); have a4 := in_u ((inv_F hIc90 0 1000 rfl v90_46_2)); have a5 := in_u i93; have a6 := in_u j90_3; have a7 := in_u i109x5; have a8 := t_add e101 (inv_F hIc90 0 1000 rfl v90_46_2) (in_c 1 rfl) rfl; have a9 := in_u ((in_c 1 rfl)); by omega))
              have n123b : (u_46_2).toInt ≤ (w90_46_2).toInt := by first | exact n90_2 | (exact (have a0 := in_u h2; have a1 := in_u h1; have a2 := in_u i109x5a; have a3 := in_u ((inv_F hIc90 0 1000 rfl v90_46_4)); have a4 := in_u ((inv_F hIc90 0 1000 rfl v90_46_2)); have a5 := in_u i93; have a6 := in_u j90_3; have a7 := in_u i109x5; have a8 := t_add e101 (inv_F hIc90 0 1000 rfl v90_46_2) (in_c 1 rfl) rfl; have a9 := in_u ((in_c 1 rfl)); by omega))
              exact gg_w (by first | exact Nat.le_of_ble_eq_true rfl | omega) (gg_f (gf_cons rfl (gf_cons rfl (gf_cons rfl (gf_cons rfl (gf_cons rfl gf_nil))))) (ct123 sc90 y90_3 y90_4 w90_46_2 w90_46_4 hIc90 hFc90 (in_w 0 65535 j90_3 rfl) (in_w 0 1 i93 rfl) v90_46_2 v90_46_4 n123 n123a n123b))
            · skip
              exact zn_ne c112 (in_c 0 rfl) rfl
          · skip
            have i109x27 := r_le1 48 57 c109x27 i109x16 (in_c 57 rfl) rfl
            refine g_iconst 1 31 (gd rfl) rfl rfl ?_
            refine g_goto 35 (gd rfl) rfl ?_
            refine g_ireturn (gd rfl) rfl (nb01 (in_w 0 1 (in_c 1 rfl) rfl)) (hp109 _ _ ?_)
            show GG _ _ _ _ _ _ _ _ [.int (Int32.ofInt 1)] _ _ _
            refine g_if_eq 115 123 (gd rfl) rfl rfl (fun c112 => ?_) (fun c112 => ?_)
            · skip
              exact zn_eq c112 (in_c 1 rfl) rfl
            · skip
              refine g_aload_n 116 (gd rfl) rfl rfl ?_
              refine g_iload 118 (gd rfl) rfl rfl ?_
              refine g_iload_n 119 (gd rfl) rfl rfl ?_
              have v119 : u_46_1 = sc90.2.2.1 46 1 := fr_F e_46_1 hFc90 rfl
              have n119 : (w90_46_2).toInt + (y90_4).toInt + 1 ≤ (u_46_1).toInt := by exact (have a0 := in_u h2; have a1 := in_u h1; have a2 := in_u i109x5a; have a3 := in_u ((inv_F hIc90 0 1000 rfl v90_46_4)); have a4 := in_u ((inv_F hIc90 0 1000 rfl v90_46_2)); have a5 := in_u i93; have a6 := in_u j90_3; have a7 := in_u i109x5; have a8 := t_add e101 (inv_F hIc90 0 1000 rfl v90_46_2) (in_c 1 rfl) rfl; have a9 := in_u ((in_c 1 rfl)); by omega)
              have p119 : 48 ≤ (sc90.1 47 ((sc90.2.2.1 46 2).toInt + (y90_4).toInt).toNat).toInt ∧ (sc90.1 47 ((sc90.2.2.1 46 2).toInt + (y90_4).toInt).toNat).toInt ≤ 57 := by have ei : ((sc90.2.2.1 46 2).toInt + (y90_4).toInt).toNat = z101.toNatClampNeg := (by rw [← (show w90_46_2 = sc90.2.2.1 46 2 from v90_46_2)]; show _ = z101.toInt.toNat; exact (have a0 := in_u h2; have a1 := in_u h1; have a2 := in_u i109x5a; have a3 := in_u ((inv_F hIc90 0 1000 rfl v90_46_4)); have a4 := in_u ((inv_F hIc90 0 1000 rfl v90_46_2)); have a5 := in_u i93; have a6 := in_u j90_3; have a7 := in_u i109x5; have a8 := t_add e101 (inv_F hIc90 0 1000 rfl v90_46_2) (in_c 1 rfl) rfl; have a9 := in_u ((in_c 1 rfl)); by omega)); rw [ei, ← e109x13]; exact i109x27
              refine g_callv (X := _) (As := [.int y90_4, .int x1]) (r := []) (b := A 46) (q := 46) 122 (gd rfl) rfl rfl rfl rfl rfl (ww_o rfl) (Nat.le_of_ble_eq_true rfl) (Nat.zero_le _) (Nat.zero_le _) (k_173_46 (by first | exact dq1 hd rfl | exact dq0 hd rfl | exact dq2 hd rfl | exact dq3 hd rfl | omega) hIc90 (in_w 0 1 i93 rfl) (in_w 6 7 h1 rfl) v90_46_2 v119 n119 p119) (fun e u h => h) (fun v u h => ?_)
              obtain ⟨s119, hI119, hF119, n119a, n119b, rfl, rfl, p119a, p119b⟩ := h
              obtain ⟨z119a, e119⟩ : ∃ w, w = s119.2.2.1 46 2 := ⟨_, rfl⟩
              have i119a := inv_F hI119 0 1000 rfl e119
              rw [← (show z119a = s119.2.2.1 46 2 from e119)] at n119a
              rw [← (show u_46_1 = s119.2.2.1 46 1 from fr_F (fr_F e_46_1 hFc90 rfl) hF119 rfl)] at n119a
              rw [← (show w90_46_2 = sc90.2.2.1 46 2 from v90_46_2)] at n119b
              rw [← (show z119a = s119.2.2.1 46 2 from e119)] at n119b
              show GG _ _ _ _ _ _ _ _ [] _ _ _
              have n122 : (x1).toInt = 6 → TK s119 := by intro h6; exact ⟨(Or.inr (by rw [← (show w90_46_4 = s119.2.2.1 46 4 from fr_F (v90_46_4) hF119 rfl), ← (show z119a = s119.2.2.1 46 2 from e119)]; exact (have a0 := in_u h2; have a1 := in_u h1; have a2 := in_u i109x5a; have a3 := in_u ((inv_F hIc90 0 1000 rfl v90_46_4)); have a4 := in_u ((inv_F hIc90 0 1000 rfl v90_46_2)); have a5 := in_u i93; have a6 := in_u j90_3; have a7 := in_u i119a; have a8 := in_u i109x5; have a9 := t_add e101 (inv_F hIc90 0 1000 rfl v90_46_2) (in_c 1 rfl) rfl; have a10 := in_u ((in_c 1 rfl)); by omega))), p119b h6⟩
              have n122a : (s119.2.2.1 46 3).toInt = 1 → In (s119.2.2.1 46 5) 0 25 := by intro h1; exact absurd h1 p119a
              have n122b : (z119a).toInt ≤ (u_46_1).toInt := by exact (have a0 := in_u h2; have a1 := in_u h1; have a2 := in_u i109x5a; have a3 := in_u ((inv_F hIc90 0 1000 rfl v90_46_4)); have a4 := in_u ((inv_F hIc90 0 1000 rfl v90_46_2)); have a5 := in_u i93; have a6 := in_u j90_3; have a7 := in_u i119a; have a8 := in_u i109x5; have a9 := t_add e101 (inv_F hIc90 0 1000 rfl v90_46_2) (in_c 1 rfl) rfl; have a10 := in_u ((in_c 1 rfl)); by omega)
              have n122c : (s119.2.2.1 46 2).toInt ≤ (s119.2.2.1 46 1).toInt := by have b0 : z119a = s119.2.2.1 46 2 := e119; have b1 : u_46_1 = s119.2.2.1 46 1 := fr_F (fr_F e_46_1 hFc90 rfl) hF119 rfl; rw [← b0, ← b1]; exact n122b
              have n122d : (w90_46_4).toInt ≤ (z119a).toInt := by exact (have a0 := in_u h2; have a1 := in_u h1; have a2 := in_u i109x5a; have a3 := in_u ((inv_F hIc90 0 1000 rfl v90_46_4)); have a4 := in_u ((inv_F hIc90 0 1000 rfl v90_46_2)); have a5 := in_u i93; have a6 := in_u j90_3; have a7 := in_u i119a; have a8 := in_u i109x5; have a9 := t_add e101 (inv_F hIc90 0 1000 rfl v90_46_2) (in_c 1 rfl) rfl; have a10 := in_u ((in_c 1 rfl)); by omega)
              have n122e : (s119.2.2.1 46 4).toInt ≤ (s119.2.2.1 46 2).toInt := by have b0 : w90_46_4 = s119.2.2.1 46 4 := fr_F (v90_46_4) hF119 rfl; have b1 : z119a = s119.2.2.1 46 2 := e119; rw [← b0, ← b1]; exact n122d
              have n122f : (u_46_2).toInt ≤ (w90_46_4).toInt := by exact (have a0 := in_u h2; have a1 := in_u h1; have a2 := in_u i109x5a; have a3 := in_u ((inv_F hIc90 0 1000 rfl v90_46_4)); have a4 := in_u ((inv_F hIc90 0 1000 rfl v90_46_2)); have a5 := in_u i93; have a6 := in_u j90_3; have a7 := in_u i119a; have a8 := in_u i109x5; have a9 := t_add e101 (inv_F hIc90 0 1000 rfl v90_46_2) (in_c 1 rfl) rfl; have a10 := in_u ((in_c 1 rfl)); by omega)
              have n122g : (s.2.2.1 46 2).toInt ≤ (s119.2.2.1 46 4).toInt := by have b0 : w90_46_4 = s119.2.2.1 46 4 := fr_F (v90_46_4) hF119 rfl; rw [← b0, ← e_46_2]; exact n122f
              exact g_return (gd rfl) rfl (hP _ _ ⟨s119, hI119, (fr_tr rfl hFc90 hF119), n122c, n122e, n122g, rfl, rfl, n122, n122a⟩)
  have ct38 : ∀ (sc38 : GS) (w38_46_2 : Int32), Inv sc38 → Fr fm_171_46 s sc38 → (w38_46_2 = sc38.2.2.1 46 2) → ((w38_46_2).toInt ≤ (u_46_1).toInt) → ((u_46_2).toInt ≤ (w38_46_2).toInt) → GG Z (d - 1) 171 post (gx xp) (2703) 38 (fun j => xlook j [(0, .ref (A 46)), (1, .int x1), (2, .int x2)]) [] (WW Z A sc38 ++ ex) 0 0 := by
    intro sc38 w38_46_2 hIc38 hFc38 v38_46_2 n38_0 n38_1
    refine g_aload_n 39 (gd rfl) rfl rfl ?_
    refine g_aload_n 40 (gd rfl) rfl rfl ?_
    refine g_getI 43 (gd rfl) rfl rfl rfl (fun z40 e40 => ?_)
    have q40 : w38_46_2 = z40 := (v38_46_2).trans e40.symm
    subst q40
    refine g_putI 46 (gd rfl) rfl rfl rfl rfl ?_
    have hI43 := inv_sF (q := 46) (j := 4) hIc38 rfl (in_w 0 1000 (inv_F hIc38 0 1000 rfl v38_46_2) rfl)
    refine g_aload_n 47 (gd rfl) rfl rfl ?_
    refine g_iconst 0 48 (gd rfl) rfl rfl ?_
    refine g_putI 51 (gd rfl) rfl rfl rfl rfl ?_
    have hI48 := inv_sF (q := 46) (j := 3) hI43 rfl (in_w 0 5 (in_c 0 rfl) rfl)
    refine g_aload_n 52 (gd rfl) rfl rfl ?_
    refine g_getI 55 (gd rfl) rfl rfl rfl (fun z52 e52 => ?_)
    have q52 : w38_46_2 = z52 := (sF_ne rfl (sF_ne rfl (v38_46_2))).trans e52.symm
    subst q52
    refine g_aload_n 56 (gd rfl) rfl rfl ?_
    refine g_getI 59 (gd rfl) rfl rfl rfl (fun z56 e56 => ?_)
    have q56 : u_46_1 = z56 := (sF_ne rfl (sF_ne rfl (fr_F e_46_1 hFc38 rfl))).trans e56.symm
    subst q56
    refine g_cmp_lt 62 63 (gd rfl) rfl rfl (fun c59 => ?_) (fun c59 => ?_)
    · skip
      have i59 := r_lt1 0 999 c59 (inv_F hIc38 0 1000 rfl v38_46_2) ro_46_1 rfl
      have i59a := r_lt2 1 1000 c59 (inv_F hIc38 0 1000 rfl v38_46_2) ro_46_1 rfl
      refine g_aload_n 64 (gd rfl) rfl rfl ?_
      refine g_getA (q2 := 47) 67 (gd rfl) rfl rfl rfl rfl ?_
      refine g_aload_n 68 (gd rfl) rfl rfl ?_
      refine g_getI 71 (gd rfl) rfl rfl rfl (fun z68 e68 => ?_)
      have q68 : w38_46_2 = z68 := (sF_ne rfl (sF_ne rfl (v38_46_2))).trans e68.symm
      subst q68
      refine g_caload 72 (gd rfl) rfl (n := 1000) rfl (in_ix i59 rfl) (fun z71 e71 => ?_)
      have i71 := inv_I hI48 (n := 1000) (t := 2) 0 65535 rfl (in_ix i59 rfl) rfl e71
      refine g_istore_n 73 (gd rfl) rfl (Nat.le_of_ble_eq_true rfl) ?_
      refine g_iload_n 74 (gd rfl) rfl rfl ?_
      refine g_if_eq 77 87 (gd rfl) rfl rfl (fun c74 => ?_) (fun c74 => ?_)
      · skip
        have i74 := z_eq 0 0 c74 h2 rfl
        refine g_iconst 0 88 (gd rfl) rfl rfl ?_
        refine g_istore 90 (gd rfl) rfl (Nat.le_of_ble_eq_true rfl) ?_
        have v90 : w38_46_2 = (sF (sF sc38 46 4 w38_46_2) 46 3 (Int32.ofInt 0)).2.2.1 46 2 := sF_ne rfl (sF_ne rfl (v38_46_2))
        have v90a : w38_46_2 = (sF (sF sc38 46 4 w38_46_2) 46 3 (Int32.ofInt 0)).2.2.1 46 4 := sF_ne rfl (sF_get)
        have n90 : (w38_46_2).toInt + 1 ≤ (u_46_1).toInt := by exact (have a0 := in_u i74; have a1 := in_u h1; have a2 := in_u i59a; have a3 := in_u i59; have a4 := in_u ((in_c 0 rfl)); have a5 := in_u i71; by omega)
        have n90a : (w38_46_2).toInt = (w38_46_2).toInt := by exact (have a0 := in_u i74; have a1 := in_u h1; have a2 := in_u i59a; have a3 := in_u i59; have a4 := in_u ((in_c 0 rfl)); have a5 := in_u i71; by omega)
        have n90b : (u_46_2).toInt ≤ (w38_46_2).toInt := by first | exact n38_1 | (exact (have a0 := in_u i74; have a1 := in_u h1; have a2 := in_u i59a; have a3 := in_u i59; have a4 := in_u ((in_c 0 rfl)); have a5 := in_u i71; by omega))
        exact gg_w (by first | exact Nat.le_of_ble_eq_true rfl | omega) (gg_f (gf_cons rfl (gf_cons rfl (gf_cons rfl (gf_cons rfl (gf_cons rfl gf_nil))))) (ct90 (sF (sF sc38 46 4 w38_46_2) 46 3 (Int32.ofInt 0)) z71 (Int32.ofInt 0) w38_46_2 w38_46_2 hI48 (fr_sF rfl (fr_sF rfl hFc38)) (in_w 0 65535 i71 rfl) (in_w 0 1 (in_c 0 rfl) rfl) v90 v90a n90 n90a n90b))
      · skip
        have i74 := z_ne 1 1 c74 h2 rfl
        refine g_iload_n 78 (gd rfl) rfl rfl ?_
        refine g_bipush 45 80 (gd rfl) rfl rfl ?_
        refine g_cmp_ne 83 87 (gd rfl) rfl rfl (fun c80 => ?_) (fun c80 => ?_)
        · skip
          refine g_iconst 0 88 (gd rfl) rfl rfl ?_
          refine g_istore 90 (gd rfl) rfl (Nat.le_of_ble_eq_true rfl) ?_
          have v90 : w38_46_2 = (sF (sF sc38 46 4 w38_46_2) 46 3 (Int32.ofInt 0)).2.2.1 46 2 := sF_ne rfl (sF_ne rfl (v38_46_2))
          have v90a : w38_46_2 = (sF (sF sc38 46 4 w38_46_2) 46 3 (Int32.ofInt 0)).2.2.1 46 4 := sF_ne rfl (sF_get)
          have n90 : (w38_46_2).toInt + 1 ≤ (u_46_1).toInt := by exact (have a0 := in_u i74; have a1 := in_u h1; have a2 := in_u i59a; have a3 := in_u i59; have a4 := in_u ((in_c 0 rfl)); have a5 := in_u i71; by omega)
          have n90a : (w38_46_2).toInt = (w38_46_2).toInt := by exact (have a0 := in_u i74; have a1 := in_u h1; have a2 := in_u i59a; have a3 := in_u i59; have a4 := in_u ((in_c 0 rfl)); have a5 := in_u i71; by omega)
          have n90b : (u_46_2).toInt ≤ (w38_46_2).toInt := by first | exact n38_1 | (exact (have a0 := in_u i74; have a1 := in_u h1; have a2 := in_u i59a; have a3 := in_u i59; have a4 := in_u ((in_c 0 rfl)); have a5 := in_u i71; by omega))
          exact gg_w (by first | exact Nat.le_of_ble_eq_true rfl | omega) (gg_f (gf_cons rfl (gf_cons rfl (gf_cons rfl (gf_cons rfl (gf_cons rfl gf_nil))))) (ct90 (sF (sF sc38 46 4 w38_46_2) 46 3 (Int32.ofInt 0)) z71 (Int32.ofInt 0) w38_46_2 w38_46_2 hI48 (fr_sF rfl (fr_sF rfl hFc38)) (in_w 0 65535 i71 rfl) (in_w 0 1 (in_c 0 rfl) rfl) v90 v90a n90 n90a n90b))
        · skip
          have i80 := r_eq1 45 45 c80 i71 (in_c 45 rfl) rfl
          refine g_iconst 1 84 (gd rfl) rfl rfl ?_
          refine g_goto 88 (gd rfl) rfl ?_
          refine g_istore 90 (gd rfl) rfl (Nat.le_of_ble_eq_true rfl) ?_
          have v90 : w38_46_2 = (sF (sF sc38 46 4 w38_46_2) 46 3 (Int32.ofInt 0)).2.2.1 46 2 := sF_ne rfl (sF_ne rfl (v38_46_2))
          have v90a : w38_46_2 = (sF (sF sc38 46 4 w38_46_2) 46 3 (Int32.ofInt 0)).2.2.1 46 4 := sF_ne rfl (sF_get)
          have n90 : (w38_46_2).toInt + 1 ≤ (u_46_1).toInt := by exact (have a0 := in_u i74; have a1 := in_u h1; have a2 := in_u i59a; have a3 := in_u i59; have a4 := in_u ((in_c 1 rfl)); have a5 := in_u i80; have a6 := in_u ((in_c 0 rfl)); by omega)
          have n90a : (w38_46_2).toInt = (w38_46_2).toInt := by exact (have a0 := in_u i74; have a1 := in_u h1; have a2 := in_u i59a; have a3 := in_u i59; have a4 := in_u ((in_c 1 rfl)); have a5 := in_u i80; have a6 := in_u ((in_c 0 rfl)); by omega)
          have n90b : (u_46_2).toInt ≤ (w38_46_2).toInt := by first | exact n38_1 | (exact (have a0 := in_u i74; have a1 := in_u h1; have a2 := in_u i59a; have a3 := in_u i59; have a4 := in_u ((in_c 1 rfl)); have a5 := in_u i80; have a6 := in_u ((in_c 0 rfl)); by omega))
          exact gg_w (by first | exact Nat.le_of_ble_eq_true rfl | omega) (gg_f (gf_cons rfl (gf_cons rfl (gf_cons rfl (gf_cons rfl (gf_cons rfl gf_nil))))) (ct90 (sF (sF sc38 46 4 w38_46_2) 46 3 (Int32.ofInt 0)) z71 (Int32.ofInt 1) w38_46_2 w38_46_2 hI48 (fr_sF rfl (fr_sF rfl hFc38)) (in_w 0 65535 i80 rfl) (in_w 0 1 (in_c 1 rfl) rfl) v90 v90a n90 n90a n90b))
    · skip
      have n62 : (x1).toInt = 6 → TK (sF (sF sc38 46 4 w38_46_2) 46 3 (Int32.ofInt 0)) := by intro h6; exact ⟨Or.inl (by rw [← (show (Int32.ofInt 0) = (sF (sF sc38 46 4 w38_46_2) 46 3 (Int32.ofInt 0)).2.2.1 46 3 from sF_get)]; decide), (fun h2 => absurd h2 (by rw [← (show (Int32.ofInt 0) = (sF (sF sc38 46 4 w38_46_2) 46 3 (Int32.ofInt 0)).2.2.1 46 3 from sF_get)]; decide))⟩
      have n62a : ((sF (sF sc38 46 4 w38_46_2) 46 3 (Int32.ofInt 0)).2.2.1 46 3).toInt = 1 → In ((sF (sF sc38 46 4 w38_46_2) 46 3 (Int32.ofInt 0)).2.2.1 46 5) 0 25 := by intro h1; rw [← (show (Int32.ofInt 0) = (sF (sF sc38 46 4 w38_46_2) 46 3 (Int32.ofInt 0)).2.2.1 46 3 from sF_get)] at h1; exact absurd h1 (by decide)
      have n62b : (w38_46_2).toInt ≤ (u_46_1).toInt := by first | exact n38_0 | (exact (have a0 := in_u h2; have a1 := in_u h1; have a2 := in_u ro_46_1; have a3 := in_u ((inv_F hIc38 0 1000 rfl v38_46_2)); have a4 := in_u ((in_c 0 rfl)); by omega))
      have n62c : ((sF (sF sc38 46 4 w38_46_2) 46 3 (Int32.ofInt 0)).2.2.1 46 2).toInt ≤ ((sF (sF sc38 46 4 w38_46_2) 46 3 (Int32.ofInt 0)).2.2.1 46 1).toInt := by have b0 : w38_46_2 = (sF (sF sc38 46 4 w38_46_2) 46 3 (Int32.ofInt 0)).2.2.1 46 2 := sF_ne rfl (sF_ne rfl (v38_46_2)); have b1 : u_46_1 = (sF (sF sc38 46 4 w38_46_2) 46 3 (Int32.ofInt 0)).2.2.1 46 1 := sF_ne rfl (sF_ne rfl (fr_F e_46_1 hFc38 rfl)); rw [← b0, ← b1]; exact n62b
      have n62d : (w38_46_2).toInt ≤ (w38_46_2).toInt := by exact (have a0 := in_u h2; have a1 := in_u h1; have a2 := in_u ro_46_1; have a3 := in_u ((inv_F hIc38 0 1000 rfl v38_46_2)); have a4 := in_u ((in_c 0 rfl)); by omega)
      have n62e : ((sF (sF sc38 46 4 w38_46_2) 46 3 (Int32.ofInt 0)).2.2.1 46 4).toInt ≤ ((sF (sF sc38 46 4 w38_46_2) 46 3 (Int32.ofInt 0)).2.2.1 46 2).toInt := by have b0 : w38_46_2 = (sF (sF sc38 46 4 w38_46_2) 46 3 (Int32.ofInt 0)).2.2.1 46 4 := sF_ne rfl (sF_get); have b1 : w38_46_2 = (sF (sF sc38 46 4 w38_46_2) 46 3 (Int32.ofInt 0)).2.2.1 46 2 := sF_ne rfl (sF_ne rfl (v38_46_2)); rw [← b0, ← b1]; exact n62d
      have n62f : (u_46_2).toInt ≤ (w38_46_2).toInt := by first | exact n38_1 | (exact (have a0 := in_u h2; have a1 := in_u h1; have a2 := in_u ro_46_1; have a3 := in_u ((inv_F hIc38 0 1000 rfl v38_46_2)); have a4 := in_u ((in_c 0 rfl)); by omega))
      have n62g : (s.2.2.1 46 2).toInt ≤ ((sF (sF sc38 46 4 w38_46_2) 46 3 (Int32.ofInt 0)).2.2.1 46 4).toInt := by have b0 : w38_46_2 = (sF (sF sc38 46 4 w38_46_2) 46 3 (Int32.ofInt 0)).2.2.1 46 4 := sF_ne rfl (sF_get); rw [← b0, ← e_46_2]; exact n62f
      exact g_return (gd rfl) rfl (hP _ _ ⟨(sF (sF sc38 46 4 w38_46_2) 46 3 (Int32.ofInt 0)), hI48, (fr_sF rfl (fr_sF rfl hFc38)), n62c, n62e, n62g, rfl, rfl, n62, n62a⟩)
  have ct0 : ∀ (k0 : Nat) (sc0 : GS) (w0_46_2 : Int32), Inv sc0 → Fr fm_171_46 s sc0 → (w0_46_2 = sc0.2.2.1 46 2) → ((w0_46_2).toInt ≤ (u_46_1).toInt) → ((u_46_2).toInt ≤ (w0_46_2).toInt) → (u_46_1).toInt - (w0_46_2).toInt < (k0 : Int) → GG Z (d - 1) 171 post (gx xp) (2704 + k0 * 900) 0 (fun j => xlook j [(0, .ref (A 46)), (1, .int x1), (2, .int x2)]) [] (WW Z A sc0 ++ ex) 0 0 := by
    intro k0
    induction k0 with
    | zero => intro sc0 w0_46_2 hIc0 hFc0 v0_46_2 n0_0 n0_1 mm0; exfalso; exact (have a0 := in_u h2; have a1 := in_u h1; have a2 := in_u ro_46_1; have a3 := in_u ((inv_F hIc0 0 1000 rfl v0_46_2)); by omega)
    | succ k0 ih0 =>
      intro sc0 w0_46_2 hIc0 hFc0 v0_46_2 n0_0 n0_1 mm0
      refine gg_w (M := 2704 + k0 * 900 + 900) gws ?_
      refine g_aload_n 1 (gd rfl) rfl rfl ?_
      refine g_getI 4 (gd rfl) rfl rfl rfl (fun z1 e1 => ?_)
      have q1 : w0_46_2 = z1 := (v0_46_2).trans e1.symm
      subst q1
      refine g_aload_n 5 (gd rfl) rfl rfl ?_
      refine g_getI 8 (gd rfl) rfl rfl rfl (fun z5 e5 => ?_)
      have q5 : u_46_1 = z5 := (fr_F e_46_1 hFc0 rfl).trans e5.symm
      subst q5
      refine g_cmp_ge 11 38 (gd rfl) rfl rfl (fun c8 => ?_) (fun c8 => ?_)
      · skip
        have n38 : (w0_46_2).toInt ≤ (u_46_1).toInt := by first | exact n0_0 | (exact (have a0 := in_u h2; have a1 := in_u h1; have a2 := in_u ro_46_1; have a3 := in_u ((inv_F hIc0 0 1000 rfl v0_46_2)); by omega))
        have n38a : (u_46_2).toInt ≤ (w0_46_2).toInt := by first | exact n0_1 | (exact (have a0 := in_u h2; have a1 := in_u h1; have a2 := in_u ro_46_1; have a3 := in_u ((inv_F hIc0 0 1000 rfl v0_46_2)); by omega))
        exact gg_w (by first | exact Nat.le_add_right _ _ | exact gw2 | exact gw3 | exact gwe rfl | exact gwf rfl | exact gwg rfl | exact gwh rfl | omega) (gg_f (gf_cons rfl (gf_cons rfl (gf_cons rfl gf_nil))) (ct38 sc0 w0_46_2 hIc0 hFc0 v0_46_2 n38 n38a))
      · skip
        have i8 := r_lt1 0 999 c8 (inv_F hIc0 0 1000 rfl v0_46_2) ro_46_1 rfl
        have i8a := r_lt2 1 1000 c8 (inv_F hIc0 0 1000 rfl v0_46_2) ro_46_1 rfl
        refine g_aload_n 12 (gd rfl) rfl rfl ?_
        refine g_getA (q2 := 47) 15 (gd rfl) rfl rfl rfl rfl ?_
        refine g_aload_n 16 (gd rfl) rfl rfl ?_
        refine g_getI 19 (gd rfl) rfl rfl rfl (fun z16 e16 => ?_)
        have q16 : w0_46_2 = z16 := (v0_46_2).trans e16.symm
        subst q16
        refine g_caload 20 (gd rfl) rfl (n := 1000) rfl (in_ix i8 rfl) (fun z19 e19 => ?_)
        have i19 := inv_I hIc0 (n := 1000) (t := 2) 0 65535 rfl (in_ix i8 rfl) rfl e19
        refine g_bipush 32 22 (gd rfl) rfl rfl ?_
        refine g_cmp_ne 25 38 (gd rfl) rfl rfl (fun c22 => ?_) (fun c22 => ?_)
        · skip
          have n38 : (w0_46_2).toInt ≤ (u_46_1).toInt := by first | exact n0_0 | (exact (have a0 := in_u h2; have a1 := in_u h1; have a2 := in_u i8a; have a3 := in_u i8; by omega))
          have n38a : (u_46_2).toInt ≤ (w0_46_2).toInt := by first | exact n0_1 | (exact (have a0 := in_u h2; have a1 := in_u h1; have a2 := in_u i8a; have a3 := in_u i8; by omega))
          exact gg_w (by first | exact Nat.le_add_right _ _ | exact gw2 | exact gw3 | exact gwe rfl | exact gwf rfl | exact gwg rfl | exact gwh rfl | omega) (gg_f (gf_cons rfl (gf_cons rfl (gf_cons rfl gf_nil))) (ct38 sc0 w0_46_2 hIc0 hFc0 v0_46_2 n38 n38a))
        · skip
          have i22 := r_eq1 32 32 c22 i19 (in_c 32 rfl) rfl
          refine g_aload_n 26 (gd rfl) rfl rfl ?_
          refine g_dup 27 (gd rfl) rfl rfl ?_
          refine g_getI 30 (gd rfl) rfl rfl rfl (fun z27 e27 => ?_)
          have q27 : w0_46_2 = z27 := (v0_46_2).trans e27.symm
          subst q27
          refine g_iconst 1 31 (gd rfl) rfl rfl ?_
          refine g_iadd 32 (gd rfl) rfl (fun z31 e31 => ?_)
          have i31 := in_add 1 1000 e31 i8 (in_c 1 rfl) rfl rfl
          refine g_putI 35 (gd rfl) rfl rfl rfl rfl ?_
          have hI32 := inv_sF (q := 46) (j := 2) hIc0 rfl (in_w 0 1000 i31 rfl)
          refine g_goto 0 (gd rfl) rfl ?_
          have v0 : z31 = (sF sc0 46 2 z31).2.2.1 46 2 := sF_get
          have n0 : (z31).toInt ≤ (u_46_1).toInt := by exact (have a0 := in_u h2; have a1 := in_u h1; have a2 := in_u i8a; have a3 := in_u i8; have a4 := in_u i31; have a5 := t_add e31 i8 (in_c 1 rfl) rfl; have a6 := in_u ((in_c 1 rfl)); by omega)
          have n0a : (u_46_2).toInt ≤ (z31).toInt := by exact (have a0 := in_u h2; have a1 := in_u h1; have a2 := in_u i8a; have a3 := in_u i8; have a4 := in_u i31; have a5 := t_add e31 i8 (in_c 1 rfl) rfl; have a6 := in_u ((in_c 1 rfl)); by omega)
          have m0 : (u_46_1).toInt - (z31).toInt < ((k0 : Nat) : Int) := by exact (have a0 := in_u h2; have a1 := in_u h1; have a2 := in_u i8a; have a3 := in_u i8; have a4 := in_u i31; have a5 := t_add e31 i8 (in_c 1 rfl) rfl; have a6 := in_u ((in_c 1 rfl)); by omega)
          exact gg_w (by first | exact Nat.le_add_right _ _ | exact gw2 | exact gw3 | exact gwe rfl | exact gwf rfl | exact gwg rfl | exact gwh rfl | omega) (gg_f (gf_cons rfl (gf_cons rfl (gf_cons rfl gf_nil))) (ih0  (sF sc0 46 2 z31) z31 hI32 (fr_sF rfl hFc0) v0 n0 n0a m0))
  refine g_enter2 (k := 171) (N := 904504) (by first | exact dq1 hd rfl | exact dq0 hd rfl | exact dq2 hd rfl | exact dq3 hd rfl | omega) rfl (Nat.le_of_ble_eq_true rfl) ?_
  have n0 : (u_46_2).toInt ≤ (u_46_1).toInt := by exact (have a0 := in_u ((inv_F hI 0 1000 rfl e_46_1)); have a1 := in_u ((inv_F hI 0 1000 rfl e_46_2)); have a2 := in_u h2; have a3 := in_u h1; by omega)
  have n0a : (u_46_2).toInt ≤ (u_46_2).toInt := by exact (have a0 := in_u ((inv_F hI 0 1000 rfl e_46_1)); have a1 := in_u ((inv_F hI 0 1000 rfl e_46_2)); have a2 := in_u h2; have a3 := in_u h1; by omega)
  have m0 : (u_46_1).toInt - (u_46_2).toInt < ((1001 : Nat) : Int) := by exact (have a0 := in_u ((inv_F hI 0 1000 rfl e_46_1)); have a1 := in_u ((inv_F hI 0 1000 rfl e_46_2)); have a2 := in_u h2; have a3 := in_u h1; by omega)
  exact gg_w (by first | exact Nat.le_of_ble_eq_true rfl | omega) (gg_f (gf_cons rfl (gf_cons rfl (gf_cons rfl gf_nil))) (ct0 1001 s u_46_2 hI fr_rf e_46_2 n0 n0a m0))
