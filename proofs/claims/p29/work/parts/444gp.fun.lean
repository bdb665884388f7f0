/-! FUNCTIONAL CONTRACTS, by fgen.py -/
theorem oc_337_109 : (Int32.ofInt (-1)).toInt = (-1) ∧ (Int32.ofInt 0).toInt = 0 ∧ (Int32.ofInt 1).toInt = 1 ∧ (Int32.ofInt 32).toInt = 32 := ⟨rfl, rfl, rfl, rfl⟩
set_option maxHeartbeats 4000000 in
/-- GraphHouseModel.findClique -/
theorem f_337 {Z : AmZ} {A : Nat → Nat} {s : GS} {ex : va_W} {d : Nat} {X : AmX}  (hd : 4 ≤ d) (hI : Inv s)  : GC Z d 337 [.ref (A 109)] (WW Z A s ++ ex) 0 0 (fun v u => ∃ t : GS, Inv t ∧ Fr fm_337 s t ∧ ∃ z : Int32, v = some (.int z) ∧ u = WW Z A t ++ ex ∧ In z (-2147483648) 2147483647 ∧ (BSD t) ∧ (CLG (gvZ s) z)) X := by
  intro post xp hP hX
  obtain ⟨u_109_20, e_109_20⟩ : ∃ w, w = s.2.2.1 109 20 := ⟨_, rfl⟩
  have ro_109_20 := inv_F hI 0 32 rfl e_109_20
  have ct44 : ∀ (k44 : Nat) (sc44 : GS) (y44_1 : Int32) (y44_2 : Int32) (y44_3 : Int32), Inv sc44 → Fr fm_337 s sc44 → (In y44_2 0 32) → (In y44_3 (-1) 32) → (∀ d : Nat, (d : Int) ≤ (y44_3).toInt → cb (sc44.1 140 d) + d ≤ 32) → (BSD sc44) → (RCQ2 ((sc44).1 138) (s.2.2.1 109 20).toInt ((sc44).1 140) ((sc44).1 139) (y44_3).toInt (y44_1) (y44_2).toInt) → (BFR (gvZ s) (s.2.2.1 109 20).toInt ((sc44).1 138)) → sW (sc44.1 140) ((y44_3).toInt + 1).toNat < k44 → GG Z (d - 1) 337 post (gx xp) (1 + k44 * 900) 44 (fun j => xlook j [(0, .ref (A 109)), (1, .int y44_1), (2, .int y44_2), (3, .int y44_3)]) [] (WW Z A sc44 ++ ex) 0 0 := by
    intro k44
    induction k44 with
    | zero => intro sc44 y44_1 y44_2 y44_3 hIc44 hFc44 j44_2 j44_3 g44_0 g44_1 g44_2 g44_3 mm44; exact absurd mm44 (Nat.not_lt_zero _)
    | succ k44 ih44 =>
      intro sc44 y44_1 y44_2 y44_3 hIc44 hFc44 j44_2 j44_3 g44_0 g44_1 g44_2 g44_3 mm44
      refine gg_w (M := 1 + k44 * 900 + 900) gws ?_
      refine g_iload_n 45 (gd rfl) rfl rfl ?_
      refine g_if_lt 48 165 (gd rfl) rfl rfl (fun c45 => ?_) (fun c45 => ?_)
      · skip
        have i45 := z_lt (-1) (-1) c45 j44_3 rfl
        refine g_iload_n 166 (gd rfl) rfl rfl ?_
        have n166 : BSD sc44 := by exact g44_1
        have n166a : CLG (gvZ s) y44_1 := by exact ⟨_, by rw [gvz_n hI]; exact g44_3, by rw [gvz_n hI]; exact rcq_e g44_2 (by exact (have a0 := in_u ro_109_20; have a1 := in_u i45; have a2 := in_u j44_2; have oc := oc_337_109; by omega))⟩
        exact g_ireturn (gd rfl) rfl rfl (hP _ _ ⟨sc44, hIc44, hFc44, y44_1, rfl, rfl, in_w (-2147483648) 2147483647 (i_rng y44_1) rfl, n166, n166a⟩)
      · skip
        have i45 := z_ge 0 32 c45 j44_3 rfl
        refine g_iload_n 49 (gd rfl) rfl rfl ?_
        refine g_iload_n 50 (gd rfl) rfl rfl ?_
        refine g_cmp_le 53 62 (gd rfl) rfl rfl (fun c50 => ?_) (fun c50 => ?_)
        · skip
          refine g_aload_n 63 (gd rfl) rfl rfl ?_
          refine g_getA (q2 := 140) 66 (gd rfl) rfl rfl rfl rfl ?_
          refine g_iload_n 67 (gd rfl) rfl rfl ?_
          refine g_iaload 68 (gd rfl) rfl (n := 33) rfl (in_ix i45 rfl) (fun z67 e67 => ?_)
          refine g_if_eq 71 86 (gd rfl) rfl rfl (fun c68 => ?_) (fun c68 => ?_)
          · skip
            have i68 := z_eq 0 0 c68 (i_rng z67) rfl
            refine g_iinc 89 (gd rfl) rfl rfl (Nat.le_of_ble_eq_true rfl) (fun z86 e86 => ?_)
            have i86 := in_add (-1) 31 e86 i45 (in_c (-1) rfl) rfl rfl
            refine g_goto 44 (gd rfl) rfl ?_
            have n44 : ∀ d : Nat, (d : Int) ≤ (z86).toInt → cb (sc44.1 140 d) + d ≤ 32 := by first | exact fun d hd => g44_0 d (by exact (have a0 := in_u ro_109_20; have a1 := in_u i45; have a2 := in_u j44_2; have a3 := in_u i86; have a4 := t_add e86 i45 (in_c (-1) rfl) rfl; have a5 := in_u ((in_c (-1) rfl)); have oc := oc_337_109; by omega)) | (have hS : (sc44).1 140 = upd (upd (sc44.1 140) y44_3.toNatClampNeg z116) z124.toNatClampNeg z138 := (by simp [sI]); rw [hS]; exact (fc_push (w := z159) i92 g44_0 e67 (t_add e124 i92 (in_c 1 rfl) rfl) (t_add e159 i92 (in_c 1 rfl) rfl) (cb_clr e113 e115 e116 i98 hb98) (cb_and_le e138)).1) | (intro d hd; have h0 : (Int32.ofInt 0).toInt = 0 := rfl; have hc := cb_le (sc44.1 140 d); omega)
            have n44a : BSD sc44 := by first | exact g44_1 | (unfold BSD; simp only [sI_p (show Nat.beq 138 139 = false from rfl), sI_p (show Nat.beq 138 140 = false from rfl)]; exact g44_1)
            have n44b : RCQ2 ((sc44).1 138) (s.2.2.1 109 20).toInt ((sc44).1 140) ((sc44).1 139) (z86).toInt (y44_1) (y44_2).toInt := by exact rcq_pop (D := (y44_3).toNatClampNeg) g44_2 ((clx (show 0 ≤ (y44_3).toInt from (by exact (have a0 := in_u ro_109_20; have a1 := in_u i45; have a2 := in_u j44_2; have a3 := in_u i86; have a4 := t_add e86 i45 (in_c (-1) rfl) rfl; have a5 := in_u ((in_c (-1) rfl)); have oc := oc_337_109; by omega)))).symm) (by exact (have a0 := in_u ro_109_20; have a1 := in_u i45; have a2 := in_u j44_2; have a3 := in_u i86; have a4 := t_add e86 i45 (in_c (-1) rfl) rfl; have a5 := in_u ((in_c (-1) rfl)); have oc := oc_337_109; by omega)) (by exact (have a0 := in_u ro_109_20; have a1 := in_u i45; have a2 := in_u j44_2; have a3 := in_u i86; have a4 := t_add e86 i45 (in_c (-1) rfl) rfl; have a5 := in_u ((in_c (-1) rfl)); have oc := oc_337_109; by omega)) (Or.inl (by rw [← e67]; exact c68))
            have n44c : BFR (gvZ s) (s.2.2.1 109 20).toInt ((sc44).1 138) := by exact g44_3
            have m44 : sW (sc44.1 140) ((z86).toInt + 1).toNat < k44 := by first | (have hS : (sc44).1 140 = upd (upd (sc44.1 140) y44_3.toNatClampNeg z116) z124.toNatClampNeg z138 := (by simp [sI]); rw [hS]; have h := (fc_push (w := z159) i92 g44_0 e67 (t_add e124 i92 (in_c 1 rfl) rfl) (t_add e159 i92 (in_c 1 rfl) rfl) (cb_clr e113 e115 e116 i98 hb98) (cb_and_le e138)).2; omega) | (have hp := sW_pop (sc44.1 140) ((z86).toInt + 1).toNat; have he : (y44_3.toInt + 1).toNat = ((z86).toInt + 1).toNat + 1 := (by exact (have a0 := in_u ro_109_20; have a1 := in_u i45; have a2 := in_u j44_2; have a3 := in_u i86; have a4 := t_add e86 i45 (in_c (-1) rfl) rfl; have a5 := in_u ((in_c (-1) rfl)); have oc := oc_337_109; by omega)); have hm := mm44; rw [he] at hm; omega)
            exact gg_w (by first | exact Nat.le_add_right _ _ | exact gw2 | exact gw3 | exact gwe rfl | exact gwf rfl | exact gwg rfl | exact gwh rfl | omega) (gg_f (gf_cons rfl (gf_cons rfl (gf_cons rfl (gf_cons rfl gf_nil)))) (ih44  sc44 y44_1 y44_2 z86 hIc44 hFc44 (in_w 0 32 j44_2 rfl) (in_w (-1) 32 i86 rfl) n44 n44a n44b n44c m44))
          · skip
            refine g_iload_n 72 (gd rfl) rfl rfl ?_
            refine g_aload_n 73 (gd rfl) rfl rfl ?_
            refine g_getA (q2 := 140) 76 (gd rfl) rfl rfl rfl rfl ?_
            refine g_iload_n 77 (gd rfl) rfl rfl ?_
            refine g_iaload 78 (gd rfl) rfl (n := 33) rfl (in_ix i45 rfl) (fun z77 e77 => ?_)
            have q77 : z67 = z77 := (e67).trans e77.symm
            subst q77
            refine g_calls (As := [.int z67]) (r := [.int y44_3]) 81 (gd rfl) rfl rfl rfl rfl rfl (Nat.le_of_ble_eq_true rfl) (Nat.zero_le _) (Nat.zero_le _) (k_336 (by first | exact dq1 hd rfl | exact dq0 hd rfl | exact dq2 hd rfl | exact dq3 hd rfl | omega) hIc44 ) (fun v u h => ?_)
            obtain ⟨z78, rfl, rfl, i78, p78⟩ := h
            show GG _ _ _ _ _ _ _ _ [.int z78, .int y44_3] _ _ _
            refine g_iadd 82 (gd rfl) rfl (fun z81 e81 => ?_)
            have i81 := in_add 0 64 e81 i45 i78 rfl rfl
            refine g_iload_n 83 (gd rfl) rfl rfl ?_
            refine g_cmp_gt 86 92 (gd rfl) rfl rfl (fun c83 => ?_) (fun c83 => ?_)
            · skip
              have i83 := r_lt2 1 64 c83 j44_2 i81 rfl
              have i92 : In y44_3 0 31 := by exact fc_ix (in_w 0 32 i45 rfl) g44_0 e67 c68
              refine g_aload_n 93 (gd rfl) rfl rfl ?_
              refine g_getA (q2 := 140) 96 (gd rfl) rfl rfl rfl rfl ?_
              refine g_iload_n 97 (gd rfl) rfl rfl ?_
              refine g_iaload 98 (gd rfl) rfl (n := 33) rfl (in_ix i92 rfl) (fun z97 e97 => ?_)
              have q97 : z67 = z97 := (e67).trans e97.symm
              subst q97
              refine g_calls (As := [.int z67]) (r := []) 101 (gd rfl) rfl rfl rfl rfl rfl (Nat.le_of_ble_eq_true rfl) (Nat.zero_le _) (Nat.zero_le _) (k_327m (by first | exact dq1 hd rfl | exact dq0 hd rfl | exact dq2 hd rfl | exact dq3 hd rfl | omega) c68) (fun v u h => ?_)
              obtain ⟨z98, rfl, rfl, i98, hb98, hl98⟩ := h
              show GG _ _ _ _ _ _ _ _ [.int z98] _ _ _
              refine g_istore 103 (gd rfl) rfl (Nat.le_of_ble_eq_true rfl) ?_
              refine g_aload_n 104 (gd rfl) rfl rfl ?_
              refine g_getA (q2 := 140) 107 (gd rfl) rfl rfl rfl rfl ?_
              refine g_iload_n 108 (gd rfl) rfl rfl ?_
              refine g_dup2 109 (gd rfl) rfl rfl rfl ?_
              refine g_iaload 110 (gd rfl) rfl (n := 33) rfl (in_ix i92 rfl) (fun z109 e109 => ?_)
              have q109 : z67 = z109 := (e67).trans e109.symm
              subst q109
              refine g_iconst 1 111 (gd rfl) rfl rfl ?_
              refine g_iload 113 (gd rfl) rfl rfl ?_
              refine g_ishl 114 (gd rfl) rfl (fun z113 e113 => ?_)
              refine g_iconst (-1) 115 (gd rfl) rfl rfl ?_
              refine g_ixor 116 (gd rfl) rfl (fun z115 e115 => ?_)
              refine g_iand 117 (gd rfl) rfl (fun z116 e116 => ?_)
              refine g_iastore 118 (gd rfl) rfl (n := 33) rfl (in_ix i92 rfl) ?_
              have hI117 := inv_sI (q := 140) (j := y44_3.toNatClampNeg) hIc44 rfl (in_w (-2147483648) 2147483647 (i_rng z116) rfl)
              refine g_aload_n 119 (gd rfl) rfl rfl ?_
              refine g_getA (q2 := 140) 122 (gd rfl) rfl rfl rfl rfl ?_
              refine g_iload_n 123 (gd rfl) rfl rfl ?_
              refine g_iconst 1 124 (gd rfl) rfl rfl ?_
              refine g_iadd 125 (gd rfl) rfl (fun z124 e124 => ?_)
              have i124 := in_add 1 32 e124 i92 (in_c 1 rfl) rfl rfl
              refine g_aload_n 126 (gd rfl) rfl rfl ?_
              refine g_getA (q2 := 140) 129 (gd rfl) rfl rfl rfl rfl ?_
              refine g_iload_n 130 (gd rfl) rfl rfl ?_
              refine g_iaload 131 (gd rfl) rfl (n := 33) rfl (in_ix i92 rfl) (fun z130 e130 => ?_)
              have q130 : z116 = z130 := (sI_get).trans e130.symm
              subst q130
              refine g_aload_n 132 (gd rfl) rfl rfl ?_
              refine g_getA (q2 := 138) 135 (gd rfl) rfl rfl rfl rfl ?_
              refine g_iload 137 (gd rfl) rfl rfl ?_
              refine g_iaload 138 (gd rfl) rfl (n := 32) rfl (in_ix i98 rfl) (fun z137 e137 => ?_)
              refine g_iand 139 (gd rfl) rfl (fun z138 e138 => ?_)
              refine g_iastore 140 (gd rfl) rfl (n := 33) rfl (in_ix i124 rfl) ?_
              have hI139 := inv_sI (q := 140) (j := z124.toNatClampNeg) hI117 rfl (in_w (-2147483648) 2147483647 (i_rng z138) rfl)
              refine g_aload_n 141 (gd rfl) rfl rfl ?_
              refine g_getA (q2 := 139) 144 (gd rfl) rfl rfl rfl rfl ?_
              refine g_iload_n 145 (gd rfl) rfl rfl ?_
              refine g_iconst 1 146 (gd rfl) rfl rfl ?_
              refine g_iadd 147 (gd rfl) rfl (fun z146 e146 => ?_)
              have i146 := in_add 1 32 e146 i92 (in_c 1 rfl) rfl rfl
              refine g_aload_n 148 (gd rfl) rfl rfl ?_
              refine g_getA (q2 := 139) 151 (gd rfl) rfl rfl rfl rfl ?_
              refine g_iload_n 152 (gd rfl) rfl rfl ?_
              refine g_iaload 153 (gd rfl) rfl (n := 33) rfl (in_ix i92 rfl) (fun z152 e152 => ?_)
              refine g_iconst 1 154 (gd rfl) rfl rfl ?_
              refine g_iload 156 (gd rfl) rfl rfl ?_
              refine g_ishl 157 (gd rfl) rfl (fun z156 e156 => ?_)
              refine g_ior 158 (gd rfl) rfl (fun z157 e157 => ?_)
              refine g_iastore 159 (gd rfl) rfl (n := 33) rfl (in_ix i146 rfl) ?_
              have hI158 := inv_sI (q := 139) (j := z146.toNatClampNeg) hI139 rfl (in_w (-2147483648) 2147483647 (i_rng z157) rfl)
              refine g_iinc 162 (gd rfl) rfl rfl (Nat.le_of_ble_eq_true rfl) (fun z159 e159 => ?_)
              have i159 := in_add 1 32 e159 i92 (in_c 1 rfl) rfl rfl
              refine g_goto 44 (gd rfl) rfl ?_
              have n44 : ∀ d : Nat, (d : Int) ≤ (z159).toInt → cb ((sI (sI (sI sc44 140 y44_3.toNatClampNeg z116) 140 z124.toNatClampNeg z138) 139 z146.toNatClampNeg z157).1 140 d) + d ≤ 32 := by first | exact fun d hd => g44_0 d (by exact (have a0 := in_u ro_109_20; have a1 := in_u i92; have a2 := in_u j44_2; have a3 := in_u i98; have a4 := in_u i159; have a5 := t_add e159 i92 (in_c 1 rfl) rfl; have a6 := in_u ((in_c 1 rfl)); have a7 := in_u i146; have a8 := t_add e146 i92 (in_c 1 rfl) rfl; have a9 := in_u i124; have a10 := t_add e124 i92 (in_c 1 rfl) rfl; have a11 := in_u i83; have a12 := t_add e81 i45 i78 rfl; have a13 := in_u i78; have oc := oc_337_109; by omega)) | (have hS : ((sI (sI (sI sc44 140 y44_3.toNatClampNeg z116) 140 z124.toNatClampNeg z138) 139 z146.toNatClampNeg z157)).1 140 = upd (upd (sc44.1 140) y44_3.toNatClampNeg z116) z124.toNatClampNeg z138 := (by simp [sI]); rw [hS]; exact (fc_push (w := z159) i92 g44_0 e67 (t_add e124 i92 (in_c 1 rfl) rfl) (t_add e159 i92 (in_c 1 rfl) rfl) (cb_clr e113 e115 e116 i98 hb98) (cb_and_le e138)).1) | (intro d hd; have h0 : (Int32.ofInt 0).toInt = 0 := rfl; have hc := cb_le ((sI (sI (sI sc44 140 y44_3.toNatClampNeg z116) 140 z124.toNatClampNeg z138) 139 z146.toNatClampNeg z157).1 140 d); omega)
              have n44a : BSD (sI (sI (sI sc44 140 y44_3.toNatClampNeg z116) 140 z124.toNatClampNeg z138) 139 z146.toNatClampNeg z157) := by first | exact g44_1 | (unfold BSD; simp only [sI_p (show Nat.beq 138 139 = false from rfl), sI_p (show Nat.beq 138 140 = false from rfl)]; exact g44_1)
              have n44b : RCQ2 (((sI (sI (sI sc44 140 y44_3.toNatClampNeg z116) 140 z124.toNatClampNeg z138) 139 z146.toNatClampNeg z157)).1 138) (s.2.2.1 109 20).toInt (((sI (sI (sI sc44 140 y44_3.toNatClampNeg z116) 140 z124.toNatClampNeg z138) 139 z146.toNatClampNeg z157)).1 140) (((sI (sI (sI sc44 140 y44_3.toNatClampNeg z116) 140 z124.toNatClampNeg z138) 139 z146.toNatClampNeg z157)).1 139) (z159).toInt (y44_1) (y44_2).toInt := by simp only [sI_p (show Nat.beq 138 139 = false from rfl), sI_p (show Nat.beq 138 140 = false from rfl), sI_p (show Nat.beq 140 139 = false from rfl), sI_p (show Nat.beq 139 140 = false from rfl), sI_q]; exact rcq_w g44_2 (bfr_sy hI g44_3) i92 (t_add e124 i92 (in_c 1 rfl) rfl) (t_add e146 i92 (in_c 1 rfl) rfl) (t_add e159 i92 (in_c 1 rfl) rfl) e67 hb98 hl98 i98 e113 e115 e116 (show z137 = sc44.1 138 _ from (by rw [e137, sI_p (show Nat.beq 138 140 = false from rfl)])) e138 (show z152 = sc44.1 139 _ from (by rw [e152, sI_p (show Nat.beq 139 140 = false from rfl), sI_p (show Nat.beq 139 140 = false from rfl)])) e156 e157
              have n44c : BFR (gvZ s) (s.2.2.1 109 20).toInt (((sI (sI (sI sc44 140 y44_3.toNatClampNeg z116) 140 z124.toNatClampNeg z138) 139 z146.toNatClampNeg z157)).1 138) := by simp only [sI_p (show Nat.beq 138 139 = false from rfl), sI_p (show Nat.beq 138 140 = false from rfl)]; exact g44_3
              have m44 : sW ((sI (sI (sI sc44 140 y44_3.toNatClampNeg z116) 140 z124.toNatClampNeg z138) 139 z146.toNatClampNeg z157).1 140) ((z159).toInt + 1).toNat < k44 := by first | (have hS : ((sI (sI (sI sc44 140 y44_3.toNatClampNeg z116) 140 z124.toNatClampNeg z138) 139 z146.toNatClampNeg z157)).1 140 = upd (upd (sc44.1 140) y44_3.toNatClampNeg z116) z124.toNatClampNeg z138 := (by simp [sI]); rw [hS]; have h := (fc_push (w := z159) i92 g44_0 e67 (t_add e124 i92 (in_c 1 rfl) rfl) (t_add e159 i92 (in_c 1 rfl) rfl) (cb_clr e113 e115 e116 i98 hb98) (cb_and_le e138)).2; omega) | (have hp := sW_pop ((sI (sI (sI sc44 140 y44_3.toNatClampNeg z116) 140 z124.toNatClampNeg z138) 139 z146.toNatClampNeg z157).1 140) ((z159).toInt + 1).toNat; have he : (y44_3.toInt + 1).toNat = ((z159).toInt + 1).toNat + 1 := (by exact (have a0 := in_u ro_109_20; have a1 := in_u i92; have a2 := in_u j44_2; have a3 := in_u i98; have a4 := in_u i159; have a5 := t_add e159 i92 (in_c 1 rfl) rfl; have a6 := in_u ((in_c 1 rfl)); have a7 := in_u i146; have a8 := t_add e146 i92 (in_c 1 rfl) rfl; have a9 := in_u i124; have a10 := t_add e124 i92 (in_c 1 rfl) rfl; have a11 := in_u i83; have a12 := t_add e81 i45 i78 rfl; have a13 := in_u i78; have oc := oc_337_109; by omega)); have hm := mm44; rw [he] at hm; omega)
              exact gg_w (by first | exact Nat.le_add_right _ _ | exact gw2 | exact gw3 | exact gwe rfl | exact gwf rfl | exact gwg rfl | exact gwh rfl | omega) (gg_f (gf_cons rfl (gf_cons rfl (gf_cons rfl (gf_cons rfl gf_nil)))) (ih44  (sI (sI (sI sc44 140 y44_3.toNatClampNeg z116) 140 z124.toNatClampNeg z138) 139 z146.toNatClampNeg z157) y44_1 y44_2 z159 hI158 (fr_sI rfl (fr_sI rfl (fr_sI rfl hFc44))) (in_w 0 32 j44_2 rfl) (in_w (-1) 32 i159 rfl) n44 n44a n44b n44c m44))
            · skip
              have i83 := r_le1 0 32 c83 i81 j44_2 rfl
              refine g_iinc 89 (gd rfl) rfl rfl (Nat.le_of_ble_eq_true rfl) (fun z86 e86 => ?_)
              have i86 := in_add (-1) 31 e86 i45 (in_c (-1) rfl) rfl rfl
              refine g_goto 44 (gd rfl) rfl ?_
              have n44 : ∀ d : Nat, (d : Int) ≤ (z86).toInt → cb (sc44.1 140 d) + d ≤ 32 := by first | exact fun d hd => g44_0 d (by exact (have a0 := in_u ro_109_20; have a1 := in_u i45; have a2 := in_u j44_2; have a3 := in_u i86; have a4 := t_add e86 i45 (in_c (-1) rfl) rfl; have a5 := in_u ((in_c (-1) rfl)); have a6 := in_u i83; have a7 := t_add e81 i45 i78 rfl; have a8 := in_u i78; have oc := oc_337_109; by omega)) | (have hS : (sc44).1 140 = upd (upd (sc44.1 140) y44_3.toNatClampNeg z116) z124.toNatClampNeg z138 := (by simp [sI]); rw [hS]; exact (fc_push (w := z159) i92 g44_0 e67 (t_add e124 i92 (in_c 1 rfl) rfl) (t_add e159 i92 (in_c 1 rfl) rfl) (cb_clr e113 e115 e116 i98 hb98) (cb_and_le e138)).1) | (intro d hd; have h0 : (Int32.ofInt 0).toInt = 0 := rfl; have hc := cb_le (sc44.1 140 d); omega)
              have n44a : BSD sc44 := by first | exact g44_1 | (unfold BSD; simp only [sI_p (show Nat.beq 138 139 = false from rfl), sI_p (show Nat.beq 138 140 = false from rfl)]; exact g44_1)
              have n44b : RCQ2 ((sc44).1 138) (s.2.2.1 109 20).toInt ((sc44).1 140) ((sc44).1 139) (z86).toInt (y44_1) (y44_2).toInt := by exact rcq_pop (D := (y44_3).toNatClampNeg) g44_2 ((clx (show 0 ≤ (y44_3).toInt from (by exact (have a0 := in_u ro_109_20; have a1 := in_u i45; have a2 := in_u j44_2; have a3 := in_u i86; have a4 := t_add e86 i45 (in_c (-1) rfl) rfl; have a5 := in_u ((in_c (-1) rfl)); have a6 := in_u i83; have a7 := t_add e81 i45 i78 rfl; have a8 := in_u i78; have oc := oc_337_109; by omega)))).symm) (by exact (have a0 := in_u ro_109_20; have a1 := in_u i45; have a2 := in_u j44_2; have a3 := in_u i86; have a4 := t_add e86 i45 (in_c (-1) rfl) rfl; have a5 := in_u ((in_c (-1) rfl)); have a6 := in_u i83; have a7 := t_add e81 i45 i78 rfl; have a8 := in_u i78; have oc := oc_337_109; by omega)) (by exact (have a0 := in_u ro_109_20; have a1 := in_u i45; have a2 := in_u j44_2; have a3 := in_u i86; have a4 := t_add e86 i45 (in_c (-1) rfl) rfl; have a5 := in_u ((in_c (-1) rfl)); have a6 := in_u i83; have a7 := t_add e81 i45 i78 rfl; have a8 := in_u i78; have oc := oc_337_109; by omega)) (Or.inr (by rw [← e67]; exact (have a0 := in_u ro_109_20; have a1 := in_u i45; have a2 := in_u j44_2; have a3 := in_u i86; have a4 := t_add e86 i45 (in_c (-1) rfl) rfl; have a5 := in_u ((in_c (-1) rfl)); have a6 := in_u i83; have a7 := t_add e81 i45 i78 rfl; have a8 := in_u i78; have oc := oc_337_109; by omega)))
              have n44c : BFR (gvZ s) (s.2.2.1 109 20).toInt ((sc44).1 138) := by exact g44_3
              have m44 : sW (sc44.1 140) ((z86).toInt + 1).toNat < k44 := by first | (have hS : (sc44).1 140 = upd (upd (sc44.1 140) y44_3.toNatClampNeg z116) z124.toNatClampNeg z138 := (by simp [sI]); rw [hS]; have h := (fc_push (w := z159) i92 g44_0 e67 (t_add e124 i92 (in_c 1 rfl) rfl) (t_add e159 i92 (in_c 1 rfl) rfl) (cb_clr e113 e115 e116 i98 hb98) (cb_and_le e138)).2; omega) | (have hp := sW_pop (sc44.1 140) ((z86).toInt + 1).toNat; have he : (y44_3.toInt + 1).toNat = ((z86).toInt + 1).toNat + 1 := (by exact (have a0 := in_u ro_109_20; have a1 := in_u i45; have a2 := in_u j44_2; have a3 := in_u i86; have a4 := t_add e86 i45 (in_c (-1) rfl) rfl; have a5 := in_u ((in_c (-1) rfl)); have a6 := in_u i83; have a7 := t_add e81 i45 i78 rfl; have a8 := in_u i78; have oc := oc_337_109; by omega)); have hm := mm44; rw [he] at hm; omega)
              exact gg_w (by first | exact Nat.le_add_right _ _ | exact gw2 | exact gw3 | exact gwe rfl | exact gwf rfl | exact gwg rfl | exact gwh rfl | omega) (gg_f (gf_cons rfl (gf_cons rfl (gf_cons rfl (gf_cons rfl gf_nil)))) (ih44  sc44 y44_1 y44_2 z86 hIc44 hFc44 (in_w 0 32 j44_2 rfl) (in_w (-1) 32 i86 rfl) n44 n44a n44b n44c m44))
        · skip
          have i50 := r_lt1 0 31 c50 j44_2 i45 rfl
          have i50a := r_lt2 1 32 c50 j44_2 i45 rfl
          refine g_iload_n 54 (gd rfl) rfl rfl ?_
          refine g_istore_n 55 (gd rfl) rfl (Nat.le_of_ble_eq_true rfl) ?_
          refine g_aload_n 56 (gd rfl) rfl rfl ?_
          refine g_getA (q2 := 139) 59 (gd rfl) rfl rfl rfl rfl ?_
          refine g_iload_n 60 (gd rfl) rfl rfl ?_
          refine g_iaload 61 (gd rfl) rfl (n := 33) rfl (in_ix i50a rfl) (fun z60 e60 => ?_)
          refine g_istore_n 62 (gd rfl) rfl (Nat.le_of_ble_eq_true rfl) ?_
          refine g_aload_n 63 (gd rfl) rfl rfl ?_
          refine g_getA (q2 := 140) 66 (gd rfl) rfl rfl rfl rfl ?_
          refine g_iload_n 67 (gd rfl) rfl rfl ?_
          refine g_iaload 68 (gd rfl) rfl (n := 33) rfl (in_ix i50a rfl) (fun z67 e67 => ?_)
          refine g_if_eq 71 86 (gd rfl) rfl rfl (fun c68 => ?_) (fun c68 => ?_)
          · skip
            have i68 := z_eq 0 0 c68 (i_rng z67) rfl
            refine g_iinc 89 (gd rfl) rfl rfl (Nat.le_of_ble_eq_true rfl) (fun z86 e86 => ?_)
            have i86 := in_add 0 31 e86 i50a (in_c (-1) rfl) rfl rfl
            refine g_goto 44 (gd rfl) rfl ?_
            have n44 : ∀ d : Nat, (d : Int) ≤ (z86).toInt → cb (sc44.1 140 d) + d ≤ 32 := by first | exact fun d hd => g44_0 d (by exact (have a0 := in_u ro_109_20; have a1 := in_u i50a; have a2 := in_u i50; have a3 := in_u i86; have a4 := t_add e86 i50a (in_c (-1) rfl) rfl; have a5 := in_u ((in_c (-1) rfl)); have oc := oc_337_109; by omega)) | (have hS : (sc44).1 140 = upd (upd (sc44.1 140) y44_3.toNatClampNeg z116) z124.toNatClampNeg z138 := (by simp [sI]); rw [hS]; exact (fc_push (w := z159) i92 g44_0 e67 (t_add e124 i92 (in_c 1 rfl) rfl) (t_add e159 i92 (in_c 1 rfl) rfl) (cb_clr e113 e115 e116 i98 hb98) (cb_and_le e138)).1) | (intro d hd; have h0 : (Int32.ofInt 0).toInt = 0 := rfl; have hc := cb_le (sc44.1 140 d); omega)
            have n44a : BSD sc44 := by first | exact g44_1 | (unfold BSD; simp only [sI_p (show Nat.beq 138 139 = false from rfl), sI_p (show Nat.beq 138 140 = false from rfl)]; exact g44_1)
            have n44b : RCQ2 ((sc44).1 138) (s.2.2.1 109 20).toInt ((sc44).1 140) ((sc44).1 139) (z86).toInt (z60) (y44_3).toInt := by exact rcq_pop (D := (y44_3).toNatClampNeg) (rcq_h g44_2 ((clx (show 0 ≤ (y44_3).toInt from (by exact (have a0 := in_u ro_109_20; have a1 := in_u i50a; have a2 := in_u i50; have a3 := in_u i86; have a4 := t_add e86 i50a (in_c (-1) rfl) rfl; have a5 := in_u ((in_c (-1) rfl)); have oc := oc_337_109; by omega)))).symm) (by exact (have a0 := in_u ro_109_20; have a1 := in_u i50a; have a2 := in_u i50; have a3 := in_u i86; have a4 := t_add e86 i50a (in_c (-1) rfl) rfl; have a5 := in_u ((in_c (-1) rfl)); have oc := oc_337_109; by omega)) e60) ((clx (show 0 ≤ (y44_3).toInt from (by exact (have a0 := in_u ro_109_20; have a1 := in_u i50a; have a2 := in_u i50; have a3 := in_u i86; have a4 := t_add e86 i50a (in_c (-1) rfl) rfl; have a5 := in_u ((in_c (-1) rfl)); have oc := oc_337_109; by omega)))).symm) (by exact (have a0 := in_u ro_109_20; have a1 := in_u i50a; have a2 := in_u i50; have a3 := in_u i86; have a4 := t_add e86 i50a (in_c (-1) rfl) rfl; have a5 := in_u ((in_c (-1) rfl)); have oc := oc_337_109; by omega)) (by exact (have a0 := in_u ro_109_20; have a1 := in_u i50a; have a2 := in_u i50; have a3 := in_u i86; have a4 := t_add e86 i50a (in_c (-1) rfl) rfl; have a5 := in_u ((in_c (-1) rfl)); have oc := oc_337_109; by omega)) (Or.inl (by rw [← e67]; exact c68))
            have n44c : BFR (gvZ s) (s.2.2.1 109 20).toInt ((sc44).1 138) := by exact g44_3
            have m44 : sW (sc44.1 140) ((z86).toInt + 1).toNat < k44 := by first | (have hS : (sc44).1 140 = upd (upd (sc44.1 140) y44_3.toNatClampNeg z116) z124.toNatClampNeg z138 := (by simp [sI]); rw [hS]; have h := (fc_push (w := z159) i92 g44_0 e67 (t_add e124 i92 (in_c 1 rfl) rfl) (t_add e159 i92 (in_c 1 rfl) rfl) (cb_clr e113 e115 e116 i98 hb98) (cb_and_le e138)).2; omega) | (have hp := sW_pop (sc44.1 140) ((z86).toInt + 1).toNat; have he : (y44_3.toInt + 1).toNat = ((z86).toInt + 1).toNat + 1 := (by exact (have a0 := in_u ro_109_20; have a1 := in_u i50a; have a2 := in_u i50; have a3 := in_u i86; have a4 := t_add e86 i50a (in_c (-1) rfl) rfl; have a5 := in_u ((in_c (-1) rfl)); have oc := oc_337_109; by omega)); have hm := mm44; rw [he] at hm; omega)
            exact gg_w (by first | exact Nat.le_add_right _ _ | exact gw2 | exact gw3 | exact gwe rfl | exact gwf rfl | exact gwg rfl | exact gwh rfl | omega) (gg_f (gf_cons rfl (gf_cons rfl (gf_cons rfl (gf_cons rfl gf_nil)))) (ih44  sc44 z60 y44_3 z86 hIc44 hFc44 (in_w 0 32 i50a rfl) (in_w (-1) 32 i86 rfl) n44 n44a n44b n44c m44))
          · skip
            refine g_iload_n 72 (gd rfl) rfl rfl ?_
            refine g_aload_n 73 (gd rfl) rfl rfl ?_
            refine g_getA (q2 := 140) 76 (gd rfl) rfl rfl rfl rfl ?_
            refine g_iload_n 77 (gd rfl) rfl rfl ?_
            refine g_iaload 78 (gd rfl) rfl (n := 33) rfl (in_ix i50a rfl) (fun z77 e77 => ?_)
            have q77 : z67 = z77 := (e67).trans e77.symm
            subst q77
            refine g_calls (As := [.int z67]) (r := [.int y44_3]) 81 (gd rfl) rfl rfl rfl rfl rfl (Nat.le_of_ble_eq_true rfl) (Nat.zero_le _) (Nat.zero_le _) (k_336 (by first | exact dq1 hd rfl | exact dq0 hd rfl | exact dq2 hd rfl | exact dq3 hd rfl | omega) hIc44 ) (fun v u h => ?_)
            obtain ⟨z78, rfl, rfl, i78, p78⟩ := h
            show GG _ _ _ _ _ _ _ _ [.int z78, .int y44_3] _ _ _
            refine g_iadd 82 (gd rfl) rfl (fun z81 e81 => ?_)
            have i81 := in_add 1 64 e81 i50a i78 rfl rfl
            refine g_iload_n 83 (gd rfl) rfl rfl ?_
            refine g_cmp_gt 86 92 (gd rfl) rfl rfl (fun c83 => ?_) (fun c83 => ?_)
            · skip
              have i83 := r_lt2 2 64 c83 i50a i81 rfl
              have i92 : In y44_3 0 31 := by exact fc_ix (in_w 0 32 i50a rfl) g44_0 e67 c68
              refine g_aload_n 93 (gd rfl) rfl rfl ?_
              refine g_getA (q2 := 140) 96 (gd rfl) rfl rfl rfl rfl ?_
              refine g_iload_n 97 (gd rfl) rfl rfl ?_
              refine g_iaload 98 (gd rfl) rfl (n := 33) rfl (in_ix i92 rfl) (fun z97 e97 => ?_)
              have q97 : z67 = z97 := (e67).trans e97.symm
              subst q97
              refine g_calls (As := [.int z67]) (r := []) 101 (gd rfl) rfl rfl rfl rfl rfl (Nat.le_of_ble_eq_true rfl) (Nat.zero_le _) (Nat.zero_le _) (k_327m (by first | exact dq1 hd rfl | exact dq0 hd rfl | exact dq2 hd rfl | exact dq3 hd rfl | omega) c68) (fun v u h => ?_)
              obtain ⟨z98, rfl, rfl, i98, hb98, hl98⟩ := h
              show GG _ _ _ _ _ _ _ _ [.int z98] _ _ _
              refine g_istore 103 (gd rfl) rfl (Nat.le_of_ble_eq_true rfl) ?_
              refine g_aload_n 104 (gd rfl) rfl rfl ?_
              refine g_getA (q2 := 140) 107 (gd rfl) rfl rfl rfl rfl ?_
              refine g_iload_n 108 (gd rfl) rfl rfl ?_
              refine g_dup2 109 (gd rfl) rfl rfl rfl ?_
              refine g_iaload 110 (gd rfl) rfl (n := 33) rfl (in_ix i92 rfl) (fun z109 e109 => ?_)
              have q109 : z67 = z109 := (e67).trans e109.symm
              subst q109
              refine g_iconst 1 111 (gd rfl) rfl rfl ?_
              refine g_iload 113 (gd rfl) rfl rfl ?_
              refine g_ishl 114 (gd rfl) rfl (fun z113 e113 => ?_)
              refine g_iconst (-1) 115 (gd rfl) rfl rfl ?_
              refine g_ixor 116 (gd rfl) rfl (fun z115 e115 => ?_)
              refine g_iand 117 (gd rfl) rfl (fun z116 e116 => ?_)
              refine g_iastore 118 (gd rfl) rfl (n := 33) rfl (in_ix i92 rfl) ?_
              have hI117 := inv_sI (q := 140) (j := y44_3.toNatClampNeg) hIc44 rfl (in_w (-2147483648) 2147483647 (i_rng z116) rfl)
              refine g_aload_n 119 (gd rfl) rfl rfl ?_
              refine g_getA (q2 := 140) 122 (gd rfl) rfl rfl rfl rfl ?_
              refine g_iload_n 123 (gd rfl) rfl rfl ?_
              refine g_iconst 1 124 (gd rfl) rfl rfl ?_
              refine g_iadd 125 (gd rfl) rfl (fun z124 e124 => ?_)
              have i124 := in_add 1 32 e124 i92 (in_c 1 rfl) rfl rfl
              refine g_aload_n 126 (gd rfl) rfl rfl ?_
              refine g_getA (q2 := 140) 129 (gd rfl) rfl rfl rfl rfl ?_
              refine g_iload_n 130 (gd rfl) rfl rfl ?_
              refine g_iaload 131 (gd rfl) rfl (n := 33) rfl (in_ix i92 rfl) (fun z130 e130 => ?_)
              have q130 : z116 = z130 := (sI_get).trans e130.symm
              subst q130
              refine g_aload_n 132 (gd rfl) rfl rfl ?_
              refine g_getA (q2 := 138) 135 (gd rfl) rfl rfl rfl rfl ?_
              refine g_iload 137 (gd rfl) rfl rfl ?_
              refine g_iaload 138 (gd rfl) rfl (n := 32) rfl (in_ix i98 rfl) (fun z137 e137 => ?_)
              refine g_iand 139 (gd rfl) rfl (fun z138 e138 => ?_)
              refine g_iastore 140 (gd rfl) rfl (n := 33) rfl (in_ix i124 rfl) ?_
              have hI139 := inv_sI (q := 140) (j := z124.toNatClampNeg) hI117 rfl (in_w (-2147483648) 2147483647 (i_rng z138) rfl)
              refine g_aload_n 141 (gd rfl) rfl rfl ?_
              refine g_getA (q2 := 139) 144 (gd rfl) rfl rfl rfl rfl ?_
              refine g_iload_n 145 (gd rfl) rfl rfl ?_
              refine g_iconst 1 146 (gd rfl) rfl rfl ?_
              refine g_iadd 147 (gd rfl) rfl (fun z146 e146 => ?_)
              have i146 := in_add 1 32 e146 i92 (in_c 1 rfl) rfl rfl
              refine g_aload_n 148 (gd rfl) rfl rfl ?_
              refine g_getA (q2 := 139) 151 (gd rfl) rfl rfl rfl rfl ?_
              refine g_iload_n 152 (gd rfl) rfl rfl ?_
              refine g_iaload 153 (gd rfl) rfl (n := 33) rfl (in_ix i92 rfl) (fun z152 e152 => ?_)
              have q152 : z60 = z152 := (sI_ne rfl (sI_ne rfl (e60))).trans e152.symm
              subst q152
              refine g_iconst 1 154 (gd rfl) rfl rfl ?_
              refine g_iload 156 (gd rfl) rfl rfl ?_
              refine g_ishl 157 (gd rfl) rfl (fun z156 e156 => ?_)
              refine g_ior 158 (gd rfl) rfl (fun z157 e157 => ?_)
              refine g_iastore 159 (gd rfl) rfl (n := 33) rfl (in_ix i146 rfl) ?_
              have hI158 := inv_sI (q := 139) (j := z146.toNatClampNeg) hI139 rfl (in_w (-2147483648) 2147483647 (i_rng z157) rfl)
              refine g_iinc 162 (gd rfl) rfl rfl (Nat.le_of_ble_eq_true rfl) (fun z159 e159 => ?_)
              have i159 := in_add 1 32 e159 i92 (in_c 1 rfl) rfl rfl
              refine g_goto 44 (gd rfl) rfl ?_
              have n44 : ∀ d : Nat, (d : Int) ≤ (z159).toInt → cb ((sI (sI (sI sc44 140 y44_3.toNatClampNeg z116) 140 z124.toNatClampNeg z138) 139 z146.toNatClampNeg z157).1 140 d) + d ≤ 32 := by first | exact fun d hd => g44_0 d (by exact (have a0 := in_u ro_109_20; have a1 := in_u i92; have a2 := in_u i50; have a3 := in_u i98; have a4 := in_u i159; have a5 := t_add e159 i92 (in_c 1 rfl) rfl; have a6 := in_u ((in_c 1 rfl)); have a7 := in_u i146; have a8 := t_add e146 i92 (in_c 1 rfl) rfl; have a9 := in_u i124; have a10 := t_add e124 i92 (in_c 1 rfl) rfl; have a11 := in_u i83; have a12 := t_add e81 i50a i78 rfl; have a13 := in_u i78; have oc := oc_337_109; by omega)) | (have hS : ((sI (sI (sI sc44 140 y44_3.toNatClampNeg z116) 140 z124.toNatClampNeg z138) 139 z146.toNatClampNeg z157)).1 140 = upd (upd (sc44.1 140) y44_3.toNatClampNeg z116) z124.toNatClampNeg z138 := (by simp [sI]); rw [hS]; exact (fc_push (w := z159) i92 g44_0 e67 (t_add e124 i92 (in_c 1 rfl) rfl) (t_add e159 i92 (in_c 1 rfl) rfl) (cb_clr e113 e115 e116 i98 hb98) (cb_and_le e138)).1) | (intro d hd; have h0 : (Int32.ofInt 0).toInt = 0 := rfl; have hc := cb_le ((sI (sI (sI sc44 140 y44_3.toNatClampNeg z116) 140 z124.toNatClampNeg z138) 139 z146.toNatClampNeg z157).1 140 d); omega)
              have n44a : BSD (sI (sI (sI sc44 140 y44_3.toNatClampNeg z116) 140 z124.toNatClampNeg z138) 139 z146.toNatClampNeg z157) := by first | exact g44_1 | (unfold BSD; simp only [sI_p (show Nat.beq 138 139 = false from rfl), sI_p (show Nat.beq 138 140 = false from rfl)]; exact g44_1)
              have n44b : RCQ2 (((sI (sI (sI sc44 140 y44_3.toNatClampNeg z116) 140 z124.toNatClampNeg z138) 139 z146.toNatClampNeg z157)).1 138) (s.2.2.1 109 20).toInt (((sI (sI (sI sc44 140 y44_3.toNatClampNeg z116) 140 z124.toNatClampNeg z138) 139 z146.toNatClampNeg z157)).1 140) (((sI (sI (sI sc44 140 y44_3.toNatClampNeg z116) 140 z124.toNatClampNeg z138) 139 z146.toNatClampNeg z157)).1 139) (z159).toInt (z60) (y44_3).toInt := by simp only [sI_p (show Nat.beq 138 139 = false from rfl), sI_p (show Nat.beq 138 140 = false from rfl), sI_p (show Nat.beq 140 139 = false from rfl), sI_p (show Nat.beq 139 140 = false from rfl), sI_q]; exact rcq_w (rcq_h g44_2 ((clx (show 0 ≤ (y44_3).toInt from (by exact (have a0 := in_u ro_109_20; have a1 := in_u i92; have a2 := in_u i50; have a3 := in_u i98; have a4 := in_u i159; have a5 := t_add e159 i92 (in_c 1 rfl) rfl; have a6 := in_u ((in_c 1 rfl)); have a7 := in_u i146; have a8 := t_add e146 i92 (in_c 1 rfl) rfl; have a9 := in_u i124; have a10 := t_add e124 i92 (in_c 1 rfl) rfl; have a11 := in_u i83; have a12 := t_add e81 i50a i78 rfl; have a13 := in_u i78; have oc := oc_337_109; by omega)))).symm) (by exact (have a0 := in_u ro_109_20; have a1 := in_u i92; have a2 := in_u i50; have a3 := in_u i98; have a4 := in_u i159; have a5 := t_add e159 i92 (in_c 1 rfl) rfl; have a6 := in_u ((in_c 1 rfl)); have a7 := in_u i146; have a8 := t_add e146 i92 (in_c 1 rfl) rfl; have a9 := in_u i124; have a10 := t_add e124 i92 (in_c 1 rfl) rfl; have a11 := in_u i83; have a12 := t_add e81 i50a i78 rfl; have a13 := in_u i78; have oc := oc_337_109; by omega)) e60) (bfr_sy hI g44_3) i92 (t_add e124 i92 (in_c 1 rfl) rfl) (t_add e146 i92 (in_c 1 rfl) rfl) (t_add e159 i92 (in_c 1 rfl) rfl) e67 hb98 hl98 i98 e113 e115 e116 (show z137 = sc44.1 138 _ from (by rw [e137, sI_p (show Nat.beq 138 140 = false from rfl)])) e138 e60 e156 e157
              have n44c : BFR (gvZ s) (s.2.2.1 109 20).toInt (((sI (sI (sI sc44 140 y44_3.toNatClampNeg z116) 140 z124.toNatClampNeg z138) 139 z146.toNatClampNeg z157)).1 138) := by simp only [sI_p (show Nat.beq 138 139 = false from rfl), sI_p (show Nat.beq 138 140 = false from rfl)]; exact g44_3
              have m44 : sW ((sI (sI (sI sc44 140 y44_3.toNatClampNeg z116) 140 z124.toNatClampNeg z138) 139 z146.toNatClampNeg z157).1 140) ((z159).toInt + 1).toNat < k44 := by first | (have hS : ((sI (sI (sI sc44 140 y44_3.toNatClampNeg z116) 140 z124.toNatClampNeg z138) 139 z146.toNatClampNeg z157)).1 140 = upd (upd (sc44.1 140) y44_3.toNatClampNeg z116) z124.toNatClampNeg z138 := (by simp [sI]); rw [hS]; have h := (fc_push (w := z159) i92 g44_0 e67 (t_add e124 i92 (in_c 1 rfl) rfl) (t_add e159 i92 (in_c 1 rfl) rfl) (cb_clr e113 e115 e116 i98 hb98) (cb_and_le e138)).2; omega) | (have hp := sW_pop ((sI (sI (sI sc44 140 y44_3.toNatClampNeg z116) 140 z124.toNatClampNeg z138) 139 z146.toNatClampNeg z157).1 140) ((z159).toInt + 1).toNat; have he : (y44_3.toInt + 1).toNat = ((z159).toInt + 1).toNat + 1 := (by exact (have a0 := in_u ro_109_20; have a1 := in_u i92; have a2 := in_u i50; have a3 := in_u i98; have a4 := in_u i159; have a5 := t_add e159 i92 (in_c 1 rfl) rfl; have a6 := in_u ((in_c 1 rfl)); have a7 := in_u i146; have a8 := t_add e146 i92 (in_c 1 rfl) rfl; have a9 := in_u i124; have a10 := t_add e124 i92 (in_c 1 rfl) rfl; have a11 := in_u i83; have a12 := t_add e81 i50a i78 rfl; have a13 := in_u i78; have oc := oc_337_109; by omega)); have hm := mm44; rw [he] at hm; omega)
              exact gg_w (by first | exact Nat.le_add_right _ _ | exact gw2 | exact gw3 | exact gwe rfl | exact gwf rfl | exact gwg rfl | exact gwh rfl | omega) (gg_f (gf_cons rfl (gf_cons rfl (gf_cons rfl (gf_cons rfl gf_nil)))) (ih44  (sI (sI (sI sc44 140 y44_3.toNatClampNeg z116) 140 z124.toNatClampNeg z138) 139 z146.toNatClampNeg z157) z60 y44_3 z159 hI158 (fr_sI rfl (fr_sI rfl (fr_sI rfl hFc44))) (in_w 0 32 i92 rfl) (in_w (-1) 32 i159 rfl) n44 n44a n44b n44c m44))
            · skip
              have i83 := r_le1 1 32 c83 i81 i50a rfl
              refine g_iinc 89 (gd rfl) rfl rfl (Nat.le_of_ble_eq_true rfl) (fun z86 e86 => ?_)
              have i86 := in_add 0 31 e86 i50a (in_c (-1) rfl) rfl rfl
              refine g_goto 44 (gd rfl) rfl ?_
              have n44 : ∀ d : Nat, (d : Int) ≤ (z86).toInt → cb (sc44.1 140 d) + d ≤ 32 := by first | exact fun d hd => g44_0 d (by exact (have a0 := in_u ro_109_20; have a1 := in_u i50a; have a2 := in_u i50; have a3 := in_u i86; have a4 := t_add e86 i50a (in_c (-1) rfl) rfl; have a5 := in_u ((in_c (-1) rfl)); have a6 := in_u i83; have a7 := t_add e81 i50a i78 rfl; have a8 := in_u i78; have oc := oc_337_109; by omega)) | (have hS : (sc44).1 140 = upd (upd (sc44.1 140) y44_3.toNatClampNeg z116) z124.toNatClampNeg z138 := (by simp [sI]); rw [hS]; exact (fc_push (w := z159) i92 g44_0 e67 (t_add e124 i92 (in_c 1 rfl) rfl) (t_add e159 i92 (in_c 1 rfl) rfl) (cb_clr e113 e115 e116 i98 hb98) (cb_and_le e138)).1) | (intro d hd; have h0 : (Int32.ofInt 0).toInt = 0 := rfl; have hc := cb_le (sc44.1 140 d); omega)
              have n44a : BSD sc44 := by first | exact g44_1 | (unfold BSD; simp only [sI_p (show Nat.beq 138 139 = false from rfl), sI_p (show Nat.beq 138 140 = false from rfl)]; exact g44_1)
              have n44b : RCQ2 ((sc44).1 138) (s.2.2.1 109 20).toInt ((sc44).1 140) ((sc44).1 139) (z86).toInt (z60) (y44_3).toInt := by exact rcq_pop (D := (y44_3).toNatClampNeg) (rcq_h g44_2 ((clx (show 0 ≤ (y44_3).toInt from (by exact (have a0 := in_u ro_109_20; have a1 := in_u i50a; have a2 := in_u i50; have a3 := in_u i86; have a4 := t_add e86 i50a (in_c (-1) rfl) rfl; have a5 := in_u ((in_c (-1) rfl)); have a6 := in_u i83; have a7 := t_add e81 i50a i78 rfl; have a8 := in_u i78; have oc := oc_337_109; by omega)))).symm) (by exact (have a0 := in_u ro_109_20; have a1 := in_u i50a; have a2 := in_u i50; have a3 := in_u i86; have a4 := t_add e86 i50a (in_c (-1) rfl) rfl; have a5 := in_u ((in_c (-1) rfl)); have a6 := in_u i83; have a7 := t_add e81 i50a i78 rfl; have a8 := in_u i78; have oc := oc_337_109; by omega)) e60) ((clx (show 0 ≤ (y44_3).toInt from (by exact (have a0 := in_u ro_109_20; have a1 := in_u i50a; have a2 := in_u i50; have a3 := in_u i86; have a4 := t_add e86 i50a (in_c (-1) rfl) rfl; have a5 := in_u ((in_c (-1) rfl)); have a6 := in_u i83; have a7 := t_add e81 i50a i78 rfl; have a8 := in_u i78; have oc := oc_337_109; by omega)))).symm) (by exact (have a0 := in_u ro_109_20; have a1 := in_u i50a; have a2 := in_u i50; have a3 := in_u i86; have a4 := t_add e86 i50a (in_c (-1) rfl) rfl; have a5 := in_u ((in_c (-1) rfl)); have a6 := in_u i83; have a7 := t_add e81 i50a i78 rfl; have a8 := in_u i78; have oc := oc_337_109; by omega)) (by exact (have a0 := in_u ro_109_20; have a1 := in_u i50a; have a2 := in_u i50; have a3 := in_u i86; have a4 := t_add e86 i50a (in_c (-1) rfl) rfl; have a5 := in_u ((in_c (-1) rfl)); have a6 := in_u i83; have a7 := t_add e81 i50a i78 rfl; have a8 := in_u i78; have oc := oc_337_109; by omega)) (Or.inr (by rw [← e67]; exact (have a0 := in_u ro_109_20; have a1 := in_u i50a; have a2 := in_u i50; have a3 := in_u i86; have a4 := t_add e86 i50a (in_c (-1) rfl) rfl; have a5 := in_u ((in_c (-1) rfl)); have a6 := in_u i83; have a7 := t_add e81 i50a i78 rfl; have a8 := in_u i78; have oc := oc_337_109; by omega)))
              have n44c : BFR (gvZ s) (s.2.2.1 109 20).toInt ((sc44).1 138) := by exact g44_3
              have m44 : sW (sc44.1 140) ((z86).toInt + 1).toNat < k44 := by first | (have hS : (sc44).1 140 = upd (upd (sc44.1 140) y44_3.toNatClampNeg z116) z124.toNatClampNeg z138 := (by simp [sI]); rw [hS]; have h := (fc_push (w := z159) i92 g44_0 e67 (t_add e124 i92 (in_c 1 rfl) rfl) (t_add e159 i92 (in_c 1 rfl) rfl) (cb_clr e113 e115 e116 i98 hb98) (cb_and_le e138)).2; omega) | (have hp := sW_pop (sc44.1 140) ((z86).toInt + 1).toNat; have he : (y44_3.toInt + 1).toNat = ((z86).toInt + 1).toNat + 1 := (by exact (have a0 := in_u ro_109_20; have a1 := in_u i50a; have a2 := in_u i50; have a3 := in_u i86; have a4 := t_add e86 i50a (in_c (-1) rfl) rfl; have a5 := in_u ((in_c (-1) rfl)); have a6 := in_u i83; have a7 := t_add e81 i50a i78 rfl; have a8 := in_u i78; have oc := oc_337_109; by omega)); have hm := mm44; rw [he] at hm; omega)
              exact gg_w (by first | exact Nat.le_add_right _ _ | exact gw2 | exact gw3 | exact gwe rfl | exact gwf rfl | exact gwg rfl | exact gwh rfl | omega) (gg_f (gf_cons rfl (gf_cons rfl (gf_cons rfl (gf_cons rfl gf_nil)))) (ih44  sc44 z60 y44_3 z86 hIc44 hFc44 (in_w 0 32 i50a rfl) (in_w (-1) 32 i86 rfl) n44 n44a n44b n44c m44))
  refine g_enter2 (k := 337) (N := 989560464999301) (by first | exact dq1 hd rfl | exact dq0 hd rfl | exact dq2 hd rfl | exact dq3 hd rfl | omega) rfl (Nat.le_of_ble_eq_true rfl) ?_
  refine g_aload_n 1 (gd rfl) rfl rfl ?_
  refine g_callv (X := _) (As := []) (r := []) (b := A 109) (q := 109) 4 (gd rfl) rfl rfl rfl rfl rfl (ww_o rfl) (Nat.le_of_ble_eq_true rfl) (Nat.zero_le _) (Nat.zero_le _) (f_335 (by first | exact dq1 hd rfl | exact dq0 hd rfl | exact dq2 hd rfl | exact dq3 hd rfl | omega) hI ) (fun e u h => h) (fun v u h => ?_)
  obtain ⟨s1, hI1, hF1, rfl, rfl, p1, p1a⟩ := h
  show GG _ _ _ _ _ _ _ _ [] _ _ _
  refine g_iconst 0 5 (gd rfl) rfl rfl ?_
  refine g_istore_n 6 (gd rfl) rfl (Nat.le_of_ble_eq_true rfl) ?_
  refine g_iconst 0 7 (gd rfl) rfl rfl ?_
  refine g_istore_n 8 (gd rfl) rfl (Nat.le_of_ble_eq_true rfl) ?_
  refine g_iconst 0 9 (gd rfl) rfl rfl ?_
  refine g_istore_n 10 (gd rfl) rfl (Nat.le_of_ble_eq_true rfl) ?_
  refine g_aload_n 11 (gd rfl) rfl rfl ?_
  refine g_getA (q2 := 140) 14 (gd rfl) rfl rfl rfl rfl ?_
  refine g_iconst 0 15 (gd rfl) rfl rfl ?_
  refine g_aload_n 16 (gd rfl) rfl rfl ?_
  refine g_getI 19 (gd rfl) rfl rfl rfl (fun z16 e16 => ?_)
  have q16 : u_109_20 = z16 := (fr_F (e_109_20) hF1 rfl).trans e16.symm
  subst q16
  refine g_bipush 32 21 (gd rfl) rfl rfl ?_
  refine g_cmp_ne 24 28 (gd rfl) rfl rfl (fun c21 => ?_) (fun c21 => ?_)
  · skip
    have i21 := r_ne1 0 31 c21 ro_109_20 (in_c 32 rfl) rfl
    refine g_iconst 1 29 (gd rfl) rfl rfl ?_
    refine g_aload_n 30 (gd rfl) rfl rfl ?_
    refine g_getI 33 (gd rfl) rfl rfl rfl (fun z30 e30 => ?_)
    have q30 : u_109_20 = z30 := (fr_F (e_109_20) hF1 rfl).trans e30.symm
    subst q30
    refine g_ishl 34 (gd rfl) rfl (fun z33 e33 => ?_)
    refine g_iconst 1 35 (gd rfl) rfl rfl ?_
    refine g_isub 36 (gd rfl) rfl (fun z35 e35 => ?_)
    refine g_iastore 37 (gd rfl) rfl (n := 33) rfl (in_ix (in_c 0 rfl) rfl) ?_
    have hI36 := inv_sI (q := 140) (j := (Int32.ofInt 0).toNatClampNeg) hI1 rfl (in_w (-2147483648) 2147483647 (i_rng z35) rfl)
    refine g_aload_n 38 (gd rfl) rfl rfl ?_
    refine g_getA (q2 := 139) 41 (gd rfl) rfl rfl rfl rfl ?_
    refine g_iconst 0 42 (gd rfl) rfl rfl ?_
    refine g_iconst 0 43 (gd rfl) rfl rfl ?_
    refine g_iastore 44 (gd rfl) rfl (n := 33) rfl (in_ix (in_c 0 rfl) rfl) ?_
    have hI43 := inv_sI (q := 139) (j := (Int32.ofInt 0).toNatClampNeg) hI36 rfl (in_w (-2147483648) 2147483647 (in_c 0 rfl) rfl)
    have n44 : ∀ d : Nat, (d : Int) ≤ ((Int32.ofInt 0)).toInt → cb ((sI (sI s1 140 (Int32.ofInt 0).toNatClampNeg z35) 139 (Int32.ofInt 0).toNatClampNeg (Int32.ofInt 0)).1 140 d) + d ≤ 32 := by first | exact fun d hd => g44_0 d (by exact (have a0 := in_u i21; have a1 := in_u ((in_c 0 rfl)); have oc := oc_337_109; by omega)) | (have hS : ((sI (sI s1 140 (Int32.ofInt 0).toNatClampNeg z35) 139 (Int32.ofInt 0).toNatClampNeg (Int32.ofInt 0))).1 140 = upd (upd (sc44.1 140) y44_3.toNatClampNeg z116) z124.toNatClampNeg z138 := (by simp [sI]); rw [hS]; exact (fc_push (w := z159) i92 g44_0 e67 (t_add e124 i92 (in_c 1 rfl) rfl) (t_add e159 i92 (in_c 1 rfl) rfl) (cb_clr e113 e115 e116 i98 hb98) (cb_and_le e138)).1) | (intro d hd; have h0 : (Int32.ofInt 0).toInt = 0 := rfl; have hc := cb_le ((sI (sI s1 140 (Int32.ofInt 0).toNatClampNeg z35) 139 (Int32.ofInt 0).toNatClampNeg (Int32.ofInt 0)).1 140 d); omega)
    have n44a : BSD (sI (sI s1 140 (Int32.ofInt 0).toNatClampNeg z35) 139 (Int32.ofInt 0).toNatClampNeg (Int32.ofInt 0)) := by first | exact p1 | (unfold BSD; simp only [sI_p (show Nat.beq 138 139 = false from rfl), sI_p (show Nat.beq 138 140 = false from rfl)]; exact p1)
    have n44b : RCQ2 (((sI (sI s1 140 (Int32.ofInt 0).toNatClampNeg z35) 139 (Int32.ofInt 0).toNatClampNeg (Int32.ofInt 0))).1 138) (s.2.2.1 109 20).toInt (((sI (sI s1 140 (Int32.ofInt 0).toNatClampNeg z35) 139 (Int32.ofInt 0).toNatClampNeg (Int32.ofInt 0))).1 140) (((sI (sI s1 140 (Int32.ofInt 0).toNatClampNeg z35) 139 (Int32.ofInt 0).toNatClampNeg (Int32.ofInt 0))).1 139) ((Int32.ofInt 0)).toInt ((Int32.ofInt 0)) ((Int32.ofInt 0)).toInt := by exact rcq_0 rfl (fun k => by rw [show (((sI (sI s1 140 (Int32.ofInt 0).toNatClampNeg z35) 139 (Int32.ofInt 0).toNatClampNeg (Int32.ofInt 0))).1 140 0) = z35 from (by rw [sI_p (show Nat.beq 140 139 = false from rfl), sI_q]; exact up_e), ← e_109_20]; exact all_a e33 e35 i21 k) (show (((sI (sI s1 140 (Int32.ofInt 0).toNatClampNeg z35) 139 (Int32.ofInt 0).toNatClampNeg (Int32.ofInt 0))).1 139 0) = Int32.ofInt 0 from (by rw [sI_q]; exact up_e))
    have n44c : BFR (gvZ s) (s.2.2.1 109 20).toInt (((sI (sI s1 140 (Int32.ofInt 0).toNatClampNeg z35) 139 (Int32.ofInt 0).toNatClampNeg (Int32.ofInt 0))).1 138) := by rw [sI_p (show Nat.beq 138 139 = false from rfl), sI_p (show Nat.beq 138 140 = false from rfl)]; exact p1a
    have m44 : sW ((sI (sI s1 140 (Int32.ofInt 0).toNatClampNeg z35) 139 (Int32.ofInt 0).toNatClampNeg (Int32.ofInt 0)).1 140) (((Int32.ofInt 0)).toInt + 1).toNat < 1099511627776 := by exact sW_one _ rfl
    exact gg_w (by first | exact Nat.le_of_ble_eq_true rfl | omega) (gg_f (gf_cons rfl (gf_cons rfl (gf_cons rfl (gf_cons rfl gf_nil)))) (ct44 (1099511627776) (sI (sI s1 140 (Int32.ofInt 0).toNatClampNeg z35) 139 (Int32.ofInt 0).toNatClampNeg (Int32.ofInt 0)) (Int32.ofInt 0) (Int32.ofInt 0) (Int32.ofInt 0) hI43 (fr_sI rfl (fr_sI rfl (fr_tr rfl fr_rf hF1))) (in_w 0 32 (in_c 0 rfl) rfl) (in_w (-1) 32 (in_c 0 rfl) rfl) n44 n44a n44b n44c m44))
  · skip
    have i21 := r_eq1 32 32 c21 ro_109_20 (in_c 32 rfl) rfl
    refine g_iconst (-1) 25 (gd rfl) rfl rfl ?_
    refine g_goto 36 (gd rfl) rfl ?_
    refine g_iastore 37 (gd rfl) rfl (n := 33) rfl (in_ix (in_c 0 rfl) rfl) ?_
    have hI36 := inv_sI (q := 140) (j := (Int32.ofInt 0).toNatClampNeg) hI1 rfl (in_w (-2147483648) 2147483647 (in_c (-1) rfl) rfl)
    refine g_aload_n 38 (gd rfl) rfl rfl ?_
    refine g_getA (q2 := 139) 41 (gd rfl) rfl rfl rfl rfl ?_
    refine g_iconst 0 42 (gd rfl) rfl rfl ?_
    refine g_iconst 0 43 (gd rfl) rfl rfl ?_
    refine g_iastore 44 (gd rfl) rfl (n := 33) rfl (in_ix (in_c 0 rfl) rfl) ?_
    have hI43 := inv_sI (q := 139) (j := (Int32.ofInt 0).toNatClampNeg) hI36 rfl (in_w (-2147483648) 2147483647 (in_c 0 rfl) rfl)
    have n44 : ∀ d : Nat, (d : Int) ≤ ((Int32.ofInt 0)).toInt → cb ((sI (sI s1 140 (Int32.ofInt 0).toNatClampNeg (Int32.ofInt (-1))) 139 (Int32.ofInt 0).toNatClampNeg (Int32.ofInt 0)).1 140 d) + d ≤ 32 := by first | exact fun d hd => g44_0 d (by exact (have a0 := in_u i21; have a1 := in_u ((in_c 0 rfl)); have oc := oc_337_109; by omega)) | (have hS : ((sI (sI s1 140 (Int32.ofInt 0).toNatClampNeg (Int32.ofInt (-1))) 139 (Int32.ofInt 0).toNatClampNeg (Int32.ofInt 0))).1 140 = upd (upd (sc44.1 140) y44_3.toNatClampNeg z116) z124.toNatClampNeg z138 := (by simp [sI]); rw [hS]; exact (fc_push (w := z159) i92 g44_0 e67 (t_add e124 i92 (in_c 1 rfl) rfl) (t_add e159 i92 (in_c 1 rfl) rfl) (cb_clr e113 e115 e116 i98 hb98) (cb_and_le e138)).1) | (intro d hd; have h0 : (Int32.ofInt 0).toInt = 0 := rfl; have hc := cb_le ((sI (sI s1 140 (Int32.ofInt 0).toNatClampNeg (Int32.ofInt (-1))) 139 (Int32.ofInt 0).toNatClampNeg (Int32.ofInt 0)).1 140 d); omega)
    have n44a : BSD (sI (sI s1 140 (Int32.ofInt 0).toNatClampNeg (Int32.ofInt (-1))) 139 (Int32.ofInt 0).toNatClampNeg (Int32.ofInt 0)) := by first | exact p1 | (unfold BSD; simp only [sI_p (show Nat.beq 138 139 = false from rfl), sI_p (show Nat.beq 138 140 = false from rfl)]; exact p1)
    have n44b : RCQ2 (((sI (sI s1 140 (Int32.ofInt 0).toNatClampNeg (Int32.ofInt (-1))) 139 (Int32.ofInt 0).toNatClampNeg (Int32.ofInt 0))).1 138) (s.2.2.1 109 20).toInt (((sI (sI s1 140 (Int32.ofInt 0).toNatClampNeg (Int32.ofInt (-1))) 139 (Int32.ofInt 0).toNatClampNeg (Int32.ofInt 0))).1 140) (((sI (sI s1 140 (Int32.ofInt 0).toNatClampNeg (Int32.ofInt (-1))) 139 (Int32.ofInt 0).toNatClampNeg (Int32.ofInt 0))).1 139) ((Int32.ofInt 0)).toInt ((Int32.ofInt 0)) ((Int32.ofInt 0)).toInt := by exact rcq_0 rfl (fun k => by rw [show (((sI (sI s1 140 (Int32.ofInt 0).toNatClampNeg (Int32.ofInt (-1))) 139 (Int32.ofInt 0).toNatClampNeg (Int32.ofInt 0))).1 140 0) = (Int32.ofInt (-1)) from (by rw [sI_p (show Nat.beq 140 139 = false from rfl), sI_q]; exact up_e), ← e_109_20]; exact all_b (by exact (have a0 := in_u i21; have a1 := in_u ((in_c 0 rfl)); have oc := oc_337_109; by omega)) k) (show (((sI (sI s1 140 (Int32.ofInt 0).toNatClampNeg (Int32.ofInt (-1))) 139 (Int32.ofInt 0).toNatClampNeg (Int32.ofInt 0))).1 139 0) = Int32.ofInt 0 from (by rw [sI_q]; exact up_e))
    have n44c : BFR (gvZ s) (s.2.2.1 109 20).toInt (((sI (sI s1 140 (Int32.ofInt 0).toNatClampNeg (Int32.ofInt (-1))) 139 (Int32.ofInt 0).toNatClampNeg (Int32.ofInt 0))).1 138) := by rw [sI_p (show Nat.beq 138 139 = false from rfl), sI_p (show Nat.beq 138 140 = false from rfl)]; exact p1a
    have m44 : sW ((sI (sI s1 140 (Int32.ofInt 0).toNatClampNeg (Int32.ofInt (-1))) 139 (Int32.ofInt 0).toNatClampNeg (Int32.ofInt 0)).1 140) (((Int32.ofInt 0)).toInt + 1).toNat < 1099511627776 := by exact sW_one _ rfl
    exact gg_w (by first | exact Nat.le_of_ble_eq_true rfl | omega) (gg_f (gf_cons rfl (gf_cons rfl (gf_cons rfl (gf_cons rfl gf_nil)))) (ct44 (1099511627776) (sI (sI s1 140 (Int32.ofInt 0).toNatClampNeg (Int32.ofInt (-1))) 139 (Int32.ofInt 0).toNatClampNeg (Int32.ofInt 0)) (Int32.ofInt 0) (Int32.ofInt 0) (Int32.ofInt 0) hI43 (fr_sI rfl (fr_sI rfl (fr_tr rfl fr_rf hF1))) (in_w 0 32 (in_c 0 rfl) rfl) (in_w (-1) 32 (in_c 0 rfl) rfl) n44 n44a n44b n44c m44))

theorem oc_338_109 : (Int32.ofInt (-1)).toInt = (-1) ∧ (Int32.ofInt 0).toInt = 0 ∧ (Int32.ofInt 1).toInt = 1 := ⟨rfl, rfl, rfl⟩
/-- GraphHouseModel.clique -/
theorem f_338 {Z : AmZ} {A : Nat → Nat} {s : GS} {ex : va_W} {d : Nat} {X : AmX} {x1 : Int32} (hd : 5 ≤ d) (hI : Inv s)  : GC Z d 338 [.ref (A 109), .int x1] (WW Z A s ++ ex) 0 0 (fun v u => ∃ t : GS, Inv t ∧ Fr fm_338 s t ∧ ∃ z : Int32, v = some (.int z) ∧ u = WW Z A t ++ ex ∧ In z (-1) 31 ∧ (CQR s t x1 z)) X := by
  intro post xp hP hX
  obtain ⟨u_109_20, e_109_20⟩ : ∃ w, w = s.2.2.1 109 20 := ⟨_, rfl⟩
  have ro_109_20 := inv_F hI 0 32 rfl e_109_20
  have ct28 : ∀ (k28 : Nat) (sc28 : GS) (y28_2 : Int32) (y28_3 : Int32) (y28_4 : Int32), Inv sc28 → Fr fm_338 s sc28 → (In x1 0 2147483647) → (In y28_3 0 32) → (In y28_4 0 32) → ((y28_3).toInt ≤ (y28_4).toInt + 0) → ((y28_3).toInt ≤ (x1).toInt) → ((y28_3).toInt = (cbf (bt (y28_2)) (y28_4).toNatClampNeg : Int)) → (CLG (gvZ s) (y28_2)) → (((sc28).2.2.1 109 0).toInt = 0) → 32 - (y28_4).toInt < (k28 : Int) → GG Z (d - 1) 338 post (gx xp) (1 + k28 * 900) 28 (fun j => xlook j [(0, .ref (A 109)), (1, .int x1), (2, .int y28_2), (3, .int y28_3), (4, .int y28_4)]) [] (WW Z A sc28 ++ ex) 0 0 := by
    intro k28
    induction k28 with
    | zero => intro sc28 y28_2 y28_3 y28_4 hIc28 hFc28 j28_1 j28_3 j28_4 l28_3 n28_0 g28_0 g28_1 g28_2 mm28; exact m_no mm28 j28_4 rfl
    | succ k28 ih28 =>
      intro sc28 y28_2 y28_3 y28_4 hIc28 hFc28 j28_1 j28_3 j28_4 l28_3 n28_0 g28_0 g28_1 g28_2 mm28
      refine gg_w (M := 1 + k28 * 900 + 900) gws ?_
      refine g_iload 30 (gd rfl) rfl rfl ?_
      refine g_aload_n 31 (gd rfl) rfl rfl ?_
      refine g_getI 34 (gd rfl) rfl rfl rfl (fun z31 e31 => ?_)
      have q31 : u_109_20 = z31 := (fr_F e_109_20 hFc28 rfl).trans e31.symm
      subst q31
      refine g_cmp_ge 37 63 (gd rfl) rfl rfl (fun c34 => ?_) (fun c34 => ?_)
      · skip
        refine g_iconst (-1) 64 (gd rfl) rfl rfl ?_
        have n64 : CQR s sc28 x1 (Int32.ofInt (-1)) := by exact Or.inr ⟨g28_2, by exact (have a0 := in_u ro_109_20; have a1 := in_u j28_4; have a2 := in_u j28_3; have a3 := in_u j28_1; have oc := oc_338_109; by omega), cls_c g28_1 (kth_n g28_1 g28_0 (by rw [gvz_n hI, ← e_109_20]; exact (have a0 := in_u ro_109_20; have a1 := in_u j28_4; have a2 := in_u j28_3; have a3 := in_u j28_1; have oc := oc_338_109; by omega)) (by exact (have a0 := in_u ro_109_20; have a1 := in_u j28_4; have a2 := in_u j28_3; have a3 := in_u j28_1; have oc := oc_338_109; by omega)) (by exact (have a0 := in_u ro_109_20; have a1 := in_u j28_4; have a2 := in_u j28_3; have a3 := in_u j28_1; have oc := oc_338_109; by omega)))⟩
        exact g_ireturn (gd rfl) rfl rfl (hP _ _ ⟨sc28, hIc28, hFc28, (Int32.ofInt (-1)), rfl, rfl, in_w (-1) 31 (in_c (-1) rfl) rfl, n64⟩)
      · skip
        have i34 := r_lt1 0 31 c34 j28_4 ro_109_20 rfl
        have i34a := r_lt2 1 32 c34 j28_4 ro_109_20 rfl
        refine g_iload_n 38 (gd rfl) rfl rfl ?_
        refine g_iload 40 (gd rfl) rfl rfl ?_
        refine g_calls (As := [.int y28_2, .int y28_4]) (r := []) 43 (gd rfl) rfl rfl rfl rfl rfl (Nat.le_of_ble_eq_true rfl) (mc := 0) (ms := 0) (Nat.zero_le _) (Nat.zero_le _) (P := fun v u => _) ?_ (fun v u h => h)
        intro po40 xx40 hp40 hx40
        refine g_enter2 (k := 311) (N := 300) (by first | exact dq1 hd rfl | exact dq0 hd rfl | exact dq2 hd rfl | exact dq3 hd rfl | omega) rfl (Nat.le_of_ble_eq_true rfl) ?_
        refine g_iload_n 1 (gd rfl) rfl rfl ?_
        refine g_iload_n 2 (gd rfl) rfl rfl ?_
        refine g_ishr 3 (gd rfl) rfl (fun z40x2 e40x2 => ?_)
        refine g_iconst 1 4 (gd rfl) rfl rfl ?_
        refine g_iand 5 (gd rfl) rfl (fun z40x4 e40x4 => ?_)
        have i40x4 := in_and2 e40x4 (in_c 1 rfl) rfl
        refine g_iconst 1 6 (gd rfl) rfl rfl ?_
        refine g_cmp_ne 9 13 (gd rfl) rfl rfl (fun c40x6 => ?_) (fun c40x6 => ?_)
        · skip
          have i40x6 := r_ne1 0 0 c40x6 i40x4 (in_c 1 rfl) rfl
          refine g_iconst 0 14 (gd rfl) rfl rfl ?_
          refine g_ireturn (gd rfl) rfl (nb01 (in_w 0 1 (in_c 0 rfl) rfl)) (hp40 _ _ ?_)
          show GG _ _ _ _ _ _ _ _ [.int (Int32.ofInt 0)] _ _ _
          refine g_if_eq 46 57 (gd rfl) rfl rfl (fun c43 => ?_) (fun c43 => ?_)
          · skip
            refine g_iinc 60 (gd rfl) rfl rfl (Nat.le_of_ble_eq_true rfl) (fun z57 e57 => ?_)
            have i57 := in_add 1 32 e57 i34 (in_c 1 rfl) rfl rfl
            refine g_goto 28 (gd rfl) rfl ?_
            have l28 := rl_0 l28_3 (t_add e57 i34 (in_c 1 rfl) rfl) (in_w 0 1 (in_c 1 rfl) rfl)
            have n28 : (y28_3).toInt ≤ (x1).toInt := by first | exact n28_0 | (exact (have a0 := in_u i34a; have a1 := in_u i34; have a2 := in_u j28_3; have a3 := in_u i57; have a4 := t_add e57 i34 (in_c 1 rfl) rfl; have a5 := in_u ((in_c 1 rfl)); have a6 := in_u j28_1; have oc := oc_338_109; by omega))
            have n28a : (y28_3).toInt = (cbf (bt (y28_2)) (z57).toNatClampNeg : Int) := by exact cbn_n g28_0 (bt_no e40x2 e40x4 i34 c40x6) (by exact (have a0 := in_u i34a; have a1 := in_u i34; have a2 := in_u j28_3; have a3 := in_u i57; have a4 := t_add e57 i34 (in_c 1 rfl) rfl; have a5 := in_u ((in_c 1 rfl)); have a6 := in_u j28_1; have oc := oc_338_109; by omega)) (by exact (have a0 := in_u i34a; have a1 := in_u i34; have a2 := in_u j28_3; have a3 := in_u i57; have a4 := t_add e57 i34 (in_c 1 rfl) rfl; have a5 := in_u ((in_c 1 rfl)); have a6 := in_u j28_1; have oc := oc_338_109; by omega))
            have n28b : CLG (gvZ s) (y28_2) := by exact g28_1
            have n28c : ((sc28).2.2.1 109 0).toInt = 0 := by exact g28_2
            exact gg_w (by first | exact Nat.le_add_right _ _ | exact gw2 | exact gw3 | exact gwe rfl | exact gwf rfl | exact gwg rfl | exact gwh rfl | omega) (gg_f (gf_cons rfl (gf_cons rfl (gf_cons rfl (gf_cons rfl (gf_cons rfl gf_nil))))) (ih28 sc28 y28_2 y28_3 z57 hIc28 hFc28 (in_w 0 2147483647 j28_1 rfl) (rl_w 0 32 l28 j28_3 (in_w 0 32 i57 rfl) rfl) (in_w 0 32 i57 rfl) l28 n28 n28a n28b n28c (m_up mm28 (t_add e57 i34 (in_c 1 rfl) rfl) (in_w 1 1 (in_c 1 rfl) rfl))))
          · skip
            exact zn_ne c43 (in_c 0 rfl) rfl
        · skip
          have i40x6 := r_eq1 1 1 c40x6 i40x4 (in_c 1 rfl) rfl
          refine g_iconst 1 10 (gd rfl) rfl rfl ?_
          refine g_goto 14 (gd rfl) rfl ?_
          refine g_ireturn (gd rfl) rfl (nb01 (in_w 0 1 (in_c 1 rfl) rfl)) (hp40 _ _ ?_)
          show GG _ _ _ _ _ _ _ _ [.int (Int32.ofInt 1)] _ _ _
          refine g_if_eq 46 57 (gd rfl) rfl rfl (fun c43 => ?_) (fun c43 => ?_)
          · skip
            exact zn_eq c43 (in_c 1 rfl) rfl
          · skip
            refine g_iload_n 47 (gd rfl) rfl rfl ?_
            refine g_iload_n 48 (gd rfl) rfl rfl ?_
            refine g_cmp_ne 51 54 (gd rfl) rfl rfl (fun c48 => ?_) (fun c48 => ?_)
            · skip
              refine g_iinc 57 (gd rfl) rfl rfl (Nat.le_of_ble_eq_true rfl) (fun z54 e54 => ?_)
              have i54 := in_add 1 33 e54 j28_3 (in_c 1 rfl) rfl rfl
              refine g_iinc 60 (gd rfl) rfl rfl (Nat.le_of_ble_eq_true rfl) (fun z57 e57 => ?_)
              have i57 := in_add 1 32 e57 i34 (in_c 1 rfl) rfl rfl
              refine g_goto 28 (gd rfl) rfl ?_
              have l28 := rl_1 l28_3 (t_add e54 j28_3 (in_c 1 rfl) rfl) (in_c 1 rfl) (t_add e57 i34 (in_c 1 rfl) rfl) (in_c 1 rfl) rfl
              have n28 : (z54).toInt ≤ (x1).toInt := by exact (have a0 := in_u i34a; have a1 := in_u i34; have a2 := in_u j28_3; have a3 := in_u i57; have a4 := t_add e57 i34 (in_c 1 rfl) rfl; have a5 := in_u ((in_c 1 rfl)); have a6 := in_u i54; have a7 := t_add e54 j28_3 (in_c 1 rfl) rfl; have a8 := in_u j28_1; have oc := oc_338_109; by omega)
              have n28a : (z54).toInt = (cbf (bt (y28_2)) (z57).toNatClampNeg : Int) := by exact cbn_y g28_0 (bt_yes e40x2 e40x4 i34 c40x6) (by exact (have a0 := in_u i34a; have a1 := in_u i34; have a2 := in_u j28_3; have a3 := in_u i57; have a4 := t_add e57 i34 (in_c 1 rfl) rfl; have a5 := in_u ((in_c 1 rfl)); have a6 := in_u i54; have a7 := t_add e54 j28_3 (in_c 1 rfl) rfl; have a8 := in_u j28_1; have oc := oc_338_109; by omega)) (by exact (have a0 := in_u i34a; have a1 := in_u i34; have a2 := in_u j28_3; have a3 := in_u i57; have a4 := t_add e57 i34 (in_c 1 rfl) rfl; have a5 := in_u ((in_c 1 rfl)); have a6 := in_u i54; have a7 := t_add e54 j28_3 (in_c 1 rfl) rfl; have a8 := in_u j28_1; have oc := oc_338_109; by omega)) (by exact (have a0 := in_u i34a; have a1 := in_u i34; have a2 := in_u j28_3; have a3 := in_u i57; have a4 := t_add e57 i34 (in_c 1 rfl) rfl; have a5 := in_u ((in_c 1 rfl)); have a6 := in_u i54; have a7 := t_add e54 j28_3 (in_c 1 rfl) rfl; have a8 := in_u j28_1; have oc := oc_338_109; by omega))
              have n28b : CLG (gvZ s) (y28_2) := by exact g28_1
              have n28c : ((sc28).2.2.1 109 0).toInt = 0 := by exact g28_2
              exact gg_w (by first | exact Nat.le_add_right _ _ | exact gw2 | exact gw3 | exact gwe rfl | exact gwf rfl | exact gwg rfl | exact gwh rfl | omega) (gg_f (gf_cons rfl (gf_cons rfl (gf_cons rfl (gf_cons rfl (gf_cons rfl gf_nil))))) (ih28 sc28 y28_2 z54 z57 hIc28 hFc28 (in_w 0 2147483647 j28_1 rfl) (rl_w 0 32 l28 i54 (in_w 0 32 i57 rfl) rfl) (in_w 0 32 i57 rfl) l28 n28 n28a n28b n28c (m_up mm28 (t_add e57 i34 (in_c 1 rfl) rfl) (in_w 1 1 (in_c 1 rfl) rfl))))
            · skip
              have i48 := r_eq2 0 32 c48 j28_3 j28_1 rfl
              refine g_iload 53 (gd rfl) rfl rfl ?_
              have n53 : CQR s sc28 x1 y28_4 := by exact Or.inr ⟨g28_2, by exact (have a0 := in_u i48; have a1 := in_u i34a; have a2 := in_u i34; have a3 := in_u j28_3; have oc := oc_338_109; by omega), cls_c g28_1 (kth_y g28_0 (bt_yes e40x2 e40x4 i34 c40x6) (by exact (have a0 := in_u i48; have a1 := in_u i34a; have a2 := in_u i34; have a3 := in_u j28_3; have oc := oc_338_109; by omega)) (by exact (have a0 := in_u i48; have a1 := in_u i34a; have a2 := in_u i34; have a3 := in_u j28_3; have oc := oc_338_109; by omega)))⟩
              exact g_ireturn (gd rfl) rfl rfl (hP _ _ ⟨sc28, hIc28, hFc28, y28_4, rfl, rfl, in_w (-1) 31 i34 rfl, n53⟩)
  refine g_enter2 (k := 338) (N := 30601) (by first | exact dq1 hd rfl | exact dq0 hd rfl | exact dq2 hd rfl | exact dq3 hd rfl | omega) rfl (Nat.le_of_ble_eq_true rfl) ?_
  refine g_aload_n 1 (gd rfl) rfl rfl ?_
  refine g_iload_n 2 (gd rfl) rfl rfl ?_
  refine g_if_lt 5 9 (gd rfl) rfl rfl (fun c2 => ?_) (fun c2 => ?_)
  · skip
    have i2 := z_lt (-2147483648) (-1) c2 (i_rng x1) rfl
    refine g_iconst 0 10 (gd rfl) rfl rfl ?_
    refine g_callv (X := _) (As := [.int (Int32.ofInt 0)]) (r := []) (b := A 109) (q := 109) 13 (gd rfl) rfl rfl rfl rfl rfl (ww_o rfl) (Nat.le_of_ble_eq_true rfl) (mc := 0) (ms := 0) (Nat.zero_le _) (Nat.zero_le _) (P := fun v u => _) ?_ (fun e u h => h) (fun v u h => h)
    intro po10 xx10 hp10 hx10
    refine g_enter2 (k := 271) (N := 300) (by first | exact dq1 hd rfl | exact dq0 hd rfl | exact dq2 hd rfl | exact dq3 hd rfl | omega) rfl (Nat.le_of_ble_eq_true rfl) ?_
    refine g_aload_n 1 (gd rfl) rfl rfl ?_
    refine g_iload_n 2 (gd rfl) rfl rfl ?_
    refine g_iconst 1 3 (gd rfl) rfl rfl ?_
    refine g_callv (X := _) (As := [.int (Int32.ofInt 0), .int (Int32.ofInt 1)]) (r := []) (b := A 109) (q := 109) 6 (gd rfl) rfl rfl rfl rfl rfl (ww_o rfl) (Nat.le_of_ble_eq_true rfl) (mc := 0) (ms := 0) (Nat.zero_le _) (Nat.zero_le _) (P := fun v u => _) ?_ (fun e u h => h) (fun v u h => h)
    intro po10x3 xx10x3 hp10x3 hx10x3
    refine g_enter2 (k := 270) (N := 300) (by first | exact dq1 hd rfl | exact dq0 hd rfl | exact dq2 hd rfl | exact dq3 hd rfl | omega) rfl (Nat.le_of_ble_eq_true rfl) ?_
    refine g_aload_n 1 (gd rfl) rfl rfl ?_
    refine g_iload_n 2 (gd rfl) rfl rfl ?_
    refine g_if_ne 5 9 (gd rfl) rfl rfl (fun c10x3x2 => ?_) (fun c10x3x2 => ?_)
    · skip
      exact zn_ne c10x3x2 (in_c 0 rfl) rfl
    · skip
      refine g_iconst 1 6 (gd rfl) rfl rfl ?_
      refine g_goto 18 (gd rfl) rfl ?_
      refine g_putI 21 (gd rfl) rfl rfl rfl rfl ?_
      have hI10x3x18 := inv_sF (q := 109) (j := 0) hI rfl (in_w 0 2 (in_c 1 rfl) rfl)
      refine g_aload_n 22 (gd rfl) rfl rfl ?_
      refine g_getI 25 (gd rfl) rfl rfl rfl (fun z10x3x22 e10x3x22 => ?_)
      have q10x3x22 : (Int32.ofInt 1) = z10x3x22 := (sF_get).trans e10x3x22.symm
      subst q10x3x22
      refine g_if_le 28 32 (gd rfl) rfl rfl (fun c10x3x25 => ?_) (fun c10x3x25 => ?_)
      · skip
        exact zn_le c10x3x25 (in_c 1 rfl) rfl
      · skip
        refine g_iconst 1 29 (gd rfl) rfl rfl ?_
        refine g_goto 33 (gd rfl) rfl ?_
        refine g_ireturn (gd rfl) rfl (nb01 (in_w 0 1 (in_c 1 rfl) rfl)) (hp10x3 _ _ ?_)
        show GG _ _ _ _ _ _ _ _ [.int (Int32.ofInt 1)] _ _ _
        refine g_ireturn (gd rfl) rfl (nb01 (in_w 0 1 (in_c 1 rfl) rfl)) (hp10 _ _ ?_)
        show GG _ _ _ _ _ _ _ _ [.int (Int32.ofInt 1)] _ _ _
        refine g_if_eq 16 18 (gd rfl) rfl rfl (fun c13 => ?_) (fun c13 => ?_)
        · skip
          exact zn_eq c13 (in_c 1 rfl) rfl
        · skip
          refine g_iconst 0 17 (gd rfl) rfl rfl ?_
          have n17 : CQR s (sF s 109 0 (Int32.ofInt 1)) x1 (Int32.ofInt 0) := by exact Or.inl ⟨rfl, by exact (have a0 := in_u ro_109_20; have a1 := in_u i2; have a2 := in_u ((in_c 1 rfl)); have oc := oc_338_109; by omega)⟩
          exact g_ireturn (gd rfl) rfl rfl (hP _ _ ⟨(sF s 109 0 (Int32.ofInt 1)), hI10x3x18, (fr_sF rfl fr_rf), (Int32.ofInt 0), rfl, rfl, in_w (-1) 31 (in_c 0 rfl) rfl, n17⟩)
  · skip
    have i2 := z_ge 0 2147483647 c2 (i_rng x1) rfl
    refine g_iconst 1 6 (gd rfl) rfl rfl ?_
    refine g_goto 10 (gd rfl) rfl ?_
    refine g_callv (X := _) (As := [.int (Int32.ofInt 1)]) (r := []) (b := A 109) (q := 109) 13 (gd rfl) rfl rfl rfl rfl rfl (ww_o rfl) (Nat.le_of_ble_eq_true rfl) (mc := 0) (ms := 0) (Nat.zero_le _) (Nat.zero_le _) (P := fun v u => _) ?_ (fun e u h => h) (fun v u h => h)
    intro po10 xx10 hp10 hx10
    refine g_enter2 (k := 271) (N := 300) (by first | exact dq1 hd rfl | exact dq0 hd rfl | exact dq2 hd rfl | exact dq3 hd rfl | omega) rfl (Nat.le_of_ble_eq_true rfl) ?_
    refine g_aload_n 1 (gd rfl) rfl rfl ?_
    refine g_iload_n 2 (gd rfl) rfl rfl ?_
    refine g_iconst 1 3 (gd rfl) rfl rfl ?_
    refine g_callv (X := _) (As := [.int (Int32.ofInt 1), .int (Int32.ofInt 1)]) (r := []) (b := A 109) (q := 109) 6 (gd rfl) rfl rfl rfl rfl rfl (ww_o rfl) (Nat.le_of_ble_eq_true rfl) (mc := 0) (ms := 0) (Nat.zero_le _) (Nat.zero_le _) (P := fun v u => _) ?_ (fun e u h => h) (fun v u h => h)
    intro po10x3 xx10x3 hp10x3 hx10x3
    refine g_enter2 (k := 270) (N := 300) (by first | exact dq1 hd rfl | exact dq0 hd rfl | exact dq2 hd rfl | exact dq3 hd rfl | omega) rfl (Nat.le_of_ble_eq_true rfl) ?_
    refine g_aload_n 1 (gd rfl) rfl rfl ?_
    refine g_iload_n 2 (gd rfl) rfl rfl ?_
    refine g_if_ne 5 9 (gd rfl) rfl rfl (fun c10x3x2 => ?_) (fun c10x3x2 => ?_)
    · skip
      refine g_iload_n 10 (gd rfl) rfl rfl ?_
      refine g_if_ne 13 17 (gd rfl) rfl rfl (fun c10x3x10 => ?_) (fun c10x3x10 => ?_)
      · skip
        refine g_iconst 0 18 (gd rfl) rfl rfl ?_
        refine g_putI 21 (gd rfl) rfl rfl rfl rfl ?_
        have hI10x3x18 := inv_sF (q := 109) (j := 0) hI rfl (in_w 0 2 (in_c 0 rfl) rfl)
        refine g_aload_n 22 (gd rfl) rfl rfl ?_
        refine g_getI 25 (gd rfl) rfl rfl rfl (fun z10x3x22 e10x3x22 => ?_)
        have q10x3x22 : (Int32.ofInt 0) = z10x3x22 := (sF_get).trans e10x3x22.symm
        subst q10x3x22
        refine g_if_le 28 32 (gd rfl) rfl rfl (fun c10x3x25 => ?_) (fun c10x3x25 => ?_)
        · skip
          refine g_iconst 0 33 (gd rfl) rfl rfl ?_
          refine g_ireturn (gd rfl) rfl (nb01 (in_w 0 1 (in_c 0 rfl) rfl)) (hp10x3 _ _ ?_)
          show GG _ _ _ _ _ _ _ _ [.int (Int32.ofInt 0)] _ _ _
          refine g_ireturn (gd rfl) rfl (nb01 (in_w 0 1 (in_c 0 rfl) rfl)) (hp10 _ _ ?_)
          show GG _ _ _ _ _ _ _ _ [.int (Int32.ofInt 0)] _ _ _
          refine g_if_eq 16 18 (gd rfl) rfl rfl (fun c13 => ?_) (fun c13 => ?_)
          · skip
            refine g_aload_n 19 (gd rfl) rfl rfl ?_
            refine g_callv (X := _) (As := []) (r := []) (b := A 109) (q := 109) 22 (gd rfl) rfl rfl rfl rfl rfl (ww_o rfl) (Nat.le_of_ble_eq_true rfl) (Nat.zero_le _) (Nat.zero_le _) (f_337 (by first | exact dq1 hd rfl | exact dq0 hd rfl | exact dq2 hd rfl | exact dq3 hd rfl | omega) hI10x3x18 ) (fun e u h => h) (fun v u h => ?_)
            obtain ⟨s19, hI19, hF19, z19, rfl, rfl, i19, p19, p19a⟩ := h
            show GG _ _ _ _ _ _ _ _ [.int z19] _ _ _
            refine g_istore_n 23 (gd rfl) rfl (Nat.le_of_ble_eq_true rfl) ?_
            refine g_iconst 0 24 (gd rfl) rfl rfl ?_
            refine g_istore_n 25 (gd rfl) rfl (Nat.le_of_ble_eq_true rfl) ?_
            refine g_iconst 0 26 (gd rfl) rfl rfl ?_
            refine g_istore 28 (gd rfl) rfl (Nat.le_of_ble_eq_true rfl) ?_
            have l28 := rl_in 0 (in_c 0 rfl) (in_c 0 rfl) rfl
            have n28 : ((Int32.ofInt 0)).toInt ≤ (x1).toInt := by exact (have a0 := in_u ro_109_20; have a1 := in_u ((in_c 0 rfl)); have a2 := in_u i2; have oc := oc_338_109; by omega)
            have n28a : ((Int32.ofInt 0)).toInt = (cbf (bt (z19)) ((Int32.ofInt 0)).toNatClampNeg : Int) := by exact cbn_0 rfl rfl
            have n28b : CLG (gvZ s) (z19) := by have h9 := p19a; rw [gvz_cg (show Fr ([], [], [(109, 0)], []) s (sF s 109 0 (Int32.ofInt 0)) from fr_sF rfl fr_rf) rfl] at h9; exact h9
            have n28c : ((s19).2.2.1 109 0).toInt = 0 := by rw [hF19.2.2.1 109 0 rfl]; rfl
            exact gg_w (by first | exact Nat.le_of_ble_eq_true rfl | omega) (gg_f (gf_cons rfl (gf_cons rfl (gf_cons rfl (gf_cons rfl (gf_cons rfl gf_nil))))) (ct28 33 s19 z19 (Int32.ofInt 0) (Int32.ofInt 0) hI19 (fr_tr rfl (fr_sF rfl fr_rf) hF19) (in_w 0 2147483647 i2 rfl) (rl_w 0 32 l28 (in_c 0 rfl) (in_w 0 32 (in_c 0 rfl) rfl) rfl) (in_w 0 32 (in_c 0 rfl) rfl) l28 n28 n28a n28b n28c (m_in 33 (in_w 0 32 (in_c 0 rfl) rfl) rfl)))
          · skip
            exact zn_ne c13 (in_c 0 rfl) rfl
        · skip
          exact zn_gt c10x3x25 (in_c 0 rfl) rfl
      · skip
        exact zn_eq c10x3x10 (in_c 1 rfl) rfl
    · skip
      exact zn_eq c10x3x2 (in_c 1 rfl) rfl

theorem oc_44_60_2 : (Int32.ofInt (-1)).toInt = (-1) ∧ (Int32.ofInt 0).toInt = 0 ∧ (Int32.ofInt 1).toInt = 1 ∧ (Int32.ofInt 32).toInt = 32 := ⟨rfl, rfl, rfl, rfl⟩
/-- GraphHouse$Colours.makeColours -/
theorem f_44_60_2 {Z : AmZ} {A : Nat → Nat} {s : GS} {ex : va_W} {d : Nat} {X : AmX}  (hd : 383 ≤ d) (hI : Inv s) (q_0 : TQ s) (q_1 : CQB (gvC s) s) : GC Z d 44 [.ref (A 60), .ref (A 2)] (WW Z A s ++ ex) 0 0 (fun v u => ∃ t : GS, Inv t ∧ Fr fm_44_60_2 s t ∧ v = none ∧ u = WW Z A t ++ ex ∧ (CQQ (gvC s) t)) X := by
  intro post xp hP hX
  obtain ⟨u_2_0, e_2_0⟩ : ∃ w, w = s.2.2.1 2 0 := ⟨_, rfl⟩
  have ro_2_0 := inv_F hI 0 4000 rfl e_2_0
  obtain ⟨u_2_1, e_2_1⟩ : ∃ w, w = s.2.2.1 2 1 := ⟨_, rfl⟩
  have ro_2_1 := inv_F hI 0 32 rfl e_2_1
  have ct75 : ∀ (k75 : Nat) (sc75 : GS) (y75_2 : Int32) (y75_3 : Int32), Inv sc75 → Fr fm_44_60_2 s sc75 → (In y75_2 0 32) → (In y75_3 0 32) → ((y75_2).toInt ≤ (y75_3).toInt) → (0 ≤ (y75_2).toInt) → (CQQ (gvC s) sc75) → 32 - (y75_3).toInt < (k75 : Int) → GG Z (d - 1) 44 post (gx xp) (1 + k75 * 900) 75 (fun j => xlook j [(0, .ref (A 60)), (1, .ref (A 2)), (2, .int y75_2), (3, .int y75_3)]) [] (WW Z A sc75 ++ ex) 0 0 := by
    intro k75
    induction k75 with
    | zero => intro sc75 y75_2 y75_3 hIc75 hFc75 j75_2 j75_3 n75_0 n75_1 g75_0 mm75; exact m_no mm75 j75_3 rfl
    | succ k75 ih75 =>
      intro sc75 y75_2 y75_3 hIc75 hFc75 j75_2 j75_3 n75_0 n75_1 g75_0 mm75
      refine gg_w (M := 1 + k75 * 900 + 900) gws ?_
      refine g_iload_n 76 (gd rfl) rfl rfl ?_
      refine g_aload_n 77 (gd rfl) rfl rfl ?_
      refine g_getI 80 (gd rfl) rfl rfl rfl (fun z77 e77 => ?_)
      have q77 : u_2_1 = z77 := (fr_F e_2_1 hFc75 rfl).trans e77.symm
      subst q77
      refine g_cmp_ge 83 115 (gd rfl) rfl rfl (fun c80 => ?_) (fun c80 => ?_)
      · skip
        have n115 : CQQ (gvC s) sc75 := by exact g75_0
        exact g_return (gd rfl) rfl (hP _ _ ⟨sc75, hIc75, hFc75, rfl, rfl, n115⟩)
      · skip
        have i80 := r_lt1 0 31 c80 j75_3 ro_2_1 rfl
        have i80a := r_lt2 1 32 c80 j75_3 ro_2_1 rfl
        refine g_aload_n 84 (gd rfl) rfl rfl ?_
        refine g_getA (q2 := 64) 87 (gd rfl) rfl rfl rfl rfl ?_
        refine g_iload_n 88 (gd rfl) rfl rfl ?_
        have i88 : In y75_2 0 31 := by exact ⟨by exact (have a0 := in_u i80a; have a1 := in_u ro_2_0; have a2 := in_u i80; have a3 := in_u j75_2; have oc := oc_44_60_2; by omega), by exact (have a0 := in_u i80a; have a1 := in_u ro_2_0; have a2 := in_u i80; have a3 := in_u j75_2; have oc := oc_44_60_2; by omega)⟩
        refine g_aload_n 89 (gd rfl) rfl rfl ?_
        refine g_aload_n 90 (gd rfl) rfl rfl ?_
        refine g_iload_n 91 (gd rfl) rfl rfl ?_
        refine g_iload_n 92 (gd rfl) rfl rfl ?_
        refine g_callv (X := _) (As := [.ref (A 2), .int y75_3, .int y75_2]) (r := [.int y75_3, .ref (A 64)]) (b := A 60) (q := 60) 95 (gd rfl) rfl rfl rfl rfl rfl (ww_o rfl) (Nat.le_of_ble_eq_true rfl) (Nat.zero_le _) (Nat.zero_le _) (k_53_60_2 (by first | exact dq1 hd rfl | exact dq0 hd rfl | exact dq2 hd rfl | exact dq3 hd rfl | omega) hIc75 (in_w 0 31 i80 rfl) (in_w 0 31 i88 rfl)) (fun e u h => h) (fun v u h => ?_)
        obtain ⟨s92, hI92, hF92, z92, rfl, rfl, i92, p92⟩ := h
        show GG _ _ _ _ _ _ _ _ [.int z92, .int y75_3, .ref (A 64)] _ _ _
        refine g_iastore 96 (gd rfl) rfl (n := 32) rfl (in_ix i80 rfl) ?_
        have hI95 := inv_sI (q := 64) (j := y75_3.toNatClampNeg) hI92 rfl (in_w 0 31 i92 rfl)
        refine g_iload_n 97 (gd rfl) rfl rfl ?_
        refine g_aload_n 98 (gd rfl) rfl rfl ?_
        refine g_getA (q2 := 64) 101 (gd rfl) rfl rfl rfl rfl ?_
        refine g_iload_n 102 (gd rfl) rfl rfl ?_
        refine g_iaload 103 (gd rfl) rfl (n := 32) rfl (in_ix i80 rfl) (fun z102 e102 => ?_)
        have q102 : z92 = z102 := (sI_get).trans e102.symm
        subst q102
        refine g_iconst 1 104 (gd rfl) rfl rfl ?_
        refine g_iadd 105 (gd rfl) rfl (fun z104 e104 => ?_)
        have i104 := in_add 1 32 e104 i92 (in_c 1 rfl) rfl rfl
        refine g_calls (As := [.int y75_2, .int z104]) (r := []) 108 (gd rfl) rfl rfl rfl rfl rfl (Nat.le_of_ble_eq_true rfl) (mc := 0) (ms := 0) (Nat.zero_le _) (Nat.zero_le _) (P := fun v u => _) ?_ (fun v u h => h)
        intro po105 xx105 hp105 hx105
        refine g_enter2 (k := 422) (N := 300) (by first | exact dq1 hd rfl | exact dq0 hd rfl | exact dq2 hd rfl | exact dq3 hd rfl | omega) rfl (Nat.le_of_ble_eq_true rfl) ?_
        refine g_iload_n 1 (gd rfl) rfl rfl ?_
        refine g_iload_n 2 (gd rfl) rfl rfl ?_
        refine g_cmp_lt 5 9 (gd rfl) rfl rfl (fun c105x2 => ?_) (fun c105x2 => ?_)
        · skip
          refine g_iload_n 10 (gd rfl) rfl rfl ?_
          refine g_ireturn (gd rfl) rfl rfl (hp105 _ _ ?_)
          show GG _ _ _ _ _ _ _ _ [.int z104] _ _ _
          refine g_istore_n 109 (gd rfl) rfl (Nat.le_of_ble_eq_true rfl) ?_
          refine g_iinc 112 (gd rfl) rfl rfl (Nat.le_of_ble_eq_true rfl) (fun z109 e109 => ?_)
          have i109 := in_add 1 32 e109 i80 (in_c 1 rfl) rfl rfl
          refine g_goto 75 (gd rfl) rfl ?_
          have n75 : (z104).toInt ≤ (z109).toInt := by exact (have a0 := in_u i80a; have a1 := in_u ro_2_0; have a2 := in_u i80; have a3 := in_u i88; have a4 := in_u i109; have a5 := t_add e109 i80 (in_c 1 rfl) rfl; have a6 := in_u ((in_c 1 rfl)); have a7 := in_u i104; have a8 := t_add e104 i92 (in_c 1 rfl) rfl; have a9 := in_u i92; have oc := oc_44_60_2; by omega)
          have n75a : 0 ≤ (z104).toInt := by exact (have a0 := in_u i80a; have a1 := in_u ro_2_0; have a2 := in_u i80; have a3 := in_u i88; have a4 := in_u i109; have a5 := t_add e109 i80 (in_c 1 rfl) rfl; have a6 := in_u ((in_c 1 rfl)); have a7 := in_u i104; have a8 := t_add e104 i92 (in_c 1 rfl) rfl; have a9 := in_u i92; have oc := oc_44_60_2; by omega)
          have n75b : CQQ (gvC s) (sI s92 64 y75_3.toNatClampNeg z92) := by exact cqq_cg (cqq_cg g75_0 (hF92.2.2.1 60 0 rfl) (hF92.2.2.1 60 1 rfl)) rfl rfl
          exact gg_w (by first | exact Nat.le_add_right _ _ | exact gw2 | exact gw3 | exact gwe rfl | exact gwf rfl | exact gwg rfl | exact gwh rfl | omega) (gg_f (gf_cons rfl (gf_cons rfl (gf_cons rfl (gf_cons rfl gf_nil)))) (ih75 (sI s92 64 y75_3.toNatClampNeg z92) z104 z109 hI95 (fr_sI rfl (fr_tr rfl hFc75 hF92)) (in_w 0 32 i104 rfl) (in_w 0 32 i109 rfl) n75 n75a n75b (m_up mm75 (t_add e109 i80 (in_c 1 rfl) rfl) (in_w 1 1 (in_c 1 rfl) rfl))))
        · skip
          have i105x2 := r_le1 1 31 c105x2 i104 i88 rfl
          have i105x2a := r_le2 1 31 c105x2 i104 i88 rfl
          refine g_iload_n 6 (gd rfl) rfl rfl ?_
          refine g_goto 10 (gd rfl) rfl ?_
          refine g_ireturn (gd rfl) rfl rfl (hp105 _ _ ?_)
          show GG _ _ _ _ _ _ _ _ [.int y75_2] _ _ _
          refine g_istore_n 109 (gd rfl) rfl (Nat.le_of_ble_eq_true rfl) ?_
          refine g_iinc 112 (gd rfl) rfl rfl (Nat.le_of_ble_eq_true rfl) (fun z109 e109 => ?_)
          have i109 := in_add 1 32 e109 i80 (in_c 1 rfl) rfl rfl
          refine g_goto 75 (gd rfl) rfl ?_
          have n75 : (y75_2).toInt ≤ (z109).toInt := by exact (have a0 := in_u i80a; have a1 := in_u ro_2_0; have a2 := in_u i80; have a3 := in_u i105x2a; have a4 := in_u i109; have a5 := t_add e109 i80 (in_c 1 rfl) rfl; have a6 := in_u ((in_c 1 rfl)); have a7 := in_u i105x2; have a8 := t_add e104 i92 (in_c 1 rfl) rfl; have a9 := in_u i92; have oc := oc_44_60_2; by omega)
          have n75a : 0 ≤ (y75_2).toInt := by first | exact n75_1 | (exact (have a0 := in_u i80a; have a1 := in_u ro_2_0; have a2 := in_u i80; have a3 := in_u i105x2a; have a4 := in_u i109; have a5 := t_add e109 i80 (in_c 1 rfl) rfl; have a6 := in_u ((in_c 1 rfl)); have a7 := in_u i105x2; have a8 := t_add e104 i92 (in_c 1 rfl) rfl; have a9 := in_u i92; have oc := oc_44_60_2; by omega))
          have n75b : CQQ (gvC s) (sI s92 64 y75_3.toNatClampNeg z92) := by exact cqq_cg (cqq_cg g75_0 (hF92.2.2.1 60 0 rfl) (hF92.2.2.1 60 1 rfl)) rfl rfl
          exact gg_w (by first | exact Nat.le_add_right _ _ | exact gw2 | exact gw3 | exact gwe rfl | exact gwf rfl | exact gwg rfl | exact gwh rfl | omega) (gg_f (gf_cons rfl (gf_cons rfl (gf_cons rfl (gf_cons rfl gf_nil)))) (ih75 (sI s92 64 y75_3.toNatClampNeg z92) y75_2 z109 hI95 (fr_sI rfl (fr_tr rfl hFc75 hF92)) (in_w 0 32 i105x2a rfl) (in_w 0 32 i109 rfl) n75 n75a n75b (m_up mm75 (t_add e109 i80 (in_c 1 rfl) rfl) (in_w 1 1 (in_c 1 rfl) rfl))))
  have ct33 : ∀ (k33 : Nat) (sc33 : GS) (w33_60_3 : Int32), Inv sc33 → Fr fm_44_60_2 s sc33 → (w33_60_3 = sc33.2.2.1 60 3) → (CQQ (gvC s) sc33) → 33 - (w33_60_3).toInt < (k33 : Int) → GG Z (d - 1) 44 post (gx xp) (29702 + k33 * 900) 33 (fun j => xlook j [(0, .ref (A 60)), (1, .ref (A 2))]) [] (WW Z A sc33 ++ ex) 0 0 := by
    intro k33
    induction k33 with
    | zero => intro sc33 w33_60_3 hIc33 hFc33 v33_60_3 g33_0 mm33; exfalso; exact (have a0 := in_u ro_2_1; have a1 := in_u ro_2_0; have a2 := in_u ((inv_F hIc33 0 32 rfl v33_60_3)); have oc := oc_44_60_2; by omega)
    | succ k33 ih33 =>
      intro sc33 w33_60_3 hIc33 hFc33 v33_60_3 g33_0 mm33
      refine gg_w (M := 29702 + k33 * 900 + 900) gws ?_
      refine g_aload_n 34 (gd rfl) rfl rfl ?_
      refine g_getI 37 (gd rfl) rfl rfl rfl (fun z34 e34 => ?_)
      have q34 : w33_60_3 = z34 := (v33_60_3).trans e34.symm
      subst q34
      refine g_bipush 32 39 (gd rfl) rfl rfl ?_
      refine g_cmp_ge 42 71 (gd rfl) rfl rfl (fun c39 => ?_) (fun c39 => ?_)
      · skip
        have i39 := r_le2 32 32 c39 (in_c 32 rfl) (inv_F hIc33 0 32 rfl v33_60_3) rfl
        refine g_iconst 0 72 (gd rfl) rfl rfl ?_
        refine g_istore_n 73 (gd rfl) rfl (Nat.le_of_ble_eq_true rfl) ?_
        refine g_iconst 0 74 (gd rfl) rfl rfl ?_
        refine g_istore_n 75 (gd rfl) rfl (Nat.le_of_ble_eq_true rfl) ?_
        have n75 : ((Int32.ofInt 0)).toInt ≤ ((Int32.ofInt 0)).toInt := by exact (have a0 := in_u ro_2_1; have a1 := in_u ro_2_0; have a2 := in_u i39; have a3 := in_u ((in_c 0 rfl)); have oc := oc_44_60_2; by omega)
        have n75a : 0 ≤ ((Int32.ofInt 0)).toInt := by exact (have a0 := in_u ro_2_1; have a1 := in_u ro_2_0; have a2 := in_u i39; have a3 := in_u ((in_c 0 rfl)); have oc := oc_44_60_2; by omega)
        have n75b : CQQ (gvC s) sc33 := by exact g33_0
        exact gg_w (by first | exact Nat.le_add_right _ _ | exact gw2 | exact gw3 | exact gwe rfl | exact gwf rfl | exact gwg rfl | exact gwh rfl | omega) (gg_f (gf_cons rfl (gf_cons rfl (gf_cons rfl (gf_cons rfl gf_nil)))) (ct75 33 sc33 (Int32.ofInt 0) (Int32.ofInt 0) hIc33 hFc33 (in_w 0 32 (in_c 0 rfl) rfl) (in_w 0 32 (in_c 0 rfl) rfl) n75 n75a n75b (m_in 33 (in_w 0 32 (in_c 0 rfl) rfl) rfl)))
      · skip
        have i39 := r_lt1 0 31 c39 (inv_F hIc33 0 32 rfl v33_60_3) (in_c 32 rfl) rfl
        refine g_aload_n 43 (gd rfl) rfl rfl ?_
        refine g_aload_n 44 (gd rfl) rfl rfl ?_
        refine g_getA (q2 := 9) 47 (gd rfl) rfl rfl rfl rfl ?_
        refine g_aload_n 48 (gd rfl) rfl rfl ?_
        refine g_callv (X := _) (As := []) (r := [.ref (A 9), .ref (A 60)]) (b := A 2) (q := 2) 51 (gd rfl) rfl rfl rfl rfl rfl (ww_o rfl) (Nat.le_of_ble_eq_true rfl) (mc := 0) (ms := 0) (Nat.zero_le _) (Nat.zero_le _) (P := fun v u => _) ?_ (fun e u h => h) (fun v u h => h)
        intro po48 xx48 hp48 hx48
        refine g_enter2 (k := 102) (N := 300) (by first | exact dq1 hd rfl | exact dq0 hd rfl | exact dq2 hd rfl | exact dq3 hd rfl | omega) rfl (Nat.le_of_ble_eq_true rfl) ?_
        refine g_aload_n 1 (gd rfl) rfl rfl ?_
        refine g_getI 4 (gd rfl) rfl rfl rfl (fun z48x1 e48x1 => ?_)
        have q48x1 : u_2_1 = z48x1 := (fr_F e_2_1 hFc33 rfl).trans e48x1.symm
        subst q48x1
        refine g_bipush 32 6 (gd rfl) rfl rfl ?_
        refine g_cmp_lt 9 13 (gd rfl) rfl rfl (fun c48x6 => ?_) (fun c48x6 => ?_)
        · skip
          have i48x6 := r_lt1 0 31 c48x6 ro_2_1 (in_c 32 rfl) rfl
          refine g_iconst 1 14 (gd rfl) rfl rfl ?_
          refine g_aload_n 15 (gd rfl) rfl rfl ?_
          refine g_getI 18 (gd rfl) rfl rfl rfl (fun z48x15 e48x15 => ?_)
          have q48x15 : u_2_1 = z48x15 := (fr_F e_2_1 hFc33 rfl).trans e48x15.symm
          subst q48x15
          refine g_ishl 19 (gd rfl) rfl (fun z48x18 e48x18 => ?_)
          refine g_iconst 1 20 (gd rfl) rfl rfl ?_
          refine g_isub 21 (gd rfl) rfl (fun z48x20 e48x20 => ?_)
          refine g_ireturn (gd rfl) rfl rfl (hp48 _ _ ?_)
          show GG _ _ _ _ _ _ _ _ [.int z48x20, .ref (A 9), .ref (A 60)] _ _ _
          refine g_iconst 0 52 (gd rfl) rfl rfl ?_
          refine g_callv (X := _) (As := [.ref (A 9), .int z48x20, .int (Int32.ofInt 0)]) (r := []) (b := A 60) (q := 60) 55 (gd rfl) rfl rfl rfl rfl rfl (ww_o rfl) (Nat.le_of_ble_eq_true rfl) (Nat.zero_le _) (Nat.zero_le _) (k_46_60_9 (by first | exact dq1 hd rfl | exact dq0 hd rfl | exact dq2 hd rfl | exact dq3 hd rfl | omega) hIc33 (in_w 0 33 (in_c 0 rfl) rfl)) (fun e u h => h) (fun v u h => ?_)
          obtain ⟨s52, hI52, hF52, z52, rfl, rfl, i52⟩ := h
          show GG _ _ _ _ _ _ _ _ [.int z52] _ _ _
          refine g_if_ne 58 71 (gd rfl) rfl rfl (fun c55 => ?_) (fun c55 => ?_)
          · skip
            have i55 := z_ne 1 1 c55 i52 rfl
            refine g_iconst 0 72 (gd rfl) rfl rfl ?_
            refine g_istore_n 73 (gd rfl) rfl (Nat.le_of_ble_eq_true rfl) ?_
            refine g_iconst 0 74 (gd rfl) rfl rfl ?_
            refine g_istore_n 75 (gd rfl) rfl (Nat.le_of_ble_eq_true rfl) ?_
            have n75 : ((Int32.ofInt 0)).toInt ≤ ((Int32.ofInt 0)).toInt := by exact (have a0 := in_u i48x6; have a1 := in_u ro_2_0; have a2 := in_u i39; have a3 := in_u ((in_c 0 rfl)); have oc := oc_44_60_2; by omega)
            have n75a : 0 ≤ ((Int32.ofInt 0)).toInt := by exact (have a0 := in_u i48x6; have a1 := in_u ro_2_0; have a2 := in_u i39; have a3 := in_u ((in_c 0 rfl)); have oc := oc_44_60_2; by omega)
            have n75b : CQQ (gvC s) s52 := by exact (cqq_cg g33_0 (hF52.2.2.1 60 0 rfl) (hF52.2.2.1 60 1 rfl))
            exact gg_w (by first | exact Nat.le_add_right _ _ | exact gw2 | exact gw3 | exact gwe rfl | exact gwf rfl | exact gwg rfl | exact gwh rfl | omega) (gg_f (gf_cons rfl (gf_cons rfl (gf_cons rfl (gf_cons rfl gf_nil)))) (ct75 33 s52 (Int32.ofInt 0) (Int32.ofInt 0) hI52 (fr_tr rfl hFc33 hF52) (in_w 0 32 (in_c 0 rfl) rfl) (in_w 0 32 (in_c 0 rfl) rfl) n75 n75a n75b (m_in 33 (in_w 0 32 (in_c 0 rfl) rfl) rfl)))
          · skip
            have i55 := z_eq 0 0 c55 i52 rfl
            refine g_aload_n 59 (gd rfl) rfl rfl ?_
            refine g_dup 60 (gd rfl) rfl rfl ?_
            refine g_getI 63 (gd rfl) rfl rfl rfl (fun z60 e60 => ?_)
            have q60 : w33_60_3 = z60 := (fr_F (v33_60_3) hF52 rfl).trans e60.symm
            subst q60
            refine g_iconst 1 64 (gd rfl) rfl rfl ?_
            refine g_iadd 65 (gd rfl) rfl (fun z64 e64 => ?_)
            have i64 := in_add 1 32 e64 i39 (in_c 1 rfl) rfl rfl
            refine g_putI 68 (gd rfl) rfl rfl rfl rfl ?_
            have hI65 := inv_sF (q := 60) (j := 3) hI52 rfl (in_w 0 32 i64 rfl)
            refine g_goto 33 (gd rfl) rfl ?_
            have v33 : z64 = (sF s52 60 3 z64).2.2.1 60 3 := sF_get
            have n33 : CQQ (gvC s) (sF s52 60 3 z64) := by exact cqq_cg (cqq_cg g33_0 (hF52.2.2.1 60 0 rfl) (hF52.2.2.1 60 1 rfl)) rfl rfl
            have m33 : 33 - (z64).toInt < ((k33 : Nat) : Int) := by exact (have a0 := in_u i48x6; have a1 := in_u ro_2_0; have a2 := in_u i39; have a3 := in_u i64; have a4 := t_add e64 i39 (in_c 1 rfl) rfl; have a5 := in_u ((in_c 1 rfl)); have oc := oc_44_60_2; by omega)
            exact gg_w (by first | exact Nat.le_add_right _ _ | exact gw2 | exact gw3 | exact gwe rfl | exact gwf rfl | exact gwg rfl | exact gwh rfl | omega) (gg_f (gf_cons rfl (gf_cons rfl gf_nil)) (ih33  (sF s52 60 3 z64) z64 hI65 (fr_sF rfl (fr_tr rfl hFc33 hF52)) v33 n33 m33))
        · skip
          have i48x6 := r_le2 32 32 c48x6 (in_c 32 rfl) ro_2_1 rfl
          refine g_iconst (-1) 10 (gd rfl) rfl rfl ?_
          refine g_goto 21 (gd rfl) rfl ?_
          refine g_ireturn (gd rfl) rfl rfl (hp48 _ _ ?_)
          show GG _ _ _ _ _ _ _ _ [.int (Int32.ofInt (-1)), .ref (A 9), .ref (A 60)] _ _ _
          refine g_iconst 0 52 (gd rfl) rfl rfl ?_
          refine g_callv (X := _) (As := [.ref (A 9), .int (Int32.ofInt (-1)), .int (Int32.ofInt 0)]) (r := []) (b := A 60) (q := 60) 55 (gd rfl) rfl rfl rfl rfl rfl (ww_o rfl) (Nat.le_of_ble_eq_true rfl) (Nat.zero_le _) (Nat.zero_le _) (k_46_60_9 (by first | exact dq1 hd rfl | exact dq0 hd rfl | exact dq2 hd rfl | exact dq3 hd rfl | omega) hIc33 (in_w 0 33 (in_c 0 rfl) rfl)) (fun e u h => h) (fun v u h => ?_)
          obtain ⟨s52, hI52, hF52, z52, rfl, rfl, i52⟩ := h
          show GG _ _ _ _ _ _ _ _ [.int z52] _ _ _
          refine g_if_ne 58 71 (gd rfl) rfl rfl (fun c55 => ?_) (fun c55 => ?_)
          · skip
            have i55 := z_ne 1 1 c55 i52 rfl
            refine g_iconst 0 72 (gd rfl) rfl rfl ?_
            refine g_istore_n 73 (gd rfl) rfl (Nat.le_of_ble_eq_true rfl) ?_
            refine g_iconst 0 74 (gd rfl) rfl rfl ?_
            refine g_istore_n 75 (gd rfl) rfl (Nat.le_of_ble_eq_true rfl) ?_
            have n75 : ((Int32.ofInt 0)).toInt ≤ ((Int32.ofInt 0)).toInt := by exact (have a0 := in_u i48x6; have a1 := in_u ro_2_0; have a2 := in_u i39; have a3 := in_u ((in_c 0 rfl)); have oc := oc_44_60_2; by omega)
            have n75a : 0 ≤ ((Int32.ofInt 0)).toInt := by exact (have a0 := in_u i48x6; have a1 := in_u ro_2_0; have a2 := in_u i39; have a3 := in_u ((in_c 0 rfl)); have oc := oc_44_60_2; by omega)
            have n75b : CQQ (gvC s) s52 := by exact (cqq_cg g33_0 (hF52.2.2.1 60 0 rfl) (hF52.2.2.1 60 1 rfl))
            exact gg_w (by first | exact Nat.le_add_right _ _ | exact gw2 | exact gw3 | exact gwe rfl | exact gwf rfl | exact gwg rfl | exact gwh rfl | omega) (gg_f (gf_cons rfl (gf_cons rfl (gf_cons rfl (gf_cons rfl gf_nil)))) (ct75 33 s52 (Int32.ofInt 0) (Int32.ofInt 0) hI52 (fr_tr rfl hFc33 hF52) (in_w 0 32 (in_c 0 rfl) rfl) (in_w 0 32 (in_c 0 rfl) rfl) n75 n75a n75b (m_in 33 (in_w 0 32 (in_c 0 rfl) rfl) rfl)))
          · skip
            have i55 := z_eq 0 0 c55 i52 rfl
            refine g_aload_n 59 (gd rfl) rfl rfl ?_
            refine g_dup 60 (gd rfl) rfl rfl ?_
            refine g_getI 63 (gd rfl) rfl rfl rfl (fun z60 e60 => ?_)
            have q60 : w33_60_3 = z60 := (fr_F (v33_60_3) hF52 rfl).trans e60.symm
            subst q60
            refine g_iconst 1 64 (gd rfl) rfl rfl ?_
            refine g_iadd 65 (gd rfl) rfl (fun z64 e64 => ?_)
            have i64 := in_add 1 32 e64 i39 (in_c 1 rfl) rfl rfl
            refine g_putI 68 (gd rfl) rfl rfl rfl rfl ?_
            have hI65 := inv_sF (q := 60) (j := 3) hI52 rfl (in_w 0 32 i64 rfl)
            refine g_goto 33 (gd rfl) rfl ?_
            have v33 : z64 = (sF s52 60 3 z64).2.2.1 60 3 := sF_get
            have n33 : CQQ (gvC s) (sF s52 60 3 z64) := by exact cqq_cg (cqq_cg g33_0 (hF52.2.2.1 60 0 rfl) (hF52.2.2.1 60 1 rfl)) rfl rfl
            have m33 : 33 - (z64).toInt < ((k33 : Nat) : Int) := by exact (have a0 := in_u i48x6; have a1 := in_u ro_2_0; have a2 := in_u i39; have a3 := in_u i64; have a4 := t_add e64 i39 (in_c 1 rfl) rfl; have a5 := in_u ((in_c 1 rfl)); have oc := oc_44_60_2; by omega)
            exact gg_w (by first | exact Nat.le_add_right _ _ | exact gw2 | exact gw3 | exact gwe rfl | exact gwf rfl | exact gwg rfl | exact gwh rfl | omega) (gg_f (gf_cons rfl (gf_cons rfl gf_nil)) (ih33  (sF s52 60 3 z64) z64 hI65 (fr_sF rfl (fr_tr rfl hFc33 hF52)) v33 n33 m33))
  refine g_enter2 (k := 44) (N := 66602) (by first | exact dq1 hd rfl | exact dq0 hd rfl | exact dq2 hd rfl | exact dq3 hd rfl | omega) rfl (Nat.le_of_ble_eq_true rfl) ?_
  refine g_aload_n 1 (gd rfl) rfl rfl ?_
  refine g_callv (X := _) (As := []) (r := []) (b := A 2) (q := 2) 4 (gd rfl) rfl rfl rfl rfl rfl (ww_o rfl) (Nat.le_of_ble_eq_true rfl) (Nat.zero_le _) (Nat.zero_le _) (k_106_2 (by first | exact dq1 hd rfl | exact dq0 hd rfl | exact dq2 hd rfl | exact dq3 hd rfl | omega) hI ) (fun e u h => h) (fun v u h => ?_)
  obtain ⟨s1, hI1, hF1, n1, rfl, rfl⟩ := h
  obtain ⟨z1a, e1⟩ : ∃ w, w = s1.2.2.1 2 4 := ⟨_, rfl⟩
  have i1a := inv_F hI1 (-1) 4000 rfl e1
  rw [← (show z1a = s1.2.2.1 2 4 from e1)] at n1
  rw [← (show u_2_0 = s1.2.2.1 2 0 from fr_F (e_2_0) hF1 rfl)] at n1
  show GG _ _ _ _ _ _ _ _ [] _ _ _
  refine g_aload_n 5 (gd rfl) rfl rfl ?_
  refine g_iconst 1 6 (gd rfl) rfl rfl ?_
  refine g_aload_n 7 (gd rfl) rfl rfl ?_
  refine g_aload_n 8 (gd rfl) rfl rfl ?_
  have p8 : TQ s1 := by exact tq_fr q_0 hF1 rfl
  have p8a : CQB (gvC s1) s1 := by rw [gvC_cg hF1 rfl]; exact cqb_cg q_1 (hF1.2.2.1 60 0 rfl) (hF1.2.2.1 60 1 rfl)
  refine g_callv (X := _) (As := [.ref (A 2)]) (r := [.int (Int32.ofInt 1), .ref (A 60)]) (b := A 60) (q := 60) 11 (gd rfl) rfl rfl rfl rfl rfl (ww_o rfl) (Nat.le_of_ble_eq_true rfl) (Nat.zero_le _) (Nat.zero_le _) (f_41_60_2 (by first | exact dq1 hd rfl | exact dq0 hd rfl | exact dq2 hd rfl | exact dq3 hd rfl | omega) hI1 p8 p8a) (fun e u h => h) (fun v u h => ?_)
  obtain ⟨s8, hI8, hF8, z8, rfl, rfl, i8, p8b, p8c⟩ := h
  show GG _ _ _ _ _ _ _ _ [.int z8, .int (Int32.ofInt 1), .ref (A 60)] _ _ _
  refine g_calls (As := [.int z8]) (r := [.int (Int32.ofInt 1), .ref (A 60)]) 14 (gd rfl) rfl rfl rfl rfl rfl (Nat.le_of_ble_eq_true rfl) (Nat.zero_le _) (Nat.zero_le _) (f_414 (by first | exact dq1 hd rfl | exact dq0 hd rfl | exact dq2 hd rfl | exact dq3 hd rfl | omega) hI8 ) (fun v u h => ?_)
  obtain ⟨z11, rfl, rfl, i11, p11⟩ := h
  show GG _ _ _ _ _ _ _ _ [.int z11, .int (Int32.ofInt 1), .ref (A 60)] _ _ _
  refine g_calls (As := [.int (Int32.ofInt 1), .int z11]) (r := [.ref (A 60)]) 17 (gd rfl) rfl rfl rfl rfl rfl (Nat.le_of_ble_eq_true rfl) (mc := 0) (ms := 0) (Nat.zero_le _) (Nat.zero_le _) (P := fun v u => _) ?_ (fun v u h => h)
  intro po14 xx14 hp14 hx14
  refine g_enter2 (k := 422) (N := 300) (by first | exact dq1 hd rfl | exact dq0 hd rfl | exact dq2 hd rfl | exact dq3 hd rfl | omega) rfl (Nat.le_of_ble_eq_true rfl) ?_
  refine g_iload_n 1 (gd rfl) rfl rfl ?_
  refine g_iload_n 2 (gd rfl) rfl rfl ?_
  refine g_cmp_lt 5 9 (gd rfl) rfl rfl (fun c14x2 => ?_) (fun c14x2 => ?_)
  · skip
    have i14x2 := r_lt2 2 32 c14x2 (in_c 1 rfl) i11 rfl
    refine g_iload_n 10 (gd rfl) rfl rfl ?_
    refine g_ireturn (gd rfl) rfl rfl (hp14 _ _ ?_)
    show GG _ _ _ _ _ _ _ _ [.int z11, .ref (A 60)] _ _ _
    refine g_putI 20 (gd rfl) rfl rfl rfl rfl ?_
    have hI17 := inv_sF (q := 60) (j := 3) hI8 rfl (in_w 0 32 i14x2 rfl)
    refine g_aload_n 21 (gd rfl) rfl rfl ?_
    refine g_iconst 0 22 (gd rfl) rfl rfl ?_
    refine g_putI 25 (gd rfl) rfl rfl rfl rfl ?_
    have hI22 := inv_sF (q := 60) (j := 7) hI17 rfl (in_w 0 32 (in_c 0 rfl) rfl)
    refine g_aload_n 26 (gd rfl) rfl rfl ?_
    refine g_getA (q2 := 61) 29 (gd rfl) rfl rfl rfl rfl ?_
    refine g_iconst 0 30 (gd rfl) rfl rfl ?_
    refine g_calls (As := [.ref (A 61), .int (Int32.ofInt 0)]) (r := []) 33 (gd rfl) rfl rfl rfl rfl rfl (Nat.le_of_ble_eq_true rfl) (Nat.zero_le _) (Nat.zero_le _) (k_fillI 61 (by first | exact dq1 hd rfl | exact dq0 hd rfl | exact dq2 hd rfl | exact dq3 hd rfl | omega) hI22 (in_c 0 rfl) (n := 32) rfl rfl rfl rfl) (fun v u h => ?_)
    obtain ⟨s30, hI30, hF30, rfl, rfl, fl30⟩ := h
    show GG _ _ _ _ _ _ _ _ [] _ _ _
    have v33 : z11 = s30.2.2.1 60 3 := fr_F (s := (sF (sF s8 60 3 z11) 60 7 (Int32.ofInt 0))) (sF_ne rfl (sF_get)) hF30 rfl
    have n33 : CQQ (gvC s) s30 := by exact (cqq_cg (show CQQ (gvC s) s8 from (by have h9 := p8b; rw [gvC_cg hF1 rfl] at h9; exact h9)) (hF30.2.2.1 60 0 rfl) (hF30.2.2.1 60 1 rfl))
    have m33 : 33 - (z11).toInt < ((40 : Nat) : Int) := by exact (have a0 := in_u ro_2_1; have a1 := in_u ro_2_0; have a2 := in_u ((in_c 0 rfl)); have a3 := in_u i14x2; have oc := oc_44_60_2; by omega)
    exact gg_w (by first | exact Nat.le_of_ble_eq_true rfl | omega) (gg_f (gf_cons rfl (gf_cons rfl gf_nil)) (ct33 40 s30 z11 hI30 (fr_tr rfl (fr_sF rfl (fr_sF rfl (fr_tr rfl (fr_tr rfl fr_rf hF1) hF8))) hF30) v33 n33 m33))
  · skip
    have i14x2 := r_le1 0 1 c14x2 i11 (in_c 1 rfl) rfl
    refine g_iload_n 6 (gd rfl) rfl rfl ?_
    refine g_goto 10 (gd rfl) rfl ?_
    refine g_ireturn (gd rfl) rfl rfl (hp14 _ _ ?_)
    show GG _ _ _ _ _ _ _ _ [.int (Int32.ofInt 1), .ref (A 60)] _ _ _
    refine g_putI 20 (gd rfl) rfl rfl rfl rfl ?_
    have hI17 := inv_sF (q := 60) (j := 3) hI8 rfl (in_w 0 32 (in_c 1 rfl) rfl)
    refine g_aload_n 21 (gd rfl) rfl rfl ?_
    refine g_iconst 0 22 (gd rfl) rfl rfl ?_
    refine g_putI 25 (gd rfl) rfl rfl rfl rfl ?_
    have hI22 := inv_sF (q := 60) (j := 7) hI17 rfl (in_w 0 32 (in_c 0 rfl) rfl)
    refine g_aload_n 26 (gd rfl) rfl rfl ?_
    refine g_getA (q2 := 61) 29 (gd rfl) rfl rfl rfl rfl ?_
    refine g_iconst 0 30 (gd rfl) rfl rfl ?_
    refine g_calls (As := [.ref (A 61), .int (Int32.ofInt 0)]) (r := []) 33 (gd rfl) rfl rfl rfl rfl rfl (Nat.le_of_ble_eq_true rfl) (Nat.zero_le _) (Nat.zero_le _) (k_fillI 61 (by first | exact dq1 hd rfl | exact dq0 hd rfl | exact dq2 hd rfl | exact dq3 hd rfl | omega) hI22 (in_c 0 rfl) (n := 32) rfl rfl rfl rfl) (fun v u h => ?_)
    obtain ⟨s30, hI30, hF30, rfl, rfl, fl30⟩ := h
    show GG _ _ _ _ _ _ _ _ [] _ _ _
    have v33 : (Int32.ofInt 1) = s30.2.2.1 60 3 := fr_F (s := (sF (sF s8 60 3 (Int32.ofInt 1)) 60 7 (Int32.ofInt 0))) (sF_ne rfl (sF_get)) hF30 rfl
    have n33 : CQQ (gvC s) s30 := by exact (cqq_cg (show CQQ (gvC s) s8 from (by have h9 := p8b; rw [gvC_cg hF1 rfl] at h9; exact h9)) (hF30.2.2.1 60 0 rfl) (hF30.2.2.1 60 1 rfl))
    have m33 : 33 - ((Int32.ofInt 1)).toInt < ((40 : Nat) : Int) := by exact (have a0 := in_u ro_2_1; have a1 := in_u ro_2_0; have a2 := in_u ((in_c 0 rfl)); have a3 := in_u ((in_c 1 rfl)); have oc := oc_44_60_2; by omega)
    exact gg_w (by first | exact Nat.le_of_ble_eq_true rfl | omega) (gg_f (gf_cons rfl (gf_cons rfl gf_nil)) (ct33 40 s30 (Int32.ofInt 1) hI30 (fr_tr rfl (fr_sF rfl (fr_sF rfl (fr_tr rfl (fr_tr rfl fr_rf hF1) hF8))) hF30) v33 n33 m33))

theorem oc_44_60_32 : (Int32.ofInt (-1)).toInt = (-1) ∧ (Int32.ofInt 0).toInt = 0 ∧ (Int32.ofInt 1).toInt = 1 ∧ (Int32.ofInt 32).toInt = 32 := ⟨rfl, rfl, rfl, rfl⟩
/-- GraphHouse$Colours.makeColours -/
theorem f_44_60_32 {Z : AmZ} {A : Nat → Nat} {s : GS} {ex : va_W} {d : Nat} {X : AmX}  (hd : 383 ≤ d) (hI : Inv s) (q_0 : TQD s) (q_1 : CQB (gvD s) s) : GC Z d 44 [.ref (A 60), .ref (A 32)] (WW Z A s ++ ex) 0 0 (fun v u => ∃ t : GS, Inv t ∧ Fr fm_44_60_32 s t ∧ v = none ∧ u = WW Z A t ++ ex ∧ (CQQ (gvD s) t)) X := by
  intro post xp hP hX
  obtain ⟨u_32_0, e_32_0⟩ : ∃ w, w = s.2.2.1 32 0 := ⟨_, rfl⟩
  have ro_32_0 := inv_F hI 0 4000 rfl e_32_0
  obtain ⟨u_32_1, e_32_1⟩ : ∃ w, w = s.2.2.1 32 1 := ⟨_, rfl⟩
  have ro_32_1 := inv_F hI 0 32 rfl e_32_1
  have ct75 : ∀ (k75 : Nat) (sc75 : GS) (y75_2 : Int32) (y75_3 : Int32), Inv sc75 → Fr fm_44_60_32 s sc75 → (In y75_2 0 32) → (In y75_3 0 32) → ((y75_2).toInt ≤ (y75_3).toInt) → (0 ≤ (y75_2).toInt) → (CQQ (gvD s) sc75) → 32 - (y75_3).toInt < (k75 : Int) → GG Z (d - 1) 44 post (gx xp) (1 + k75 * 900) 75 (fun j => xlook j [(0, .ref (A 60)), (1, .ref (A 32)), (2, .int y75_2), (3, .int y75_3)]) [] (WW Z A sc75 ++ ex) 0 0 := by
    intro k75
    induction k75 with
    | zero => intro sc75 y75_2 y75_3 hIc75 hFc75 j75_2 j75_3 n75_0 n75_1 g75_0 mm75; exact m_no mm75 j75_3 rfl
    | succ k75 ih75 =>
      intro sc75 y75_2 y75_3 hIc75 hFc75 j75_2 j75_3 n75_0 n75_1 g75_0 mm75
      refine gg_w (M := 1 + k75 * 900 + 900) gws ?_
      refine g_iload_n 76 (gd rfl) rfl rfl ?_
      refine g_aload_n 77 (gd rfl) rfl rfl ?_
      refine g_getI 80 (gd rfl) rfl rfl rfl (fun z77 e77 => ?_)
      have q77 : u_32_1 = z77 := (fr_F e_32_1 hFc75 rfl).trans e77.symm
      subst q77
      refine g_cmp_ge 83 115 (gd rfl) rfl rfl (fun c80 => ?_) (fun c80 => ?_)
      · skip
        have n115 : CQQ (gvD s) sc75 := by exact g75_0
        exact g_return (gd rfl) rfl (hP _ _ ⟨sc75, hIc75, hFc75, rfl, rfl, n115⟩)
      · skip
        have i80 := r_lt1 0 31 c80 j75_3 ro_32_1 rfl
        have i80a := r_lt2 1 32 c80 j75_3 ro_32_1 rfl
        refine g_aload_n 84 (gd rfl) rfl rfl ?_
        refine g_getA (q2 := 64) 87 (gd rfl) rfl rfl rfl rfl ?_
        refine g_iload_n 88 (gd rfl) rfl rfl ?_
        have i88 : In y75_2 0 31 := by exact ⟨by exact (have a0 := in_u i80a; have a1 := in_u ro_32_0; have a2 := in_u i80; have a3 := in_u j75_2; have oc := oc_44_60_32; by omega), by exact (have a0 := in_u i80a; have a1 := in_u ro_32_0; have a2 := in_u i80; have a3 := in_u j75_2; have oc := oc_44_60_32; by omega)⟩
        refine g_aload_n 89 (gd rfl) rfl rfl ?_
        refine g_aload_n 90 (gd rfl) rfl rfl ?_
        refine g_iload_n 91 (gd rfl) rfl rfl ?_
        refine g_iload_n 92 (gd rfl) rfl rfl ?_
        refine g_callv (X := _) (As := [.ref (A 32), .int y75_3, .int y75_2]) (r := [.int y75_3, .ref (A 64)]) (b := A 60) (q := 60) 95 (gd rfl) rfl rfl rfl rfl rfl (ww_o rfl) (Nat.le_of_ble_eq_true rfl) (Nat.zero_le _) (Nat.zero_le _) (k_53_60_32 (by first | exact dq1 hd rfl | exact dq0 hd rfl | exact dq2 hd rfl | exact dq3 hd rfl | omega) hIc75 (in_w 0 31 i80 rfl) (in_w 0 31 i88 rfl)) (fun e u h => h) (fun v u h => ?_)
        obtain ⟨s92, hI92, hF92, z92, rfl, rfl, i92, p92⟩ := h
        show GG _ _ _ _ _ _ _ _ [.int z92, .int y75_3, .ref (A 64)] _ _ _
        refine g_iastore 96 (gd rfl) rfl (n := 32) rfl (in_ix i80 rfl) ?_
        have hI95 := inv_sI (q := 64) (j := y75_3.toNatClampNeg) hI92 rfl (in_w 0 31 i92 rfl)
        refine g_iload_n 97 (gd rfl) rfl rfl ?_
        refine g_aload_n 98 (gd rfl) rfl rfl ?_
        refine g_getA (q2 := 64) 101 (gd rfl) rfl rfl rfl rfl ?_
        refine g_iload_n 102 (gd rfl) rfl rfl ?_
        refine g_iaload 103 (gd rfl) rfl (n := 32) rfl (in_ix i80 rfl) (fun z102 e102 => ?_)
        have q102 : z92 = z102 := (sI_get).trans e102.symm
        subst q102
        refine g_iconst 1 104 (gd rfl) rfl rfl ?_
        refine g_iadd 105 (gd rfl) rfl (fun z104 e104 => ?_)
        have i104 := in_add 1 32 e104 i92 (in_c 1 rfl) rfl rfl
        refine g_calls (As := [.int y75_2, .int z104]) (r := []) 108 (gd rfl) rfl rfl rfl rfl rfl (Nat.le_of_ble_eq_true rfl) (mc := 0) (ms := 0) (Nat.zero_le _) (Nat.zero_le _) (P := fun v u => _) ?_ (fun v u h => h)
        intro po105 xx105 hp105 hx105
        refine g_enter2 (k := 422) (N := 300) (by first | exact dq1 hd rfl | exact dq0 hd rfl | exact dq2 hd rfl | exact dq3 hd rfl | omega) rfl (Nat.le_of_ble_eq_true rfl) ?_
        refine g_iload_n 1 (gd rfl) rfl rfl ?_
        refine g_iload_n 2 (gd rfl) rfl rfl ?_
        refine g_cmp_lt 5 9 (gd rfl) rfl rfl (fun c105x2 => ?_) (fun c105x2 => ?_)
        · skip
          refine g_iload_n 10 (gd rfl) rfl rfl ?_
          refine g_ireturn (gd rfl) rfl rfl (hp105 _ _ ?_)
          show GG _ _ _ _ _ _ _ _ [.int z104] _ _ _
          refine g_istore_n 109 (gd rfl) rfl (Nat.le_of_ble_eq_true rfl) ?_
          refine g_iinc 112 (gd rfl) rfl rfl (Nat.le_of_ble_eq_true rfl) (fun z109 e109 => ?_)
          have i109 := in_add 1 32 e109 i80 (in_c 1 rfl) rfl rfl
          refine g_goto 75 (gd rfl) rfl ?_
          have n75 : (z104).toInt ≤ (z109).toInt := by exact (have a0 := in_u i80a; have a1 := in_u ro_32_0; have a2 := in_u i80; have a3 := in_u i88; have a4 := in_u i109; have a5 := t_add e109 i80 (in_c 1 rfl) rfl; have a6 := in_u ((in_c 1 rfl)); have a7 := in_u i104; have a8 := t_add e104 i92 (in_c 1 rfl) rfl; have a9 := in_u i92; have oc := oc_44_60_32; by omega)
          have n75a : 0 ≤ (z104).toInt := by exact (have a0 := in_u i80a; have a1 := in_u ro_32_0; have a2 := in_u i80; have a3 := in_u i88; have a4 := in_u i109; have a5 := t_add e109 i80 (in_c 1 rfl) rfl; have a6 := in_u ((in_c 1 rfl)); have a7 := in_u i104; have a8 := t_add e104 i92 (in_c 1 rfl) rfl; have a9 := in_u i92; have oc := oc_44_60_32; by omega)
          have n75b : CQQ (gvD s) (sI s92 64 y75_3.toNatClampNeg z92) := by exact cqq_cg (cqq_cg g75_0 (hF92.2.2.1 60 0 rfl) (hF92.2.2.1 60 1 rfl)) rfl rfl
          exact gg_w (by first | exact Nat.le_add_right _ _ | exact gw2 | exact gw3 | exact gwe rfl | exact gwf rfl | exact gwg rfl | exact gwh rfl | omega) (gg_f (gf_cons rfl (gf_cons rfl (gf_cons rfl (gf_cons rfl gf_nil)))) (ih75 (sI s92 64 y75_3.toNatClampNeg z92) z104 z109 hI95 (fr_sI rfl (fr_tr rfl hFc75 hF92)) (in_w 0 32 i104 rfl) (in_w 0 32 i109 rfl) n75 n75a n75b (m_up mm75 (t_add e109 i80 (in_c 1 rfl) rfl) (in_w 1 1 (in_c 1 rfl) rfl))))
        · skip
          have i105x2 := r_le1 1 31 c105x2 i104 i88 rfl
          have i105x2a := r_le2 1 31 c105x2 i104 i88 rfl
          refine g_iload_n 6 (gd rfl) rfl rfl ?_
          refine g_goto 10 (gd rfl) rfl ?_
          refine g_ireturn (gd rfl) rfl rfl (hp105 _ _ ?_)
          show GG _ _ _ _ _ _ _ _ [.int y75_2] _ _ _
          refine g_istore_n 109 (gd rfl) rfl (Nat.le_of_ble_eq_true rfl) ?_
          refine g_iinc 112 (gd rfl) rfl rfl (Nat.le_of_ble_eq_true rfl) (fun z109 e109 => ?_)
          have i109 := in_add 1 32 e109 i80 (in_c 1 rfl) rfl rfl
          refine g_goto 75 (gd rfl) rfl ?_
          have n75 : (y75_2).toInt ≤ (z109).toInt := by exact (have a0 := in_u i80a; have a1 := in_u ro_32_0; have a2 := in_u i80; have a3 := in_u i105x2a; have a4 := in_u i109; have a5 := t_add e109 i80 (in_c 1 rfl) rfl; have a6 := in_u ((in_c 1 rfl)); have a7 := in_u i105x2; have a8 := t_add e104 i92 (in_c 1 rfl) rfl; have a9 := in_u i92; have oc := oc_44_60_32; by omega)
          have n75a : 0 ≤ (y75_2).toInt := by first | exact n75_1 | (exact (have a0 := in_u i80a; have a1 := in_u ro_32_0; have a2 := in_u i80; have a3 := in_u i105x2a; have a4 := in_u i109; have a5 := t_add e109 i80 (in_c 1 rfl) rfl; have a6 := in_u ((in_c 1 rfl)); have a7 := in_u i105x2; have a8 := t_add e104 i92 (in_c 1 rfl) rfl; have a9 := in_u i92; have oc := oc_44_60_32; by omega))
          have n75b : CQQ (gvD s) (sI s92 64 y75_3.toNatClampNeg z92) := by exact cqq_cg (cqq_cg g75_0 (hF92.2.2.1 60 0 rfl) (hF92.2.2.1 60 1 rfl)) rfl rfl
          exact gg_w (by first | exact Nat.le_add_right _ _ | exact gw2 | exact gw3 | exact gwe rfl | exact gwf rfl | exact gwg rfl | exact gwh rfl | omega) (gg_f (gf_cons rfl (gf_cons rfl (gf_cons rfl (gf_cons rfl gf_nil)))) (ih75 (sI s92 64 y75_3.toNatClampNeg z92) y75_2 z109 hI95 (fr_sI rfl (fr_tr rfl hFc75 hF92)) (in_w 0 32 i105x2a rfl) (in_w 0 32 i109 rfl) n75 n75a n75b (m_up mm75 (t_add e109 i80 (in_c 1 rfl) rfl) (in_w 1 1 (in_c 1 rfl) rfl))))
  have ct33 : ∀ (k33 : Nat) (sc33 : GS) (w33_60_3 : Int32), Inv sc33 → Fr fm_44_60_32 s sc33 → (w33_60_3 = sc33.2.2.1 60 3) → (CQQ (gvD s) sc33) → 33 - (w33_60_3).toInt < (k33 : Int) → GG Z (d - 1) 44 post (gx xp) (29702 + k33 * 900) 33 (fun j => xlook j [(0, .ref (A 60)), (1, .ref (A 32))]) [] (WW Z A sc33 ++ ex) 0 0 := by
    intro k33
    induction k33 with
    | zero => intro sc33 w33_60_3 hIc33 hFc33 v33_60_3 g33_0 mm33; exfalso; exact (have a0 := in_u ro_32_1; have a1 := in_u ro_32_0; have a2 := in_u ((inv_F hIc33 0 32 rfl v33_60_3)); have oc := oc_44_60_32; by omega)
    | succ k33 ih33 =>
      intro sc33 w33_60_3 hIc33 hFc33 v33_60_3 g33_0 mm33
      refine gg_w (M := 29702 + k33 * 900 + 900) gws ?_
      refine g_aload_n 34 (gd rfl) rfl rfl ?_
      refine g_getI 37 (gd rfl) rfl rfl rfl (fun z34 e34 => ?_)
      have q34 : w33_60_3 = z34 := (v33_60_3).trans e34.symm
      subst q34
      refine g_bipush 32 39 (gd rfl) rfl rfl ?_
      refine g_cmp_ge 42 71 (gd rfl) rfl rfl (fun c39 => ?_) (fun c39 => ?_)
      · skip
        have i39 := r_le2 32 32 c39 (in_c 32 rfl) (inv_F hIc33 0 32 rfl v33_60_3) rfl
        refine g_iconst 0 72 (gd rfl) rfl rfl ?_
        refine g_istore_n 73 (gd rfl) rfl (Nat.le_of_ble_eq_true rfl) ?_
        refine g_iconst 0 74 (gd rfl) rfl rfl ?_
        refine g_istore_n 75 (gd rfl) rfl (Nat.le_of_ble_eq_true rfl) ?_
        have n75 : ((Int32.ofInt 0)).toInt ≤ ((Int32.ofInt 0)).toInt := by exact (have a0 := in_u ro_32_1; have a1 := in_u ro_32_0; have a2 := in_u i39; have a3 := in_u ((in_c 0 rfl)); have oc := oc_44_60_32; by omega)
        have n75a : 0 ≤ ((Int32.ofInt 0)).toInt := by exact (have a0 := in_u ro_32_1; have a1 := in_u ro_32_0; have a2 := in_u i39; have a3 := in_u ((in_c 0 rfl)); have oc := oc_44_60_32; by omega)
        have n75b : CQQ (gvD s) sc33 := by exact g33_0
        exact gg_w (by first | exact Nat.le_add_right _ _ | exact gw2 | exact gw3 | exact gwe rfl | exact gwf rfl | exact gwg rfl | exact gwh rfl | omega) (gg_f (gf_cons rfl (gf_cons rfl (gf_cons rfl (gf_cons rfl gf_nil)))) (ct75 33 sc33 (Int32.ofInt 0) (Int32.ofInt 0) hIc33 hFc33 (in_w 0 32 (in_c 0 rfl) rfl) (in_w 0 32 (in_c 0 rfl) rfl) n75 n75a n75b (m_in 33 (in_w 0 32 (in_c 0 rfl) rfl) rfl)))
      · skip
        have i39 := r_lt1 0 31 c39 (inv_F hIc33 0 32 rfl v33_60_3) (in_c 32 rfl) rfl
        refine g_aload_n 43 (gd rfl) rfl rfl ?_
        refine g_aload_n 44 (gd rfl) rfl rfl ?_
        refine g_getA (q2 := 39) 47 (gd rfl) rfl rfl rfl rfl ?_
        refine g_aload_n 48 (gd rfl) rfl rfl ?_
        refine g_callv (X := _) (As := []) (r := [.ref (A 39), .ref (A 60)]) (b := A 32) (q := 32) 51 (gd rfl) rfl rfl rfl rfl rfl (ww_o rfl) (Nat.le_of_ble_eq_true rfl) (mc := 0) (ms := 0) (Nat.zero_le _) (Nat.zero_le _) (P := fun v u => _) ?_ (fun e u h => h) (fun v u h => h)
        intro po48 xx48 hp48 hx48
        refine g_enter2 (k := 102) (N := 300) (by first | exact dq1 hd rfl | exact dq0 hd rfl | exact dq2 hd rfl | exact dq3 hd rfl | omega) rfl (Nat.le_of_ble_eq_true rfl) ?_
        refine g_aload_n 1 (gd rfl) rfl rfl ?_
        refine g_getI 4 (gd rfl) rfl rfl rfl (fun z48x1 e48x1 => ?_)
        have q48x1 : u_32_1 = z48x1 := (fr_F e_32_1 hFc33 rfl).trans e48x1.symm
        subst q48x1
        refine g_bipush 32 6 (gd rfl) rfl rfl ?_
        refine g_cmp_lt 9 13 (gd rfl) rfl rfl (fun c48x6 => ?_) (fun c48x6 => ?_)
        · skip
          have i48x6 := r_lt1 0 31 c48x6 ro_32_1 (in_c 32 rfl) rfl
          refine g_iconst 1 14 (gd rfl) rfl rfl ?_
          refine g_aload_n 15 (gd rfl) rfl rfl ?_
          refine g_getI 18 (gd rfl) rfl rfl rfl (fun z48x15 e48x15 => ?_)
          have q48x15 : u_32_1 = z48x15 := (fr_F e_32_1 hFc33 rfl).trans e48x15.symm
          subst q48x15
          refine g_ishl 19 (gd rfl) rfl (fun z48x18 e48x18 => ?_)
          refine g_iconst 1 20 (gd rfl) rfl rfl ?_
          refine g_isub 21 (gd rfl) rfl (fun z48x20 e48x20 => ?_)
          refine g_ireturn (gd rfl) rfl rfl (hp48 _ _ ?_)
          show GG _ _ _ _ _ _ _ _ [.int z48x20, .ref (A 39), .ref (A 60)] _ _ _
          refine g_iconst 0 52 (gd rfl) rfl rfl ?_
          refine g_callv (X := _) (As := [.ref (A 39), .int z48x20, .int (Int32.ofInt 0)]) (r := []) (b := A 60) (q := 60) 55 (gd rfl) rfl rfl rfl rfl rfl (ww_o rfl) (Nat.le_of_ble_eq_true rfl) (Nat.zero_le _) (Nat.zero_le _) (k_46_60_39 (by first | exact dq1 hd rfl | exact dq0 hd rfl | exact dq2 hd rfl | exact dq3 hd rfl | omega) hIc33 (in_w 0 33 (in_c 0 rfl) rfl)) (fun e u h => h) (fun v u h => ?_)
          obtain ⟨s52, hI52, hF52, z52, rfl, rfl, i52⟩ := h
          show GG _ _ _ _ _ _ _ _ [.int z52] _ _ _
          refine g_if_ne 58 71 (gd rfl) rfl rfl (fun c55 => ?_) (fun c55 => ?_)
          · skip
            have i55 := z_ne 1 1 c55 i52 rfl
            refine g_iconst 0 72 (gd rfl) rfl rfl ?_
            refine g_istore_n 73 (gd rfl) rfl (Nat.le_of_ble_eq_true rfl) ?_
            refine g_iconst 0 74 (gd rfl) rfl rfl ?_
            refine g_istore_n 75 (gd rfl) rfl (Nat.le_of_ble_eq_true rfl) ?_
            have n75 : ((Int32.ofInt 0)).toInt ≤ ((Int32.ofInt 0)).toInt := by exact (have a0 := in_u i48x6; have a1 := in_u ro_32_0; have a2 := in_u i39; have a3 := in_u ((in_c 0 rfl)); have oc := oc_44_60_32; by omega)
            have n75a : 0 ≤ ((Int32.ofInt 0)).toInt := by exact (have a0 := in_u i48x6; have a1 := in_u ro_32_0; have a2 := in_u i39; have a3 := in_u ((in_c 0 rfl)); have oc := oc_44_60_32; by omega)
            have n75b : CQQ (gvD s) s52 := by exact (cqq_cg g33_0 (hF52.2.2.1 60 0 rfl) (hF52.2.2.1 60 1 rfl))
            exact gg_w (by first | exact Nat.le_add_right _ _ | exact gw2 | exact gw3 | exact gwe rfl | exact gwf rfl | exact gwg rfl | exact gwh rfl | omega) (gg_f (gf_cons rfl (gf_cons rfl (gf_cons rfl (gf_cons rfl gf_nil)))) (ct75 33 s52 (Int32.ofInt 0) (Int32.ofInt 0) hI52 (fr_tr rfl hFc33 hF52) (in_w 0 32 (in_c 0 rfl) rfl) (in_w 0 32 (in_c 0 rfl) rfl) n75 n75a n75b (m_in 33 (in_w 0 32 (in_c 0 rfl) rfl) rfl)))
          · skip
            have i55 := z_eq 0 0 c55 i52 rfl
            refine g_aload_n 59 (gd rfl) rfl rfl ?_
            refine g_dup 60 (gd rfl) rfl rfl ?_
            refine g_getI 63 (gd rfl) rfl rfl rfl (fun z60 e60 => ?_)
            have q60 : w33_60_3 = z60 := (fr_F (v33_60_3) hF52 rfl).trans e60.symm
            subst q60
            refine g_iconst 1 64 (gd rfl) rfl rfl ?_
            refine g_iadd 65 (gd rfl) rfl (fun z64 e64 => ?_)
            have i64 := in_add 1 32 e64 i39 (in_c 1 rfl) rfl rfl
            refine g_putI 68 (gd rfl) rfl rfl rfl rfl ?_
            have hI65 := inv_sF (q := 60) (j := 3) hI52 rfl (in_w 0 32 i64 rfl)
            refine g_goto 33 (gd rfl) rfl ?_
            have v33 : z64 = (sF s52 60 3 z64).2.2.1 60 3 := sF_get
            have n33 : CQQ (gvD s) (sF s52 60 3 z64) := by exact cqq_cg (cqq_cg g33_0 (hF52.2.2.1 60 0 rfl) (hF52.2.2.1 60 1 rfl)) rfl rfl
            have m33 : 33 - (z64).toInt < ((k33 : Nat) : Int) := by exact (have a0 := in_u i48x6; have a1 := in_u ro_32_0; have a2 := in_u i39; have a3 := in_u i64; have a4 := t_add e64 i39 (in_c 1 rfl) rfl; have a5 := in_u ((in_c 1 rfl)); have oc := oc_44_60_32; by omega)
            exact gg_w (by first | exact Nat.le_add_right _ _ | exact gw2 | exact gw3 | exact gwe rfl | exact gwf rfl | exact gwg rfl | exact gwh rfl | omega) (gg_f (gf_cons rfl (gf_cons rfl gf_nil)) (ih33  (sF s52 60 3 z64) z64 hI65 (fr_sF rfl (fr_tr rfl hFc33 hF52)) v33 n33 m33))
        · skip
          have i48x6 := r_le2 32 32 c48x6 (in_c 32 rfl) ro_32_1 rfl
          refine g_iconst (-1) 10 (gd rfl) rfl rfl ?_
          refine g_goto 21 (gd rfl) rfl ?_
          refine g_ireturn (gd rfl) rfl rfl (hp48 _ _ ?_)
          show GG _ _ _ _ _ _ _ _ [.int (Int32.ofInt (-1)), .ref (A 39), .ref (A 60)] _ _ _
          refine g_iconst 0 52 (gd rfl) rfl rfl ?_
          refine g_callv (X := _) (As := [.ref (A 39), .int (Int32.ofInt (-1)), .int (Int32.ofInt 0)]) (r := []) (b := A 60) (q := 60) 55 (gd rfl) rfl rfl rfl rfl rfl (ww_o rfl) (Nat.le_of_ble_eq_true rfl) (Nat.zero_le _) (Nat.zero_le _) (k_46_60_39 (by first | exact dq1 hd rfl | exact dq0 hd rfl | exact dq2 hd rfl | exact dq3 hd rfl | omega) hIc33 (in_w 0 33 (in_c 0 rfl) rfl)) (fun e u h => h) (fun v u h => ?_)
          obtain ⟨s52, hI52, hF52, z52, rfl, rfl, i52⟩ := h
          show GG _ _ _ _ _ _ _ _ [.int z52] _ _ _
          refine g_if_ne 58 71 (gd rfl) rfl rfl (fun c55 => ?_) (fun c55 => ?_)
          · skip
            have i55 := z_ne 1 1 c55 i52 rfl
            refine g_iconst 0 72 (gd rfl) rfl rfl ?_
            refine g_istore_n 73 (gd rfl) rfl (Nat.le_of_ble_eq_true rfl) ?_
            refine g_iconst 0 74 (gd rfl) rfl rfl ?_
            refine g_istore_n 75 (gd rfl) rfl (Nat.le_of_ble_eq_true rfl) ?_
            have n75 : ((Int32.ofInt 0)).toInt ≤ ((Int32.ofInt 0)).toInt := by exact (have a0 := in_u i48x6; have a1 := in_u ro_32_0; have a2 := in_u i39; have a3 := in_u ((in_c 0 rfl)); have oc := oc_44_60_32; by omega)
            have n75a : 0 ≤ ((Int32.ofInt 0)).toInt := by exact (have a0 := in_u i48x6; have a1 := in_u ro_32_0; have a2 := in_u i39; have a3 := in_u ((in_c 0 rfl)); have oc := oc_44_60_32; by omega)
            have n75b : CQQ (gvD s) s52 := by exact (cqq_cg g33_0 (hF52.2.2.1 60 0 rfl) (hF52.2.2.1 60 1 rfl))
            exact gg_w (by first | exact Nat.le_add_right _ _ | exact gw2 | exact gw3 | exact gwe rfl | exact gwf rfl | exact gwg rfl | exact gwh rfl | omega) (gg_f (gf_cons rfl (gf_cons rfl (gf_cons rfl (gf_cons rfl gf_nil)))) (ct75 33 s52 (Int32.ofInt 0) (Int32.ofInt 0) hI52 (fr_tr rfl hFc33 hF52) (in_w 0 32 (in_c 0 rfl) rfl) (in_w 0 32 (in_c 0 rfl) rfl) n75 n75a n75b (m_in 33 (in_w 0 32 (in_c 0 rfl) rfl) rfl)))
          · skip
            have i55 := z_eq 0 0 c55 i52 rfl
            refine g_aload_n 59 (gd rfl) rfl rfl ?_
            refine g_dup 60 (gd rfl) rfl rfl ?_
            refine g_getI 63 (gd rfl) rfl rfl rfl (fun z60 e60 => ?_)
            have q60 : w33_60_3 = z60 := (fr_F (v33_60_3) hF52 rfl).trans e60.symm
            subst q60
            refine g_iconst 1 64 (gd rfl) rfl rfl ?_
            refine g_iadd 65 (gd rfl) rfl (fun z64 e64 => ?_)
            have i64 := in_add 1 32 e64 i39 (in_c 1 rfl) rfl rfl
            refine g_putI 68 (gd rfl) rfl rfl rfl rfl ?_
            have hI65 := inv_sF (q := 60) (j := 3) hI52 rfl (in_w 0 32 i64 rfl)
            refine g_goto 33 (gd rfl) rfl ?_
            have v33 : z64 = (sF s52 60 3 z64).2.2.1 60 3 := sF_get
            have n33 : CQQ (gvD s) (sF s52 60 3 z64) := by exact cqq_cg (cqq_cg g33_0 (hF52.2.2.1 60 0 rfl) (hF52.2.2.1 60 1 rfl)) rfl rfl
            have m33 : 33 - (z64).toInt < ((k33 : Nat) : Int) := by exact (have a0 := in_u i48x6; have a1 := in_u ro_32_0; have a2 := in_u i39; have a3 := in_u i64; have a4 := t_add e64 i39 (in_c 1 rfl) rfl; have a5 := in_u ((in_c 1 rfl)); have oc := oc_44_60_32; by omega)
            exact gg_w (by first | exact Nat.le_add_right _ _ | exact gw2 | exact gw3 | exact gwe rfl | exact gwf rfl | exact gwg rfl | exact gwh rfl | omega) (gg_f (gf_cons rfl (gf_cons rfl gf_nil)) (ih33  (sF s52 60 3 z64) z64 hI65 (fr_sF rfl (fr_tr rfl hFc33 hF52)) v33 n33 m33))
  refine g_enter2 (k := 44) (N := 66602) (by first | exact dq1 hd rfl | exact dq0 hd rfl | exact dq2 hd rfl | exact dq3 hd rfl | omega) rfl (Nat.le_of_ble_eq_true rfl) ?_
  refine g_aload_n 1 (gd rfl) rfl rfl ?_
  refine g_callv (X := _) (As := []) (r := []) (b := A 32) (q := 32) 4 (gd rfl) rfl rfl rfl rfl rfl (ww_o rfl) (Nat.le_of_ble_eq_true rfl) (Nat.zero_le _) (Nat.zero_le _) (k_106_32 (by first | exact dq1 hd rfl | exact dq0 hd rfl | exact dq2 hd rfl | exact dq3 hd rfl | omega) hI ) (fun e u h => h) (fun v u h => ?_)
  obtain ⟨s1, hI1, hF1, n1, rfl, rfl⟩ := h
  obtain ⟨z1a, e1⟩ : ∃ w, w = s1.2.2.1 32 4 := ⟨_, rfl⟩
  have i1a := inv_F hI1 (-1) 4000 rfl e1
  rw [← (show z1a = s1.2.2.1 32 4 from e1)] at n1
  rw [← (show u_32_0 = s1.2.2.1 32 0 from fr_F (e_32_0) hF1 rfl)] at n1
  show GG _ _ _ _ _ _ _ _ [] _ _ _
  refine g_aload_n 5 (gd rfl) rfl rfl ?_
  refine g_iconst 1 6 (gd rfl) rfl rfl ?_
  refine g_aload_n 7 (gd rfl) rfl rfl ?_
  refine g_aload_n 8 (gd rfl) rfl rfl ?_
  have p8 : TQD s1 := by exact tqd_fr q_0 hF1 rfl
  have p8a : CQB (gvD s1) s1 := by rw [gvD_fr hF1 rfl]; exact cqb_cg q_1 (hF1.2.2.1 60 0 rfl) (hF1.2.2.1 60 1 rfl)
  refine g_callv (X := _) (As := [.ref (A 32)]) (r := [.int (Int32.ofInt 1), .ref (A 60)]) (b := A 60) (q := 60) 11 (gd rfl) rfl rfl rfl rfl rfl (ww_o rfl) (Nat.le_of_ble_eq_true rfl) (Nat.zero_le _) (Nat.zero_le _) (f_41_60_32 (by first | exact dq1 hd rfl | exact dq0 hd rfl | exact dq2 hd rfl | exact dq3 hd rfl | omega) hI1 p8 p8a) (fun e u h => h) (fun v u h => ?_)
  obtain ⟨s8, hI8, hF8, z8, rfl, rfl, i8, p8b, p8c⟩ := h
  show GG _ _ _ _ _ _ _ _ [.int z8, .int (Int32.ofInt 1), .ref (A 60)] _ _ _
  refine g_calls (As := [.int z8]) (r := [.int (Int32.ofInt 1), .ref (A 60)]) 14 (gd rfl) rfl rfl rfl rfl rfl (Nat.le_of_ble_eq_true rfl) (Nat.zero_le _) (Nat.zero_le _) (f_414 (by first | exact dq1 hd rfl | exact dq0 hd rfl | exact dq2 hd rfl | exact dq3 hd rfl | omega) hI8 ) (fun v u h => ?_)
  obtain ⟨z11, rfl, rfl, i11, p11⟩ := h
  show GG _ _ _ _ _ _ _ _ [.int z11, .int (Int32.ofInt 1), .ref (A 60)] _ _ _
  refine g_calls (As := [.int (Int32.ofInt 1), .int z11]) (r := [.ref (A 60)]) 17 (gd rfl) rfl rfl rfl rfl rfl (Nat.le_of_ble_eq_true rfl) (mc := 0) (ms := 0) (Nat.zero_le _) (Nat.zero_le _) (P := fun v u => _) ?_ (fun v u h => h)
  intro po14 xx14 hp14 hx14
  refine g_enter2 (k := 422) (N := 300) (by first | exact dq1 hd rfl | exact dq0 hd rfl | exact dq2 hd rfl | exact dq3 hd rfl | omega) rfl (Nat.le_of_ble_eq_true rfl) ?_
  refine g_iload_n 1 (gd rfl) rfl rfl ?_
  refine g_iload_n 2 (gd rfl) rfl rfl ?_
  refine g_cmp_lt 5 9 (gd rfl) rfl rfl (fun c14x2 => ?_) (fun c14x2 => ?_)
  · skip
    have i14x2 := r_lt2 2 32 c14x2 (in_c 1 rfl) i11 rfl
    refine g_iload_n 10 (gd rfl) rfl rfl ?_
    refine g_ireturn (gd rfl) rfl rfl (hp14 _ _ ?_)
    show GG _ _ _ _ _ _ _ _ [.int z11, .ref (A 60)] _ _ _
    refine g_putI 20 (gd rfl) rfl rfl rfl rfl ?_
    have hI17 := inv_sF (q := 60) (j := 3) hI8 rfl (in_w 0 32 i14x2 rfl)
    refine g_aload_n 21 (gd rfl) rfl rfl ?_
    refine g_iconst 0 22 (gd rfl) rfl rfl ?_
    refine g_putI 25 (gd rfl) rfl rfl rfl rfl ?_
    have hI22 := inv_sF (q := 60) (j := 7) hI17 rfl (in_w 0 32 (in_c 0 rfl) rfl)
    refine g_aload_n 26 (gd rfl) rfl rfl ?_
    refine g_getA (q2 := 61) 29 (gd rfl) rfl rfl rfl rfl ?_
    refine g_iconst 0 30 (gd rfl) rfl rfl ?_
    refine g_calls (As := [.ref (A 61), .int (Int32.ofInt 0)]) (r := []) 33 (gd rfl) rfl rfl rfl rfl rfl (Nat.le_of_ble_eq_true rfl) (Nat.zero_le _) (Nat.zero_le _) (k_fillI 61 (by first | exact dq1 hd rfl | exact dq0 hd rfl | exact dq2 hd rfl | exact dq3 hd rfl | omega) hI22 (in_c 0 rfl) (n := 32) rfl rfl rfl rfl) (fun v u h => ?_)
    obtain ⟨s30, hI30, hF30, rfl, rfl, fl30⟩ := h
    show GG _ _ _ _ _ _ _ _ [] _ _ _
    have v33 : z11 = s30.2.2.1 60 3 := fr_F (s := (sF (sF s8 60 3 z11) 60 7 (Int32.ofInt 0))) (sF_ne rfl (sF_get)) hF30 rfl
    have n33 : CQQ (gvD s) s30 := by exact (cqq_cg (show CQQ (gvD s) s8 from (by have h9 := p8b; rw [gvD_fr hF1 rfl] at h9; exact h9)) (hF30.2.2.1 60 0 rfl) (hF30.2.2.1 60 1 rfl))
    have m33 : 33 - (z11).toInt < ((40 : Nat) : Int) := by exact (have a0 := in_u ro_32_1; have a1 := in_u ro_32_0; have a2 := in_u ((in_c 0 rfl)); have a3 := in_u i14x2; have oc := oc_44_60_32; by omega)
    exact gg_w (by first | exact Nat.le_of_ble_eq_true rfl | omega) (gg_f (gf_cons rfl (gf_cons rfl gf_nil)) (ct33 40 s30 z11 hI30 (fr_tr rfl (fr_sF rfl (fr_sF rfl (fr_tr rfl (fr_tr rfl fr_rf hF1) hF8))) hF30) v33 n33 m33))
  · skip
    have i14x2 := r_le1 0 1 c14x2 i11 (in_c 1 rfl) rfl
    refine g_iload_n 6 (gd rfl) rfl rfl ?_
    refine g_goto 10 (gd rfl) rfl ?_
    refine g_ireturn (gd rfl) rfl rfl (hp14 _ _ ?_)
    show GG _ _ _ _ _ _ _ _ [.int (Int32.ofInt 1), .ref (A 60)] _ _ _
    refine g_putI 20 (gd rfl) rfl rfl rfl rfl ?_
    have hI17 := inv_sF (q := 60) (j := 3) hI8 rfl (in_w 0 32 (in_c 1 rfl) rfl)
    refine g_aload_n 21 (gd rfl) rfl rfl ?_
    refine g_iconst 0 22 (gd rfl) rfl rfl ?_
    refine g_putI 25 (gd rfl) rfl rfl rfl rfl ?_
    have hI22 := inv_sF (q := 60) (j := 7) hI17 rfl (in_w 0 32 (in_c 0 rfl) rfl)
    refine g_aload_n 26 (gd rfl) rfl rfl ?_
    refine g_getA (q2 := 61) 29 (gd rfl) rfl rfl rfl rfl ?_
    refine g_iconst 0 30 (gd rfl) rfl rfl ?_
    refine g_calls (As := [.ref (A 61), .int (Int32.ofInt 0)]) (r := []) 33 (gd rfl) rfl rfl rfl rfl rfl (Nat.le_of_ble_eq_true rfl) (Nat.zero_le _) (Nat.zero_le _) (k_fillI 61 (by first | exact dq1 hd rfl | exact dq0 hd rfl | exact dq2 hd rfl | exact dq3 hd rfl | omega) hI22 (in_c 0 rfl) (n := 32) rfl rfl rfl rfl) (fun v u h => ?_)
    obtain ⟨s30, hI30, hF30, rfl, rfl, fl30⟩ := h
    show GG _ _ _ _ _ _ _ _ [] _ _ _
    have v33 : (Int32.ofInt 1) = s30.2.2.1 60 3 := fr_F (s := (sF (sF s8 60 3 (Int32.ofInt 1)) 60 7 (Int32.ofInt 0))) (sF_ne rfl (sF_get)) hF30 rfl
    have n33 : CQQ (gvD s) s30 := by exact (cqq_cg (show CQQ (gvD s) s8 from (by have h9 := p8b; rw [gvD_fr hF1 rfl] at h9; exact h9)) (hF30.2.2.1 60 0 rfl) (hF30.2.2.1 60 1 rfl))
    have m33 : 33 - ((Int32.ofInt 1)).toInt < ((40 : Nat) : Int) := by exact (have a0 := in_u ro_32_1; have a1 := in_u ro_32_0; have a2 := in_u ((in_c 0 rfl)); have a3 := in_u ((in_c 1 rfl)); have oc := oc_44_60_32; by omega)
    exact gg_w (by first | exact Nat.le_of_ble_eq_true rfl | omega) (gg_f (gf_cons rfl (gf_cons rfl gf_nil)) (ct33 40 s30 (Int32.ofInt 1) hI30 (fr_tr rfl (fr_sF rfl (fr_sF rfl (fr_tr rfl (fr_tr rfl fr_rf hF1) hF8))) hF30) v33 n33 m33))

def fm_43_60_2 : FM := ([9, 10, 11, 12, 13, 14, 15, 61, 62, 63, 64], [], [(2, 4), (60, 0), (60, 1), (60, 2), (60, 3), (60, 7)], [])
/-- GraphHouse$Colours.colourOf -/
theorem f_43_60_2 {Z : AmZ} {A : Nat → Nat} {s : GS} {ex : va_W} {d : Nat} {X : AmX} {x2 : Int32} (hd : 384 ≤ d) (hI : Inv s) (h2 : In x2 0 31) (q_0 : TQ s) (q_1 : CQB (gvC s) s) : GC Z d 43 [.ref (A 60), .ref (A 2), .int x2] (WW Z A s ++ ex) 0 0 (fun v u => ∃ t : GS, Inv t ∧ Fr fm_43_60_2 s t ∧ ∃ z : Int32, v = some (.int z) ∧ u = WW Z A t ++ ex ∧ In z 0 31 ∧ (KPG (gvC s) s t)) X := by
  intro post xp hP hX
  obtain ⟨u_2_0, e_2_0⟩ : ∃ w, w = s.2.2.1 2 0 := ⟨_, rfl⟩
  have ro_2_0 := inv_F hI 0 4000 rfl e_2_0
  refine g_enter2 (k := 43) (N := 900) (by first | exact dq1 hd rfl | exact dq0 hd rfl | exact dq2 hd rfl | exact dq3 hd rfl | omega) rfl (Nat.le_of_ble_eq_true rfl) ?_
  refine g_aload_n 1 (gd rfl) rfl rfl ?_
  refine g_getI 4 (gd rfl) rfl rfl rfl (fun z1 e1 => ?_)
  have i1 := inv_F hI (-1) 4000 rfl e1
  refine g_aload_n 5 (gd rfl) rfl rfl ?_
  refine g_getI 8 (gd rfl) rfl rfl rfl (fun z5 e5 => ?_)
  have q5 : u_2_0 = z5 := (e_2_0).trans e5.symm
  subst q5
  refine g_cmp_eq 11 24 (gd rfl) rfl rfl (fun c8 => ?_) (fun c8 => ?_)
  · skip
    have i8 := r_eq1 0 4000 c8 i1 ro_2_0 rfl
    refine g_aload_n 25 (gd rfl) rfl rfl ?_
    refine g_getA (q2 := 64) 28 (gd rfl) rfl rfl rfl rfl ?_
    refine g_iload_n 29 (gd rfl) rfl rfl ?_
    refine g_iaload 30 (gd rfl) rfl (n := 32) rfl (in_ix h2 rfl) (fun z29 e29 => ?_)
    have i29 := inv_I hI (n := 32) (t := 0) 0 31 rfl (in_ix h2 rfl) rfl e29
    have n30 : KPG (gvC s) s s := by exact Or.inr ⟨rfl, rfl⟩
    exact g_ireturn (gd rfl) rfl rfl (hP _ _ ⟨s, hI, fr_rf, z29, rfl, rfl, in_w 0 31 i29 rfl, n30⟩)
  · skip
    refine g_aload_n 12 (gd rfl) rfl rfl ?_
    refine g_aload_n 13 (gd rfl) rfl rfl ?_
    refine g_getI 16 (gd rfl) rfl rfl rfl (fun z13 e13 => ?_)
    have q13 : u_2_0 = z13 := (e_2_0).trans e13.symm
    subst q13
    refine g_putI 19 (gd rfl) rfl rfl rfl rfl ?_
    have hI16 := inv_sF (q := 60) (j := 2) hI rfl (in_w (-1) 4000 ro_2_0 rfl)
    refine g_aload_n 20 (gd rfl) rfl rfl ?_
    refine g_aload_n 21 (gd rfl) rfl rfl ?_
    have p21 : TQ (sF s 60 2 u_2_0) := by exact tq_fr q_0 (show Fr ([], [], [(60, 2)], []) s (sF s 60 2 u_2_0) from (fr_sF rfl fr_rf)) rfl
    have p21a : CQB (gvC (sF s 60 2 u_2_0)) (sF s 60 2 u_2_0) := by rw [gvC_cg (show Fr ([], [], [(60, 2)], []) s (sF s 60 2 u_2_0) from (fr_sF rfl fr_rf)) rfl]; exact cqb_cg q_1 rfl rfl
    refine g_callv (X := _) (As := [.ref (A 2)]) (r := []) (b := A 60) (q := 60) 24 (gd rfl) rfl rfl rfl rfl rfl (ww_o rfl) (Nat.le_of_ble_eq_true rfl) (Nat.zero_le _) (Nat.zero_le _) (f_44_60_2 (by first | exact dq1 hd rfl | exact dq0 hd rfl | exact dq2 hd rfl | exact dq3 hd rfl | omega) hI16 p21 p21a) (fun e u h => h) (fun v u h => ?_)
    obtain ⟨s21, hI21, hF21, rfl, rfl, p21b⟩ := h
    show GG _ _ _ _ _ _ _ _ [] _ _ _
    refine g_aload_n 25 (gd rfl) rfl rfl ?_
    refine g_getA (q2 := 64) 28 (gd rfl) rfl rfl rfl rfl ?_
    refine g_iload_n 29 (gd rfl) rfl rfl ?_
    refine g_iaload 30 (gd rfl) rfl (n := 32) rfl (in_ix h2 rfl) (fun z29 e29 => ?_)
    have i29 := inv_I hI21 (n := 32) (t := 0) 0 31 rfl (in_ix h2 rfl) rfl e29
    have n30 : KPG (gvC s) s s21 := by exact Or.inl (by have h9 := p21b; rw [gvC_cg (show Fr ([], [], [(60, 2)], []) s (sF s 60 2 u_2_0) from fr_sF rfl fr_rf) rfl] at h9; exact h9)
    exact g_ireturn (gd rfl) rfl rfl (hP _ _ ⟨s21, hI21, (fr_tr rfl (fr_sF rfl fr_rf) hF21), z29, rfl, rfl, in_w 0 31 i29 rfl, n30⟩)

def fm_43_60_32 : FM := ([39, 40, 41, 42, 43, 44, 45, 61, 62, 63, 64], [], [(32, 4), (60, 0), (60, 1), (60, 2), (60, 3), (60, 7)], [])
/-- GraphHouse$Colours.colourOf -/
theorem f_43_60_32 {Z : AmZ} {A : Nat → Nat} {s : GS} {ex : va_W} {d : Nat} {X : AmX} {x2 : Int32} (hd : 384 ≤ d) (hI : Inv s) (h2 : In x2 0 31) (q_0 : TQD s) (q_1 : CQB (gvD s) s) : GC Z d 43 [.ref (A 60), .ref (A 32), .int x2] (WW Z A s ++ ex) 0 0 (fun v u => ∃ t : GS, Inv t ∧ Fr fm_43_60_32 s t ∧ ∃ z : Int32, v = some (.int z) ∧ u = WW Z A t ++ ex ∧ In z 0 31 ∧ (KPG (gvD s) s t)) X := by
  intro post xp hP hX
  obtain ⟨u_32_0, e_32_0⟩ : ∃ w, w = s.2.2.1 32 0 := ⟨_, rfl⟩
  have ro_32_0 := inv_F hI 0 4000 rfl e_32_0
  refine g_enter2 (k := 43) (N := 900) (by first | exact dq1 hd rfl | exact dq0 hd rfl | exact dq2 hd rfl | exact dq3 hd rfl | omega) rfl (Nat.le_of_ble_eq_true rfl) ?_
  refine g_aload_n 1 (gd rfl) rfl rfl ?_
  refine g_getI 4 (gd rfl) rfl rfl rfl (fun z1 e1 => ?_)
  have i1 := inv_F hI (-1) 4000 rfl e1
  refine g_aload_n 5 (gd rfl) rfl rfl ?_
  refine g_getI 8 (gd rfl) rfl rfl rfl (fun z5 e5 => ?_)
  have q5 : u_32_0 = z5 := (e_32_0).trans e5.symm
  subst q5
  refine g_cmp_eq 11 24 (gd rfl) rfl rfl (fun c8 => ?_) (fun c8 => ?_)
  · skip
    have i8 := r_eq1 0 4000 c8 i1 ro_32_0 rfl
    refine g_aload_n 25 (gd rfl) rfl rfl ?_
    refine g_getA (q2 := 64) 28 (gd rfl) rfl rfl rfl rfl ?_
    refine g_iload_n 29 (gd rfl) rfl rfl ?_
    refine g_iaload 30 (gd rfl) rfl (n := 32) rfl (in_ix h2 rfl) (fun z29 e29 => ?_)
    have i29 := inv_I hI (n := 32) (t := 0) 0 31 rfl (in_ix h2 rfl) rfl e29
    have n30 : KPG (gvD s) s s := by exact Or.inr ⟨rfl, rfl⟩
    exact g_ireturn (gd rfl) rfl rfl (hP _ _ ⟨s, hI, fr_rf, z29, rfl, rfl, in_w 0 31 i29 rfl, n30⟩)
  · skip
    refine g_aload_n 12 (gd rfl) rfl rfl ?_
    refine g_aload_n 13 (gd rfl) rfl rfl ?_
    refine g_getI 16 (gd rfl) rfl rfl rfl (fun z13 e13 => ?_)
    have q13 : u_32_0 = z13 := (e_32_0).trans e13.symm
    subst q13
    refine g_putI 19 (gd rfl) rfl rfl rfl rfl ?_
    have hI16 := inv_sF (q := 60) (j := 2) hI rfl (in_w (-1) 4000 ro_32_0 rfl)
    refine g_aload_n 20 (gd rfl) rfl rfl ?_
    refine g_aload_n 21 (gd rfl) rfl rfl ?_
    have p21 : TQD (sF s 60 2 u_32_0) := by exact tqd_fr q_0 (show Fr ([], [], [(60, 2)], []) s (sF s 60 2 u_32_0) from (fr_sF rfl fr_rf)) rfl
    have p21a : CQB (gvD (sF s 60 2 u_32_0)) (sF s 60 2 u_32_0) := by rw [gvD_fr (show Fr ([], [], [(60, 2)], []) s (sF s 60 2 u_32_0) from (fr_sF rfl fr_rf)) rfl]; exact cqb_cg q_1 rfl rfl
    refine g_callv (X := _) (As := [.ref (A 32)]) (r := []) (b := A 60) (q := 60) 24 (gd rfl) rfl rfl rfl rfl rfl (ww_o rfl) (Nat.le_of_ble_eq_true rfl) (Nat.zero_le _) (Nat.zero_le _) (f_44_60_32 (by first | exact dq1 hd rfl | exact dq0 hd rfl | exact dq2 hd rfl | exact dq3 hd rfl | omega) hI16 p21 p21a) (fun e u h => h) (fun v u h => ?_)
    obtain ⟨s21, hI21, hF21, rfl, rfl, p21b⟩ := h
    show GG _ _ _ _ _ _ _ _ [] _ _ _
    refine g_aload_n 25 (gd rfl) rfl rfl ?_
    refine g_getA (q2 := 64) 28 (gd rfl) rfl rfl rfl rfl ?_
    refine g_iload_n 29 (gd rfl) rfl rfl ?_
    refine g_iaload 30 (gd rfl) rfl (n := 32) rfl (in_ix h2 rfl) (fun z29 e29 => ?_)
    have i29 := inv_I hI21 (n := 32) (t := 0) 0 31 rfl (in_ix h2 rfl) rfl e29
    have n30 : KPG (gvD s) s s21 := by exact Or.inl (by have h9 := p21b; rw [gvD_fr (show Fr ([], [], [(60, 2)], []) s (sF s 60 2 u_32_0) from fr_sF rfl fr_rf) rfl] at h9; exact h9)
    exact g_ireturn (gd rfl) rfl rfl (hP _ _ ⟨s21, hI21, (fr_tr rfl (fr_sF rfl fr_rf) hF21), z29, rfl, rfl, in_w 0 31 i29 rfl, n30⟩)

theorem oc_240_0 : (Int32.ofInt (-1)).toInt = (-1) ∧ (Int32.ofInt 0).toInt = 0 ∧ (Int32.ofInt 1).toInt = 1 := ⟨rfl, rfl, rfl⟩
/-- GraphHouse.colour -/
theorem f_240_0 {Z : AmZ} {A : Nat → Nat} {s : GS} {ex : va_W} {d : Nat} {x1 : Int32} (hd : 385 ≤ d) (hI : Inv s) (q_0 : TQ s) (q_1 : TQD s) (q_2 : CQC s) : GC Z d 240 [.ref (A 0), .int x1] (WW Z A s ++ ex) 3 18 (fun v u => ∃ t : GS, Inv t ∧ Fr fm_240_0 s t ∧ ∃ z : Int32, v = some (.int z) ∧ u = WW Z A t ++ ex ∧ In z 0 31 ∧ ((0 ≤ x1.toInt ∧ x1.toInt < (shC s).2.2.2.2.2.2.1) ∧ True) ∧ (KPG (shC s) s t)) (gEx Z A ex ([], [], [], []) s (¬ (0 ≤ x1.toInt ∧ x1.toInt < (shC s).2.2.2.2.2.2.1)) (False)) := by
  intro post xp hP hX
  obtain ⟨u_0_2, e_0_2⟩ : ∃ w, w = s.2.2.1 0 2 := ⟨_, rfl⟩
  have ro_0_2 := inv_F hI (-1) 4000 rfl e_0_2
  obtain ⟨u_2_0, e_2_0⟩ : ∃ w, w = s.2.2.1 2 0 := ⟨_, rfl⟩
  have ro_2_0 := inv_F hI 0 4000 rfl e_2_0
  obtain ⟨u_2_1, e_2_1⟩ : ∃ w, w = s.2.2.1 2 1 := ⟨_, rfl⟩
  have ro_2_1 := inv_F hI 0 32 rfl e_2_1
  obtain ⟨u_32_0, e_32_0⟩ : ∃ w, w = s.2.2.1 32 0 := ⟨_, rfl⟩
  have ro_32_0 := inv_F hI 0 4000 rfl e_32_0
  obtain ⟨u_32_1, e_32_1⟩ : ∃ w, w = s.2.2.1 32 1 := ⟨_, rfl⟩
  have ro_32_1 := inv_F hI 0 32 rfl e_32_1
  refine g_enter2 (k := 240) (N := 900) (by first | exact dq1 hd rfl | exact dq0 hd rfl | exact dq2 hd rfl | exact dq3 hd rfl | omega) rfl (Nat.le_of_ble_eq_true rfl) ?_
  refine g_aload_n 1 (gd rfl) rfl rfl ?_
  refine g_callv (X := _) (As := []) (r := []) (b := A 0) (q := 0) 4 (gd rfl) rfl rfl rfl rfl rfl (ww_o rfl) (Nat.le_of_ble_eq_true rfl) (mc := 0) (ms := 0) (Nat.zero_le _) (Nat.zero_le _) (P := fun v u => _) ?_ (fun e u h => h) (fun v u h => h)
  intro po1 xx1 hp1 hx1
  refine g_enter2 (k := 259) (N := 300) (by first | exact dq1 hd rfl | exact dq0 hd rfl | exact dq2 hd rfl | exact dq3 hd rfl | omega) rfl (Nat.le_of_ble_eq_true rfl) ?_
  refine g_aload_n 1 (gd rfl) rfl rfl ?_
  refine g_getI 4 (gd rfl) rfl rfl rfl (fun z1x1 e1x1 => ?_)
  have q1x1 : u_0_2 = z1x1 := (e_0_2).trans e1x1.symm
  subst q1x1
  refine g_iconst (-1) 5 (gd rfl) rfl rfl ?_
  refine g_cmp_ne 8 18 (gd rfl) rfl rfl (fun c1x5 => ?_) (fun c1x5 => ?_)
  · skip
    have i1x5 := r_ne1 0 4000 c1x5 ro_0_2 (in_c (-1) rfl) rfl
    refine g_aload_n 19 (gd rfl) rfl rfl ?_
    refine g_getA (q2 := 32) 22 (gd rfl) rfl rfl rfl rfl ?_
    refine g_areturn (gd rfl) rfl (hp1 _ _ ?_)
    show GG _ _ _ _ _ _ _ _ [.ref (A 32)] _ _ _
    refine g_astore_n 5 (gd rfl) rfl (Nat.le_of_ble_eq_true rfl) ?_
    refine g_aload_n 6 (gd rfl) rfl rfl ?_
    refine g_iload_n 7 (gd rfl) rfl rfl ?_
    refine g_callv (X := _) (As := [.int x1]) (r := []) (b := A 32) (q := 32) 10 (gd rfl) rfl rfl rfl rfl rfl (ww_o rfl) (Nat.le_of_ble_eq_true rfl) (mc := 0) (ms := 0) (Nat.zero_le _) (Nat.zero_le _) (P := fun v u => _) ?_ (fun e u h => h) (fun v u h => h)
    intro po7 xx7 hp7 hx7
    refine g_enter2 (k := 94) (N := 300) (by first | exact dq1 hd rfl | exact dq0 hd rfl | exact dq2 hd rfl | exact dq3 hd rfl | omega) rfl (Nat.le_of_ble_eq_true rfl) ?_
    refine g_iload_n 1 (gd rfl) rfl rfl ?_
    refine g_if_lt 4 16 (gd rfl) rfl rfl (fun c7x1 => ?_) (fun c7x1 => ?_)
    · skip
      have i7x1 := z_lt (-2147483648) (-1) c7x1 (i_rng x1) rfl
      refine g_iconst 0 17 (gd rfl) rfl rfl ?_
      refine g_ireturn (gd rfl) rfl (nb01 (in_w 0 1 (in_c 0 rfl) rfl)) (hp7 _ _ ?_)
      show GG _ _ _ _ _ _ _ _ [.int (Int32.ofInt 0)] _ _ _
      refine g_thr (E := am_IA) (y := yX11_allow) 13 (gd rfl) rfl rfl (Or.inl ⟨rfl, rfl, rfl⟩) (by first | exact dq1 hd rfl | exact dq0 hd rfl | exact dq2 hd rfl | exact dq3 hd rfl | omega) (Nat.le_of_ble_eq_true rfl) (Nat.le_of_ble_eq_true rfl) (Nat.le_of_ble_eq_true rfl) (fun c10 => ?_) (fun c10 => ?_)
      · skip
        exact zn_ne c10 (in_c 0 rfl) rfl
      · skip
        have n10 : ¬ (0 ≤ x1.toInt ∧ x1.toInt < (shC s).2.2.2.2.2.2.1) := by first | (rw [shC_n (by rw [← e1x1]; exact c1x5)]; show ¬ (0 ≤ x1.toInt ∧ x1.toInt < (s.2.2.1 2 1).toInt); rw [← e_2_1]; exact (have a0 := in_u ro_32_1; have a1 := in_u ro_32_0; have a2 := in_u ro_2_1; have a3 := in_u ro_2_0; have a4 := in_u i1x5; have a5 := in_u i7x1; have oc := oc_240_0; by omega)) | (rw [shC_d (by rw [← e1x1]; exact c1x5)]; show ¬ (0 ≤ x1.toInt ∧ x1.toInt < (s.2.2.1 32 1).toInt); rw [← e_32_1]; exact (have a0 := in_u ro_32_1; have a1 := in_u ro_32_0; have a2 := in_u ro_2_1; have a3 := in_u ro_2_0; have a4 := in_u i1x5; have a5 := in_u i7x1; have oc := oc_240_0; by omega))
        exact (hX _ _ ⟨Or.inl ⟨rfl, n10⟩, s, hI, fr_rf, rfl⟩)
    · skip
      have i7x1 := z_ge 0 2147483647 c7x1 (i_rng x1) rfl
      refine g_iload_n 5 (gd rfl) rfl rfl ?_
      refine g_aload_n 6 (gd rfl) rfl rfl ?_
      refine g_getI 9 (gd rfl) rfl rfl rfl (fun z7x6 e7x6 => ?_)
      have q7x6 : u_32_1 = z7x6 := (e_32_1).trans e7x6.symm
      subst q7x6
      refine g_cmp_ge 12 16 (gd rfl) rfl rfl (fun c7x9 => ?_) (fun c7x9 => ?_)
      · skip
        refine g_iconst 0 17 (gd rfl) rfl rfl ?_
        refine g_ireturn (gd rfl) rfl (nb01 (in_w 0 1 (in_c 0 rfl) rfl)) (hp7 _ _ ?_)
        show GG _ _ _ _ _ _ _ _ [.int (Int32.ofInt 0)] _ _ _
        refine g_thr (E := am_IA) (y := yX11_allow) 13 (gd rfl) rfl rfl (Or.inl ⟨rfl, rfl, rfl⟩) (by first | exact dq1 hd rfl | exact dq0 hd rfl | exact dq2 hd rfl | exact dq3 hd rfl | omega) (Nat.le_of_ble_eq_true rfl) (Nat.le_of_ble_eq_true rfl) (Nat.le_of_ble_eq_true rfl) (fun c10 => ?_) (fun c10 => ?_)
        · skip
          exact zn_ne c10 (in_c 0 rfl) rfl
        · skip
          have n10 : ¬ (0 ≤ x1.toInt ∧ x1.toInt < (shC s).2.2.2.2.2.2.1) := by first | (rw [shC_n (by rw [← e1x1]; exact c1x5)]; show ¬ (0 ≤ x1.toInt ∧ x1.toInt < (s.2.2.1 2 1).toInt); rw [← e_2_1]; exact (have a0 := in_u ro_32_1; have a1 := in_u ro_32_0; have a2 := in_u ro_2_1; have a3 := in_u ro_2_0; have a4 := in_u i1x5; have a5 := in_u i7x1; have oc := oc_240_0; by omega)) | (rw [shC_d (by rw [← e1x1]; exact c1x5)]; show ¬ (0 ≤ x1.toInt ∧ x1.toInt < (s.2.2.1 32 1).toInt); rw [← e_32_1]; exact (have a0 := in_u ro_32_1; have a1 := in_u ro_32_0; have a2 := in_u ro_2_1; have a3 := in_u ro_2_0; have a4 := in_u i1x5; have a5 := in_u i7x1; have oc := oc_240_0; by omega))
          exact (hX _ _ ⟨Or.inl ⟨rfl, n10⟩, s, hI, fr_rf, rfl⟩)
      · skip
        have i7x9 := r_lt1 0 31 c7x9 i7x1 ro_32_1 rfl
        have i7x9a := r_lt2 1 32 c7x9 i7x1 ro_32_1 rfl
        refine g_iconst 1 13 (gd rfl) rfl rfl ?_
        refine g_goto 17 (gd rfl) rfl ?_
        refine g_ireturn (gd rfl) rfl (nb01 (in_w 0 1 (in_c 1 rfl) rfl)) (hp7 _ _ ?_)
        show GG _ _ _ _ _ _ _ _ [.int (Int32.ofInt 1)] _ _ _
        refine g_thr (E := am_IA) (y := yX11_allow) 13 (gd rfl) rfl rfl (Or.inl ⟨rfl, rfl, rfl⟩) (by first | exact dq1 hd rfl | exact dq0 hd rfl | exact dq2 hd rfl | exact dq3 hd rfl | omega) (Nat.le_of_ble_eq_true rfl) (Nat.le_of_ble_eq_true rfl) (Nat.le_of_ble_eq_true rfl) (fun c10 => ?_) (fun c10 => ?_)
        · skip
          refine g_aload_n 14 (gd rfl) rfl rfl ?_
          refine g_getA (q2 := 60) 17 (gd rfl) rfl rfl rfl rfl ?_
          refine g_aload_n 18 (gd rfl) rfl rfl ?_
          refine g_iload_n 19 (gd rfl) rfl rfl ?_
          have p19 : TQD s := by first | exact q_0 | exact q_1
          have p19a : CQB (gvD s) s := by first | (rw [← shC_n (by rw [← e1x1]; exact c1x5)]; exact q_2) | (rw [← shC_d (by rw [← e1x1]; exact c1x5)]; exact q_2)
          refine g_callv (X := _) (As := [.ref (A 32), .int x1]) (r := []) (b := A 60) (q := 60) 22 (gd rfl) rfl rfl rfl rfl rfl (ww_o rfl) (Nat.le_of_ble_eq_true rfl) (Nat.zero_le _) (Nat.zero_le _) (f_43_60_32 (by first | exact dq1 hd rfl | exact dq0 hd rfl | exact dq2 hd rfl | exact dq3 hd rfl | omega) hI (in_w 0 31 i7x9 rfl) p19 p19a) (fun e u h => h) (fun v u h => ?_)
          obtain ⟨s19, hI19, hF19, z19, rfl, rfl, i19, p19b⟩ := h
          show GG _ _ _ _ _ _ _ _ [.int z19] _ _ _
          have n22 : (0 ≤ x1.toInt ∧ x1.toInt < (shC s).2.2.2.2.2.2.1) ∧ True := by first | (rw [shC_n (by rw [← e1x1]; exact c1x5)]; exact ⟨⟨by exact (have a0 := in_u i7x9; have a1 := in_u i7x9a; have a2 := in_u ro_32_0; have a3 := in_u ro_2_1; have a4 := in_u ro_2_0; have a5 := in_u i1x5; have oc := oc_240_0; by omega), by show x1.toInt < (s.2.2.1 2 1).toInt; rw [← e_2_1]; exact (have a0 := in_u i7x9; have a1 := in_u i7x9a; have a2 := in_u ro_32_0; have a3 := in_u ro_2_1; have a4 := in_u ro_2_0; have a5 := in_u i1x5; have oc := oc_240_0; by omega)⟩, trivial⟩) | (rw [shC_d (by rw [← e1x1]; exact c1x5)]; exact ⟨⟨by exact (have a0 := in_u i7x9; have a1 := in_u i7x9a; have a2 := in_u ro_32_0; have a3 := in_u ro_2_1; have a4 := in_u ro_2_0; have a5 := in_u i1x5; have oc := oc_240_0; by omega), by show x1.toInt < (s.2.2.1 32 1).toInt; rw [← e_32_1]; exact (have a0 := in_u i7x9; have a1 := in_u i7x9a; have a2 := in_u ro_32_0; have a3 := in_u ro_2_1; have a4 := in_u ro_2_0; have a5 := in_u i1x5; have oc := oc_240_0; by omega)⟩, trivial⟩)
          have n22a : KPG (shC s) s s19 := by first | (rw [shC_n (by rw [← e1x1]; exact c1x5)]; exact p19b) | (rw [shC_d (by rw [← e1x1]; exact c1x5)]; exact p19b)
          exact g_ireturn (gd rfl) rfl rfl (hP _ _ ⟨s19, hI19, (fr_tr rfl fr_rf hF19), z19, rfl, rfl, in_w 0 31 i19 rfl, n22, n22a⟩)
        · skip
          exact zn_eq c10 (in_c 1 rfl) rfl
  · skip
    have i1x5 := r_eq1 (-1) (-1) c1x5 ro_0_2 (in_c (-1) rfl) rfl
    refine g_aload_n 9 (gd rfl) rfl rfl ?_
    refine g_getA (q2 := 1) 12 (gd rfl) rfl rfl rfl rfl ?_
    refine g_getA (q2 := 2) 15 (gd rfl) rfl rfl rfl rfl ?_
    refine g_goto 22 (gd rfl) rfl ?_
    refine g_areturn (gd rfl) rfl (hp1 _ _ ?_)
    show GG _ _ _ _ _ _ _ _ [.ref (A 2)] _ _ _
    refine g_astore_n 5 (gd rfl) rfl (Nat.le_of_ble_eq_true rfl) ?_
    refine g_aload_n 6 (gd rfl) rfl rfl ?_
    refine g_iload_n 7 (gd rfl) rfl rfl ?_
    refine g_callv (X := _) (As := [.int x1]) (r := []) (b := A 2) (q := 2) 10 (gd rfl) rfl rfl rfl rfl rfl (ww_o rfl) (Nat.le_of_ble_eq_true rfl) (mc := 0) (ms := 0) (Nat.zero_le _) (Nat.zero_le _) (P := fun v u => _) ?_ (fun e u h => h) (fun v u h => h)
    intro po7 xx7 hp7 hx7
    refine g_enter2 (k := 94) (N := 300) (by first | exact dq1 hd rfl | exact dq0 hd rfl | exact dq2 hd rfl | exact dq3 hd rfl | omega) rfl (Nat.le_of_ble_eq_true rfl) ?_
    refine g_iload_n 1 (gd rfl) rfl rfl ?_
    refine g_if_lt 4 16 (gd rfl) rfl rfl (fun c7x1 => ?_) (fun c7x1 => ?_)
    · skip
      have i7x1 := z_lt (-2147483648) (-1) c7x1 (i_rng x1) rfl
      refine g_iconst 0 17 (gd rfl) rfl rfl ?_
      refine g_ireturn (gd rfl) rfl (nb01 (in_w 0 1 (in_c 0 rfl) rfl)) (hp7 _ _ ?_)
      show GG _ _ _ _ _ _ _ _ [.int (Int32.ofInt 0)] _ _ _
      refine g_thr (E := am_IA) (y := yX11_allow) 13 (gd rfl) rfl rfl (Or.inl ⟨rfl, rfl, rfl⟩) (by first | exact dq1 hd rfl | exact dq0 hd rfl | exact dq2 hd rfl | exact dq3 hd rfl | omega) (Nat.le_of_ble_eq_true rfl) (Nat.le_of_ble_eq_true rfl) (Nat.le_of_ble_eq_true rfl) (fun c10 => ?_) (fun c10 => ?_)
      · skip
        exact zn_ne c10 (in_c 0 rfl) rfl
      · skip
        have n10 : ¬ (0 ≤ x1.toInt ∧ x1.toInt < (shC s).2.2.2.2.2.2.1) := by first | (rw [shC_n (by rw [← e1x1]; exact c1x5)]; show ¬ (0 ≤ x1.toInt ∧ x1.toInt < (s.2.2.1 2 1).toInt); rw [← e_2_1]; exact (have a0 := in_u ro_32_1; have a1 := in_u ro_32_0; have a2 := in_u ro_2_1; have a3 := in_u ro_2_0; have a4 := in_u i1x5; have a5 := in_u i7x1; have oc := oc_240_0; by omega)) | (rw [shC_d (by rw [← e1x1]; exact c1x5)]; show ¬ (0 ≤ x1.toInt ∧ x1.toInt < (s.2.2.1 32 1).toInt); rw [← e_32_1]; exact (have a0 := in_u ro_32_1; have a1 := in_u ro_32_0; have a2 := in_u ro_2_1; have a3 := in_u ro_2_0; have a4 := in_u i1x5; have a5 := in_u i7x1; have oc := oc_240_0; by omega))
        exact (hX _ _ ⟨Or.inl ⟨rfl, n10⟩, s, hI, fr_rf, rfl⟩)
    · skip
      have i7x1 := z_ge 0 2147483647 c7x1 (i_rng x1) rfl
      refine g_iload_n 5 (gd rfl) rfl rfl ?_
      refine g_aload_n 6 (gd rfl) rfl rfl ?_
      refine g_getI 9 (gd rfl) rfl rfl rfl (fun z7x6 e7x6 => ?_)
      have q7x6 : u_2_1 = z7x6 := (e_2_1).trans e7x6.symm
      subst q7x6
      refine g_cmp_ge 12 16 (gd rfl) rfl rfl (fun c7x9 => ?_) (fun c7x9 => ?_)
      · skip
        refine g_iconst 0 17 (gd rfl) rfl rfl ?_
        refine g_ireturn (gd rfl) rfl (nb01 (in_w 0 1 (in_c 0 rfl) rfl)) (hp7 _ _ ?_)
        show GG _ _ _ _ _ _ _ _ [.int (Int32.ofInt 0)] _ _ _
        refine g_thr (E := am_IA) (y := yX11_allow) 13 (gd rfl) rfl rfl (Or.inl ⟨rfl, rfl, rfl⟩) (by first | exact dq1 hd rfl | exact dq0 hd rfl | exact dq2 hd rfl | exact dq3 hd rfl | omega) (Nat.le_of_ble_eq_true rfl) (Nat.le_of_ble_eq_true rfl) (Nat.le_of_ble_eq_true rfl) (fun c10 => ?_) (fun c10 => ?_)
        · skip
          exact zn_ne c10 (in_c 0 rfl) rfl
        · skip
          have n10 : ¬ (0 ≤ x1.toInt ∧ x1.toInt < (shC s).2.2.2.2.2.2.1) := by first | (rw [shC_n (by rw [← e1x1]; exact c1x5)]; show ¬ (0 ≤ x1.toInt ∧ x1.toInt < (s.2.2.1 2 1).toInt); rw [← e_2_1]; exact (have a0 := in_u ro_32_1; have a1 := in_u ro_32_0; have a2 := in_u ro_2_1; have a3 := in_u ro_2_0; have a4 := in_u i1x5; have a5 := in_u i7x1; have oc := oc_240_0; by omega)) | (rw [shC_d (by rw [← e1x1]; exact c1x5)]; show ¬ (0 ≤ x1.toInt ∧ x1.toInt < (s.2.2.1 32 1).toInt); rw [← e_32_1]; exact (have a0 := in_u ro_32_1; have a1 := in_u ro_32_0; have a2 := in_u ro_2_1; have a3 := in_u ro_2_0; have a4 := in_u i1x5; have a5 := in_u i7x1; have oc := oc_240_0; by omega))
          exact (hX _ _ ⟨Or.inl ⟨rfl, n10⟩, s, hI, fr_rf, rfl⟩)
      · skip
        have i7x9 := r_lt1 0 31 c7x9 i7x1 ro_2_1 rfl
        have i7x9a := r_lt2 1 32 c7x9 i7x1 ro_2_1 rfl
        refine g_iconst 1 13 (gd rfl) rfl rfl ?_
        refine g_goto 17 (gd rfl) rfl ?_
        refine g_ireturn (gd rfl) rfl (nb01 (in_w 0 1 (in_c 1 rfl) rfl)) (hp7 _ _ ?_)
        show GG _ _ _ _ _ _ _ _ [.int (Int32.ofInt 1)] _ _ _
        refine g_thr (E := am_IA) (y := yX11_allow) 13 (gd rfl) rfl rfl (Or.inl ⟨rfl, rfl, rfl⟩) (by first | exact dq1 hd rfl | exact dq0 hd rfl | exact dq2 hd rfl | exact dq3 hd rfl | omega) (Nat.le_of_ble_eq_true rfl) (Nat.le_of_ble_eq_true rfl) (Nat.le_of_ble_eq_true rfl) (fun c10 => ?_) (fun c10 => ?_)
        · skip
          refine g_aload_n 14 (gd rfl) rfl rfl ?_
          refine g_getA (q2 := 60) 17 (gd rfl) rfl rfl rfl rfl ?_
          refine g_aload_n 18 (gd rfl) rfl rfl ?_
          refine g_iload_n 19 (gd rfl) rfl rfl ?_
          have p19 : TQ s := by first | exact q_0 | exact q_1
          have p19a : CQB (gvC s) s := by first | (rw [← shC_n (by rw [← e1x1]; exact c1x5)]; exact q_2) | (rw [← shC_d (by rw [← e1x1]; exact c1x5)]; exact q_2)
          refine g_callv (X := _) (As := [.ref (A 2), .int x1]) (r := []) (b := A 60) (q := 60) 22 (gd rfl) rfl rfl rfl rfl rfl (ww_o rfl) (Nat.le_of_ble_eq_true rfl) (Nat.zero_le _) (Nat.zero_le _) (f_43_60_2 (by first | exact dq1 hd rfl | exact dq0 hd rfl | exact dq2 hd rfl | exact dq3 hd rfl | omega) hI (in_w 0 31 i7x9 rfl) p19 p19a) (fun e u h => h) (fun v u h => ?_)
          obtain ⟨s19, hI19, hF19, z19, rfl, rfl, i19, p19b⟩ := h
          show GG _ _ _ _ _ _ _ _ [.int z19] _ _ _
          have n22 : (0 ≤ x1.toInt ∧ x1.toInt < (shC s).2.2.2.2.2.2.1) ∧ True := by first | (rw [shC_n (by rw [← e1x1]; exact c1x5)]; exact ⟨⟨by exact (have a0 := in_u i7x9; have a1 := in_u ro_32_1; have a2 := in_u ro_32_0; have a3 := in_u i7x9a; have a4 := in_u ro_2_0; have a5 := in_u i1x5; have oc := oc_240_0; by omega), by show x1.toInt < (s.2.2.1 2 1).toInt; rw [← e_2_1]; exact (have a0 := in_u i7x9; have a1 := in_u ro_32_1; have a2 := in_u ro_32_0; have a3 := in_u i7x9a; have a4 := in_u ro_2_0; have a5 := in_u i1x5; have oc := oc_240_0; by omega)⟩, trivial⟩) | (rw [shC_d (by rw [← e1x1]; exact c1x5)]; exact ⟨⟨by exact (have a0 := in_u i7x9; have a1 := in_u ro_32_1; have a2 := in_u ro_32_0; have a3 := in_u i7x9a; have a4 := in_u ro_2_0; have a5 := in_u i1x5; have oc := oc_240_0; by omega), by show x1.toInt < (s.2.2.1 32 1).toInt; rw [← e_32_1]; exact (have a0 := in_u i7x9; have a1 := in_u ro_32_1; have a2 := in_u ro_32_0; have a3 := in_u i7x9a; have a4 := in_u ro_2_0; have a5 := in_u i1x5; have oc := oc_240_0; by omega)⟩, trivial⟩)
          have n22a : KPG (shC s) s s19 := by first | (rw [shC_n (by rw [← e1x1]; exact c1x5)]; exact p19b) | (rw [shC_d (by rw [← e1x1]; exact c1x5)]; exact p19b)
          exact g_ireturn (gd rfl) rfl rfl (hP _ _ ⟨s19, hI19, (fr_tr rfl fr_rf hF19), z19, rfl, rfl, in_w 0 31 i19 rfl, n22, n22a⟩)
        · skip
          exact zn_eq c10 (in_c 1 rfl) rfl
