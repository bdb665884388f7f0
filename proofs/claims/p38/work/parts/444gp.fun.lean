section
/-! FUNCTIONAL CONTRACTS, by fgen.py -/
theorem oc_110_86_32 : (Int32.ofInt (-1)).toInt = (-1) ∧ (Int32.ofInt 0).toInt = 0 ∧ (Int32.ofInt 1).toInt = 1 ∧ (Int64.ofInt 0).toInt = 0 ∧ (Int64.ofInt 1).toInt = 1 ∧ (Int64.ofInt 85).toInt = 85 ∧ (Int64.ofInt 100).toInt = 100 := ⟨rfl, rfl, rfl, rfl, rfl, rfl, rfl⟩
set_option maxHeartbeats 4000000 in
/-- GraphHouse$Groups.shareOut -/
theorem f_110_86_32 {Z : AmZ} {A : Nat → Nat} {s : GS} {ex : va_W} {d : Nat} {X : AmX} {u_32_4 : Int32} {u_32_0 : Int32} (hd : 3 ≤ d) (hI : Inv s) (e_32_4 : u_32_4 = s.2.2.1 32 4) (e_32_0 : u_32_0 = s.2.2.1 32 0) (p_0 : (u_32_4).toInt = (u_32_0).toInt) (q_0 : TQD s) (q_1 : NDQ (gvD s)) (q_2 : URG (s.2.2.1 32 1).toInt.toNat (fun u => (s.2.1 87 u).toInt)) : GC Z d 110 [.ref (A 86), .ref (A 32)] (WW Z A s ++ ex) 0 0 (fun v u => ∃ xa ya : Nat, ∃ t : GS, Inv t ∧ Fr fm_110_86_32 s t ∧ v = none ∧ u = WW Z (a2 A xa ya) t ++ ex ∧ ((∀ v : Nat, v < (s.2.2.1 32 1).toInt.toNat → ((t).2.1 87 v).toInt = rnd (ARE (gvD s) 0) (ARE (gvD s) 1) (s.2.2.1 32 1).toInt.toNat (fun u => (s.2.1 87 u).toInt) v))) X := by
  intro post xp hP hX
  obtain ⟨u_32_1, e_32_1⟩ : ∃ w, w = s.2.2.1 32 1 := ⟨_, rfl⟩
  have ro_32_1 := inv_F hI 0 32 rfl e_32_1
  have ro_32_4 := inv_F hI (-1) 4000 rfl e_32_4
  have ro_32_0 := inv_F hI 0 4000 rfl e_32_0
  have ct137 : ∀ (k137 : Nat) (sc137 : GS) (y137_2 : Int64) (y137_4 : Int32) (w137_32_4 : Int32) (w137_32_0 : Int32), Inv sc137 → Fr fm_110_86_32 s sc137 → (In y137_4 0 32) → (w137_32_4 = sc137.2.2.1 32 4) → (w137_32_0 = sc137.2.2.1 32 0) → ((w137_32_4).toInt = (w137_32_0).toInt) → (RKL (ARE (gvD s) 0) (ARE (gvD s) 1) (s.2.2.1 32 1).toInt.toNat (fun u => (s.2.1 87 u).toInt) ((sc137).2.1 88) (y137_4).toInt) → (((y137_2).toInt = pot (ARE (gvD s) 0) (fun u => (s.2.1 87 u).toInt) (s.2.2.1 32 1).toInt.toNat)) → 32 - (y137_4).toInt < (k137 : Int) → GG Z (d - 1) 110 post (gx xp) (1 + k137 * 900) 137 (fun j => xlook j [(0, .ref (A 86)), (1, .ref (A 32)), (2, .long y137_2), (4, .int y137_4)]) [] (WW Z A sc137 ++ ex) 0 0 := by
    intro k137
    induction k137 with
    | zero => intro sc137 y137_2 y137_4 w137_32_4 w137_32_0 hIc137 hFc137 j137_4 v137_32_4 v137_32_0 n137_0 g137_0 g137_1 mm137; exact m_no mm137 j137_4 rfl
    | succ k137 ih137 =>
      intro sc137 y137_2 y137_4 w137_32_4 w137_32_0 hIc137 hFc137 j137_4 v137_32_4 v137_32_0 n137_0 g137_0 g137_1 mm137
      refine gg_w (M := 1 + k137 * 900 + 900) gws ?_
      refine g_iload 139 (gd rfl) rfl rfl ?_
      refine g_aload_n 140 (gd rfl) rfl rfl ?_
      refine g_getI 143 (gd rfl) rfl rfl rfl (fun z140 e140 => ?_)
      have q140 : u_32_1 = z140 := (fr_F e_32_1 hFc137 rfl).trans e140.symm
      subst q140
      refine g_cmp_ge 146 189 (gd rfl) rfl rfl (fun c143 => ?_) (fun c143 => ?_)
      · skip
        refine g_aload_n 190 (gd rfl) rfl rfl ?_
        refine g_getA (q2 := 87) 193 (gd rfl) rfl rfl rfl rfl ?_
        refine g_astore 195 (gd rfl) rfl (Nat.le_of_ble_eq_true rfl) ?_
        refine g_aload_n 196 (gd rfl) rfl rfl ?_
        refine g_aload_n 197 (gd rfl) rfl rfl ?_
        refine g_getA (q2 := 88) 200 (gd rfl) rfl rfl rfl rfl ?_
        refine g_swap rfl rfl ?_
        have hI200 := inv_sws hIc137
        have n209 : (∀ v : Nat, v < (s.2.2.1 32 1).toInt.toNat → (((sws sc137)).2.1 87 v).toInt = rnd (ARE (gvD s) 0) (ARE (gvD s) 1) (s.2.2.1 32 1).toInt.toNat (fun u => (s.2.1 87 u).toInt) v) := by intro v hv; rw [sws_a]; exact rkl_e g137_0 (by rw [← e_32_1]; exact (have a0 := in_u ro_32_1; have a1 := in_u ((inv_F hIc137 0 4000 rfl v137_32_0)); have a2 := in_u ((inv_F hIc137 (-1) 4000 rfl v137_32_4)); have a3 := in_u j137_4; have oc := oc_110_86_32; by omega)) (show (s.2.2.1 32 1).toInt.toNat ≤ 32 from (by have h9 := inv_F hI (z := s.2.2.1 32 1) 0 32 rfl rfl; unfold In at h9; omega)) v hv
        exact g_return (gd rfl) rfl (hP _ _ ⟨(A 88), (A 87), (sws sc137), hI200, (fr_sws rfl rfl hFc137), rfl, rfl, n209⟩)
      · skip
        have i143 := r_lt1 0 31 c143 j137_4 ro_32_1 rfl
        have i143a := r_lt2 1 32 c143 j137_4 ro_32_1 rfl
        refine g_aload_n 147 (gd rfl) rfl rfl ?_
        refine g_getA (q2 := 88) 150 (gd rfl) rfl rfl rfl rfl ?_
        refine g_iload 152 (gd rfl) rfl rfl ?_
        refine g_dup2 153 (gd rfl) rfl rfl rfl ?_
        refine g_laload 154 (gd rfl) rfl (n := 32) rfl (in_ix i143 rfl) (fun z153 e153 => ?_)
        refine g_lload_n 155 (gd rfl) rfl rfl ?_
        refine g_aload_n 156 (gd rfl) rfl rfl ?_
        refine g_getI 159 (gd rfl) rfl rfl rfl (fun z156 e156 => ?_)
        have q156 : u_32_1 = z156 := (fr_F e_32_1 hFc137 rfl).trans e156.symm
        subst q156
        refine g_i2l 160 (gd rfl) rfl (fun z159 e159 => ?_)
        have i159 := l_i e159 i143a
        refine g_ldiv 161 (gd rfl) rfl (ldv_nz i159 rfl) (fun z160 e160 => ?_)
        refine g_iload 163 (gd rfl) rfl rfl ?_
        refine g_i2l 164 (gd rfl) rfl (fun z163 e163 => ?_)
        have i163 := l_i e163 i143
        refine g_lload_n 165 (gd rfl) rfl rfl ?_
        refine g_aload_n 166 (gd rfl) rfl rfl ?_
        refine g_getI 169 (gd rfl) rfl rfl rfl (fun z166 e166 => ?_)
        have q166 : u_32_1 = z166 := (fr_F e_32_1 hFc137 rfl).trans e166.symm
        subst q166
        refine g_i2l 170 (gd rfl) rfl (fun z169 e169 => ?_)
        have i169 := l_i e169 i143a
        refine g_lrem 171 (gd rfl) rfl (ldv_nz i169 rfl) (fun z170 e170 => ?_)
        refine g_lcmp 172 (gd rfl) rfl (fun z171 e171 => ?_)
        have i171 := lc_in e171
        refine g_if_ge 175 179 (gd rfl) rfl rfl (fun c172 => ?_) (fun c172 => ?_)
        · skip
          have i172 := z_ge 0 1 c172 i171 rfl
          have c172a := lc_ge e171 c172
          have i172a := lr_le1 (-9223372036854775808) 31 c172a (l_rng z170) i163 rfl
          refine g_lconst 0 180 (gd rfl) rfl rfl ?_
          refine g_ladd 181 (gd rfl) rfl (fun z180 e180 => ?_)
          refine g_ladd 182 (gd rfl) rfl (fun z181 e181 => ?_)
          refine g_lastore 183 (gd rfl) rfl (n := 32) rfl (in_ix i143 rfl) ?_
          have hI182 := inv_sL (q := 88) (j := y137_4.toNatClampNeg) (x := z181) hIc137 rfl (l_rng z181)
          refine g_iinc 186 (gd rfl) rfl rfl (Nat.le_of_ble_eq_true rfl) (fun z183 e183 => ?_)
          have i183 := in_add 1 32 e183 i143 (in_c 1 rfl) rfl rfl
          refine g_goto 137 (gd rfl) rfl ?_
          have v137 : w137_32_4 = (sL sc137 88 y137_4.toNatClampNeg z181).2.2.1 32 4 := sL_F (v137_32_4)
          have v137a : w137_32_0 = (sL sc137 88 y137_4.toNatClampNeg z181).2.2.1 32 0 := sL_F (v137_32_0)
          have n137 : (w137_32_4).toInt = (w137_32_0).toInt := by first | exact n137_0 | (exact (have a0 := in_u i143a; have a1 := in_u ((inv_F hIc137 0 4000 rfl v137_32_0)); have a2 := in_u ((inv_F hIc137 (-1) 4000 rfl v137_32_4)); have a3 := in_u i143; have a4 := in_u i183; have a5 := t_add e183 i143 (in_c 1 rfl) rfl; have a6 := in_u ((in_c 1 rfl)); have a7 := tx_i2l e169; have a8 := tx_i2l e163; have a9 := tx_i2l e159; have oc := oc_110_86_32; by omega))
          have n137a : RKL (ARE (gvD s) 0) (ARE (gvD s) 1) (s.2.2.1 32 1).toInt.toNat (fun u => (s.2.1 87 u).toInt) (((sL sc137 88 y137_4.toNatClampNeg z181)).2.1 88) (z183).toInt := by first | (rw [sL_q]; exact rkl_s (m := z170) (ndx_q q_1 (show (((s.2.2.1 32 1).toInt.toNat : Nat) : Int) = (s.2.2.1 32 1).toInt from (by have h9 := inv_F hI (z := s.2.2.1 32 1) 0 32 rfl rfl; unfold In at h9; omega))) q_2 (show (s.2.2.1 32 1).toInt.toNat ≤ 32 from (by have h9 := inv_F hI (z := s.2.2.1 32 1) 0 32 rfl rfl; unfold In at h9; omega)) g137_0 i143 (by rw [← e_32_1]; exact (have a0 := in_u i143a; have a1 := in_u ((inv_F hIc137 0 4000 rfl v137_32_0)); have a2 := in_u ((inv_F hIc137 (-1) 4000 rfl v137_32_4)); have a3 := in_u i143; have a4 := in_u i183; have a5 := t_add e183 i143 (in_c 1 rfl) rfl; have a6 := in_u ((in_c 1 rfl)); have a7 := tx_i2l e169; have a8 := tx_i2l e163; have a9 := tx_i2l e159; have oc := oc_110_86_32; by omega)) e153 g137_1 (by rw [u_i2l e159]; show _ = ((((s.2.2.1 32 1).toInt.toNat) : Nat) : Int); rw [← e_32_1]; exact (have a0 := in_u i143a; have a1 := in_u ((inv_F hIc137 0 4000 rfl v137_32_0)); have a2 := in_u ((inv_F hIc137 (-1) 4000 rfl v137_32_4)); have a3 := in_u i143; have a4 := in_u i183; have a5 := t_add e183 i143 (in_c 1 rfl) rfl; have a6 := in_u ((in_c 1 rfl)); have a7 := tx_i2l e169; have a8 := tx_i2l e163; have a9 := tx_i2l e159; have oc := oc_110_86_32; by omega)) e160 (by rw [← (e169.trans e159.symm)]; exact e170) (Or.inl ⟨rfl, by have h9 := c172a; have h8 := u_i2l e163; omega⟩) e180 e181 (by exact (have a0 := in_u i143a; have a1 := in_u ((inv_F hIc137 0 4000 rfl v137_32_0)); have a2 := in_u ((inv_F hIc137 (-1) 4000 rfl v137_32_4)); have a3 := in_u i143; have a4 := in_u i183; have a5 := t_add e183 i143 (in_c 1 rfl) rfl; have a6 := in_u ((in_c 1 rfl)); have a7 := tx_i2l e169; have a8 := tx_i2l e163; have a9 := tx_i2l e159; have oc := oc_110_86_32; by omega))) | (rw [sL_q]; exact rkl_s (m := z170) (ndx_q q_1 (show (((s.2.2.1 32 1).toInt.toNat : Nat) : Int) = (s.2.2.1 32 1).toInt from (by have h9 := inv_F hI (z := s.2.2.1 32 1) 0 32 rfl rfl; unfold In at h9; omega))) q_2 (show (s.2.2.1 32 1).toInt.toNat ≤ 32 from (by have h9 := inv_F hI (z := s.2.2.1 32 1) 0 32 rfl rfl; unfold In at h9; omega)) g137_0 i143 (by rw [← e_32_1]; exact (have a0 := in_u i143a; have a1 := in_u ((inv_F hIc137 0 4000 rfl v137_32_0)); have a2 := in_u ((inv_F hIc137 (-1) 4000 rfl v137_32_4)); have a3 := in_u i143; have a4 := in_u i183; have a5 := t_add e183 i143 (in_c 1 rfl) rfl; have a6 := in_u ((in_c 1 rfl)); have a7 := tx_i2l e169; have a8 := tx_i2l e163; have a9 := tx_i2l e159; have oc := oc_110_86_32; by omega)) e153 g137_1 (by rw [u_i2l e159]; show _ = ((((s.2.2.1 32 1).toInt.toNat) : Nat) : Int); rw [← e_32_1]; exact (have a0 := in_u i143a; have a1 := in_u ((inv_F hIc137 0 4000 rfl v137_32_0)); have a2 := in_u ((inv_F hIc137 (-1) 4000 rfl v137_32_4)); have a3 := in_u i143; have a4 := in_u i183; have a5 := t_add e183 i143 (in_c 1 rfl) rfl; have a6 := in_u ((in_c 1 rfl)); have a7 := tx_i2l e169; have a8 := tx_i2l e163; have a9 := tx_i2l e159; have oc := oc_110_86_32; by omega)) e160 (by rw [← (e169.trans e159.symm)]; exact e170) (Or.inr ⟨rfl, by have h9 := c172a; have h8 := u_i2l e163; omega⟩) e180 e181 (by exact (have a0 := in_u i143a; have a1 := in_u ((inv_F hIc137 0 4000 rfl v137_32_0)); have a2 := in_u ((inv_F hIc137 (-1) 4000 rfl v137_32_4)); have a3 := in_u i143; have a4 := in_u i183; have a5 := t_add e183 i143 (in_c 1 rfl) rfl; have a6 := in_u ((in_c 1 rfl)); have a7 := tx_i2l e169; have a8 := tx_i2l e163; have a9 := tx_i2l e159; have oc := oc_110_86_32; by omega)))
          have n137b : ((y137_2).toInt = pot (ARE (gvD s) 0) (fun u => (s.2.1 87 u).toInt) (s.2.2.1 32 1).toInt.toNat) := by exact g137_1
          exact gg_w (by first | exact Nat.le_add_right _ _ | exact gw2 | exact gw3 | exact gwe rfl | exact gwf rfl | exact gwg rfl | exact gwh rfl | omega) (gg_f (gf_cons rfl (gf_cons rfl (gf_cons rfl (gf_cons rfl gf_nil)))) (ih137 (sL sc137 88 y137_4.toNatClampNeg z181) y137_2 z183 w137_32_4 w137_32_0 hI182 (fr_sL rfl hFc137) (in_w 0 32 i183 rfl) v137 v137a n137 n137a n137b (m_up mm137 (t_add e183 i143 (in_c 1 rfl) rfl) (in_w 1 1 (in_c 1 rfl) rfl))))
        · skip
          have i172 := z_lt (-1) (-1) c172 i171 rfl
          have c172a := lc_lt e171 c172
          have i172a := lr_lt2 1 9223372036854775807 c172a i163 (l_rng z170) rfl
          refine g_lconst 1 176 (gd rfl) rfl rfl ?_
          refine g_goto 180 (gd rfl) rfl ?_
          refine g_ladd 181 (gd rfl) rfl (fun z180 e180 => ?_)
          refine g_ladd 182 (gd rfl) rfl (fun z181 e181 => ?_)
          refine g_lastore 183 (gd rfl) rfl (n := 32) rfl (in_ix i143 rfl) ?_
          have hI182 := inv_sL (q := 88) (j := y137_4.toNatClampNeg) (x := z181) hIc137 rfl (l_rng z181)
          refine g_iinc 186 (gd rfl) rfl rfl (Nat.le_of_ble_eq_true rfl) (fun z183 e183 => ?_)
          have i183 := in_add 1 32 e183 i143 (in_c 1 rfl) rfl rfl
          refine g_goto 137 (gd rfl) rfl ?_
          have v137 : w137_32_4 = (sL sc137 88 y137_4.toNatClampNeg z181).2.2.1 32 4 := sL_F (v137_32_4)
          have v137a : w137_32_0 = (sL sc137 88 y137_4.toNatClampNeg z181).2.2.1 32 0 := sL_F (v137_32_0)
          have n137 : (w137_32_4).toInt = (w137_32_0).toInt := by first | exact n137_0 | (exact (have a0 := in_u i143a; have a1 := in_u ((inv_F hIc137 0 4000 rfl v137_32_0)); have a2 := in_u ((inv_F hIc137 (-1) 4000 rfl v137_32_4)); have a3 := in_u i143; have a4 := in_u i183; have a5 := t_add e183 i143 (in_c 1 rfl) rfl; have a6 := in_u ((in_c 1 rfl)); have a7 := tx_i2l e169; have a8 := tx_i2l e163; have a9 := tx_i2l e159; have oc := oc_110_86_32; by omega))
          have n137a : RKL (ARE (gvD s) 0) (ARE (gvD s) 1) (s.2.2.1 32 1).toInt.toNat (fun u => (s.2.1 87 u).toInt) (((sL sc137 88 y137_4.toNatClampNeg z181)).2.1 88) (z183).toInt := by first | (rw [sL_q]; exact rkl_s (m := z170) (ndx_q q_1 (show (((s.2.2.1 32 1).toInt.toNat : Nat) : Int) = (s.2.2.1 32 1).toInt from (by have h9 := inv_F hI (z := s.2.2.1 32 1) 0 32 rfl rfl; unfold In at h9; omega))) q_2 (show (s.2.2.1 32 1).toInt.toNat ≤ 32 from (by have h9 := inv_F hI (z := s.2.2.1 32 1) 0 32 rfl rfl; unfold In at h9; omega)) g137_0 i143 (by rw [← e_32_1]; exact (have a0 := in_u i143a; have a1 := in_u ((inv_F hIc137 0 4000 rfl v137_32_0)); have a2 := in_u ((inv_F hIc137 (-1) 4000 rfl v137_32_4)); have a3 := in_u i143; have a4 := in_u i183; have a5 := t_add e183 i143 (in_c 1 rfl) rfl; have a6 := in_u ((in_c 1 rfl)); have a7 := tx_i2l e169; have a8 := tx_i2l e163; have a9 := tx_i2l e159; have oc := oc_110_86_32; by omega)) e153 g137_1 (by rw [u_i2l e159]; show _ = ((((s.2.2.1 32 1).toInt.toNat) : Nat) : Int); rw [← e_32_1]; exact (have a0 := in_u i143a; have a1 := in_u ((inv_F hIc137 0 4000 rfl v137_32_0)); have a2 := in_u ((inv_F hIc137 (-1) 4000 rfl v137_32_4)); have a3 := in_u i143; have a4 := in_u i183; have a5 := t_add e183 i143 (in_c 1 rfl) rfl; have a6 := in_u ((in_c 1 rfl)); have a7 := tx_i2l e169; have a8 := tx_i2l e163; have a9 := tx_i2l e159; have oc := oc_110_86_32; by omega)) e160 (by rw [← (e169.trans e159.symm)]; exact e170) (Or.inl ⟨rfl, by have h9 := c172a; have h8 := u_i2l e163; omega⟩) e180 e181 (by exact (have a0 := in_u i143a; have a1 := in_u ((inv_F hIc137 0 4000 rfl v137_32_0)); have a2 := in_u ((inv_F hIc137 (-1) 4000 rfl v137_32_4)); have a3 := in_u i143; have a4 := in_u i183; have a5 := t_add e183 i143 (in_c 1 rfl) rfl; have a6 := in_u ((in_c 1 rfl)); have a7 := tx_i2l e169; have a8 := tx_i2l e163; have a9 := tx_i2l e159; have oc := oc_110_86_32; by omega))) | (rw [sL_q]; exact rkl_s (m := z170) (ndx_q q_1 (show (((s.2.2.1 32 1).toInt.toNat : Nat) : Int) = (s.2.2.1 32 1).toInt from (by have h9 := inv_F hI (z := s.2.2.1 32 1) 0 32 rfl rfl; unfold In at h9; omega))) q_2 (show (s.2.2.1 32 1).toInt.toNat ≤ 32 from (by have h9 := inv_F hI (z := s.2.2.1 32 1) 0 32 rfl rfl; unfold In at h9; omega)) g137_0 i143 (by rw [← e_32_1]; exact (have a0 := in_u i143a; have a1 := in_u ((inv_F hIc137 0 4000 rfl v137_32_0)); have a2 := in_u ((inv_F hIc137 (-1) 4000 rfl v137_32_4)); have a3 := in_u i143; have a4 := in_u i183; have a5 := t_add e183 i143 (in_c 1 rfl) rfl; have a6 := in_u ((in_c 1 rfl)); have a7 := tx_i2l e169; have a8 := tx_i2l e163; have a9 := tx_i2l e159; have oc := oc_110_86_32; by omega)) e153 g137_1 (by rw [u_i2l e159]; show _ = ((((s.2.2.1 32 1).toInt.toNat) : Nat) : Int); rw [← e_32_1]; exact (have a0 := in_u i143a; have a1 := in_u ((inv_F hIc137 0 4000 rfl v137_32_0)); have a2 := in_u ((inv_F hIc137 (-1) 4000 rfl v137_32_4)); have a3 := in_u i143; have a4 := in_u i183; have a5 := t_add e183 i143 (in_c 1 rfl) rfl; have a6 := in_u ((in_c 1 rfl)); have a7 := tx_i2l e169; have a8 := tx_i2l e163; have a9 := tx_i2l e159; have oc := oc_110_86_32; by omega)) e160 (by rw [← (e169.trans e159.symm)]; exact e170) (Or.inr ⟨rfl, by have h9 := c172a; have h8 := u_i2l e163; omega⟩) e180 e181 (by exact (have a0 := in_u i143a; have a1 := in_u ((inv_F hIc137 0 4000 rfl v137_32_0)); have a2 := in_u ((inv_F hIc137 (-1) 4000 rfl v137_32_4)); have a3 := in_u i143; have a4 := in_u i183; have a5 := t_add e183 i143 (in_c 1 rfl) rfl; have a6 := in_u ((in_c 1 rfl)); have a7 := tx_i2l e169; have a8 := tx_i2l e163; have a9 := tx_i2l e159; have oc := oc_110_86_32; by omega)))
          have n137b : ((y137_2).toInt = pot (ARE (gvD s) 0) (fun u => (s.2.1 87 u).toInt) (s.2.2.1 32 1).toInt.toNat) := by exact g137_1
          exact gg_w (by first | exact Nat.le_add_right _ _ | exact gw2 | exact gw3 | exact gwe rfl | exact gwf rfl | exact gwg rfl | exact gwh rfl | omega) (gg_f (gf_cons rfl (gf_cons rfl (gf_cons rfl (gf_cons rfl gf_nil)))) (ih137 (sL sc137 88 y137_4.toNatClampNeg z181) y137_2 z183 w137_32_4 w137_32_0 hI182 (fr_sL rfl hFc137) (in_w 0 32 i183 rfl) v137 v137a n137 n137a n137b (m_up mm137 (t_add e183 i143 (in_c 1 rfl) rfl) (in_w 1 1 (in_c 1 rfl) rfl))))
  have ct13 : ∀ (k13 : Nat) (sc13 : GS) (y13_2 : Int64) (y13_4 : Int32) (w13_32_4 : Int32) (w13_32_0 : Int32), Inv sc13 → Fr fm_110_86_32 s sc13 → (In y13_4 0 32) → (w13_32_4 = sc13.2.2.1 32 4) → (w13_32_0 = sc13.2.2.1 32 0) → ((w13_32_4).toInt = (w13_32_0).toInt) → ((y13_4).toInt ≤ (u_32_1).toInt) → (RKA (ARE (gvD s) 0) (ARE (gvD s) 1) (fun u => (s.2.1 87 u).toInt) ((sc13).2.1 88) (y13_4).toNatClampNeg 0) → (((y13_2).toInt = pot (ARE (gvD s) 0) (fun u => (s.2.1 87 u).toInt) (y13_4).toNatClampNeg)) → (((sc13).2.1 87 = s.2.1 87)) → 32 - (y13_4).toInt < (k13 : Int) → GG Z (d - 1) 110 post (gx xp) (29702 + k13 * 147601) 13 (fun j => xlook j [(0, .ref (A 86)), (1, .ref (A 32)), (2, .long y13_2), (4, .int y13_4)]) [] (WW Z A sc13 ++ ex) 0 0 := by
    intro k13
    induction k13 with
    | zero => intro sc13 y13_2 y13_4 w13_32_4 w13_32_0 hIc13 hFc13 j13_4 v13_32_4 v13_32_0 n13_0 n13_1 g13_0 g13_1 g13_2 mm13; exact m_no mm13 j13_4 rfl
    | succ k13 ih13 =>
      intro sc13 y13_2 y13_4 w13_32_4 w13_32_0 hIc13 hFc13 j13_4 v13_32_4 v13_32_0 n13_0 n13_1 g13_0 g13_1 g13_2 mm13
      refine gg_w (M := 29702 + k13 * 147601 + 147601) gws ?_
      have ct69 : ∀ (k69 : Nat) (sc69 : GS) (y69_5 : Int32) (y69_6 : Int64) (y69_8 : Int32) (w69_32_4 : Int32) (w69_32_0 : Int32), Inv sc69 → Fr fm_110_86_32 s sc69 → (In y13_4 0 31) → (In y69_5 (-160) 160) → (In y69_8 0 160) → (w69_32_4 = sc69.2.2.1 32 4) → (w69_32_0 = sc69.2.2.1 32 0) → ((w69_32_4).toInt = (w69_32_0).toInt) → ((y13_4).toInt < (u_32_1).toInt) → (RKA (ARE (gvD s) 0) (ARE (gvD s) 1) (fun u => (s.2.1 87 u).toInt) ((sc69).2.1 88) (y13_4).toNatClampNeg ((y69_8).toInt - (s.1 42 (y13_4).toNatClampNeg).toInt)) → (((s.1 42 (y13_4).toNatClampNeg).toInt ≤ (y69_8).toInt)) → (((y69_6).toInt = shr (ARE (gvD s) 0) (fun u => (s.2.1 87 u).toInt) (y13_4).toNatClampNeg)) → (((y69_5).toInt = cn (ARE (gvD s) 0) ((y13_4).toNatClampNeg : Int) 160)) → (((sc69).2.1 87 = s.2.1 87)) → 160 - (y69_8).toInt < (k69 : Int) → GG Z (d - 1) 110 post (gx xp) (29702 + k13 * 147601 + 1 + k69 * 900) 69 (fun j => xlook j [(0, .ref (A 86)), (1, .ref (A 32)), (2, .long y13_2), (4, .int y13_4), (5, .int y69_5), (6, .long y69_6), (8, .int y69_8)]) [] (WW Z A sc69 ++ ex) 0 0 := by
        intro k69
        induction k69 with
        | zero => intro sc69 y69_5 y69_6 y69_8 w69_32_4 w69_32_0 hIc69 hFc69 j69_4 j69_5 j69_8 v69_32_4 v69_32_0 n69_0 n69_1 g69_0 g69_1 g69_2 g69_3 g69_4 mm69; exact m_no mm69 j69_8 rfl
        | succ k69 ih69 =>
          intro sc69 y69_5 y69_6 y69_8 w69_32_4 w69_32_0 hIc69 hFc69 j69_4 j69_5 j69_8 v69_32_4 v69_32_0 n69_0 n69_1 g69_0 g69_1 g69_2 g69_3 g69_4 mm69
          refine gg_w (M := 29702 + k13 * 147601 + 1 + k69 * 900 + 900) gws ?_
          refine g_iload 71 (gd rfl) rfl rfl ?_
          refine g_aload_n 72 (gd rfl) rfl rfl ?_
          refine g_getA (q2 := 42) 75 (gd rfl) rfl rfl rfl rfl ?_
          refine g_iload 77 (gd rfl) rfl rfl ?_
          refine g_iconst 1 78 (gd rfl) rfl rfl ?_
          refine g_iadd 79 (gd rfl) rfl (fun z78 e78 => ?_)
          have i78 := in_add 1 32 e78 j69_4 (in_c 1 rfl) rfl rfl
          refine g_iaload 80 (gd rfl) rfl (n := 33) rfl (in_ix i78 rfl) (fun z79 e79 => ?_)
          have i79 := inv_I hIc69 (n := 33) (t := 0) 0 160 rfl (in_ix i78 rfl) rfl e79
          refine g_cmp_ge 83 111 (gd rfl) rfl rfl (fun c80 => ?_) (fun c80 => ?_)
          · skip
            refine g_lload_n 112 (gd rfl) rfl rfl ?_
            refine g_aload_n 113 (gd rfl) rfl rfl ?_
            refine g_getA (q2 := 87) 116 (gd rfl) rfl rfl rfl rfl ?_
            refine g_iload 118 (gd rfl) rfl rfl ?_
            refine g_laload 119 (gd rfl) rfl (n := 32) rfl (in_ix j69_4 rfl) (fun z118 e118 => ?_)
            refine g_lload 121 (gd rfl) rfl rfl ?_
            refine g_iload 123 (gd rfl) rfl rfl ?_
            refine g_i2l 124 (gd rfl) rfl (fun z123 e123 => ?_)
            have i123 := l_i e123 j69_5
            refine g_lmul 125 (gd rfl) rfl (fun z124 e124 => ?_)
            refine g_lsub 126 (gd rfl) rfl (fun z125 e125 => ?_)
            refine g_ladd 127 (gd rfl) rfl (fun z126 e126 => ?_)
            refine g_lstore_n 128 (gd rfl) rfl (Nat.le_of_ble_eq_true rfl) ?_
            refine g_iinc 131 (gd rfl) rfl rfl (Nat.le_of_ble_eq_true rfl) (fun z128 e128 => ?_)
            have i128 := in_add 1 32 e128 j69_4 (in_c 1 rfl) rfl rfl
            refine g_goto 13 (gd rfl) rfl ?_
            have n13 : (w69_32_4).toInt = (w69_32_0).toInt := by first | exact n69_0 | (exact (have a0 := in_u j69_4; have a1 := in_u ro_32_1; have a2 := in_u ((inv_F hIc69 0 4000 rfl v69_32_0)); have a3 := in_u ((inv_F hIc69 (-1) 4000 rfl v69_32_4)); have a4 := in_u j69_8; have a5 := in_u j69_5; have a6 := in_u i128; have a7 := t_add e128 j69_4 (in_c 1 rfl) rfl; have a8 := in_u ((in_c 1 rfl)); have a9 := tx_i2l e123; have a10 := in_u i78; have a11 := t_add e78 j69_4 (in_c 1 rfl) rfl; have oc := oc_110_86_32; by omega))
            have n13a : (z128).toInt ≤ (u_32_1).toInt := by exact (have a0 := in_u j69_4; have a1 := in_u ro_32_1; have a2 := in_u ((inv_F hIc69 0 4000 rfl v69_32_0)); have a3 := in_u ((inv_F hIc69 (-1) 4000 rfl v69_32_4)); have a4 := in_u j69_8; have a5 := in_u j69_5; have a6 := in_u i128; have a7 := t_add e128 j69_4 (in_c 1 rfl) rfl; have a8 := in_u ((in_c 1 rfl)); have a9 := tx_i2l e123; have a10 := in_u i78; have a11 := t_add e78 j69_4 (in_c 1 rfl) rfl; have oc := oc_110_86_32; by omega)
            have n13b : RKA (ARE (gvD s) 0) (ARE (gvD s) 1) (fun u => (s.2.1 87 u).toInt) ((sc69).2.1 88) (z128).toNatClampNeg 0 := by have vx := (show ((y13_4).toNatClampNeg : Int) = (y13_4).toInt from clx (by exact (have a0 := in_u j69_4; have a1 := in_u ro_32_1; have a2 := in_u ((inv_F hIc69 0 4000 rfl v69_32_0)); have a3 := in_u ((inv_F hIc69 (-1) 4000 rfl v69_32_4)); have a4 := in_u j69_8; have a5 := in_u j69_5; have a6 := in_u i128; have a7 := t_add e128 j69_4 (in_c 1 rfl) rfl; have a8 := in_u ((in_c 1 rfl)); have a9 := tx_i2l e123; have a10 := in_u i78; have a11 := t_add e78 j69_4 (in_c 1 rfl) rfl; have oc := oc_110_86_32; by omega))); have rx := row_32_0 (a1 := z79) hIc69 hFc69 rfl rfl rfl (by rw [← v69_32_4, ← v69_32_0]; exact n69_0) q_0 j69_4 rfl (e79.trans (congrArg (sc69.1 42) (show z78.toInt.toNat = (y13_4.toInt + 1).toNat from (by rw [show z78.toInt = y13_4.toInt + 1 from (by exact (have a0 := in_u j69_4; have a1 := in_u ro_32_1; have a2 := in_u ((inv_F hIc69 0 4000 rfl v69_32_0)); have a3 := in_u ((inv_F hIc69 (-1) 4000 rfl v69_32_4)); have a4 := in_u j69_8; have a5 := in_u j69_5; have a6 := in_u i128; have a7 := t_add e128 j69_4 (in_c 1 rfl) rfl; have a8 := in_u ((in_c 1 rfl)); have a9 := tx_i2l e123; have a10 := in_u i78; have a11 := t_add e78 j69_4 (in_c 1 rfl) rfl; have oc := oc_110_86_32; by omega))])))); rw [hFc69.1 42 rfl, ← vx] at rx; exact rka_n g69_0 (fun p hp hf => by have h9 := rx.2.1 p hp hf; exact (have a0 := in_u j69_4; have a1 := in_u ro_32_1; have a2 := in_u ((inv_F hIc69 0 4000 rfl v69_32_0)); have a3 := in_u ((inv_F hIc69 (-1) 4000 rfl v69_32_4)); have a4 := in_u j69_8; have a5 := in_u j69_5; have a6 := in_u i128; have a7 := t_add e128 j69_4 (in_c 1 rfl) rfl; have a8 := in_u ((in_c 1 rfl)); have a9 := tx_i2l e123; have a10 := in_u i78; have a11 := t_add e78 j69_4 (in_c 1 rfl) rfl; have oc := oc_110_86_32; by omega)) (show (z128).toNatClampNeg = (y13_4).toNatClampNeg + 1 from (by show (z128).toInt.toNat = (y13_4).toInt.toNat + 1; exact (have a0 := in_u j69_4; have a1 := in_u ro_32_1; have a2 := in_u ((inv_F hIc69 0 4000 rfl v69_32_0)); have a3 := in_u ((inv_F hIc69 (-1) 4000 rfl v69_32_4)); have a4 := in_u j69_8; have a5 := in_u j69_5; have a6 := in_u i128; have a7 := t_add e128 j69_4 (in_c 1 rfl) rfl; have a8 := in_u ((in_c 1 rfl)); have a9 := tx_i2l e123; have a10 := in_u i78; have a11 := t_add e78 j69_4 (in_c 1 rfl) rfl; have oc := oc_110_86_32; by omega))) rfl
            have n13c : ((z126).toInt = pot (ARE (gvD s) 0) (fun u => (s.2.1 87 u).toInt) (z128).toNatClampNeg) := by rw [(show (z128).toNatClampNeg = (y13_4).toNatClampNeg + 1 from (by show (z128).toInt.toNat = (y13_4).toInt.toNat + 1; exact (have a0 := in_u j69_4; have a1 := in_u ro_32_1; have a2 := in_u ((inv_F hIc69 0 4000 rfl v69_32_0)); have a3 := in_u ((inv_F hIc69 (-1) 4000 rfl v69_32_4)); have a4 := in_u j69_8; have a5 := in_u j69_5; have a6 := in_u i128; have a7 := t_add e128 j69_4 (in_c 1 rfl) rfl; have a8 := in_u ((in_c 1 rfl)); have a9 := tx_i2l e123; have a10 := in_u i78; have a11 := t_add e78 j69_4 (in_c 1 rfl) rfl; have oc := oc_110_86_32; by omega)))]; exact pot_s q_2 (show (s.2.2.1 32 1).toInt.toNat ≤ 32 from (by have h9 := inv_F hI (z := s.2.2.1 32 1) 0 32 rfl rfl; unfold In at h9; omega)) (show (y13_4).toNatClampNeg < (s.2.2.1 32 1).toInt.toNat from (by show (y13_4).toInt.toNat < _; rw [← e_32_1]; exact (have a0 := in_u j69_4; have a1 := in_u ro_32_1; have a2 := in_u ((inv_F hIc69 0 4000 rfl v69_32_0)); have a3 := in_u ((inv_F hIc69 (-1) 4000 rfl v69_32_4)); have a4 := in_u j69_8; have a5 := in_u j69_5; have a6 := in_u i128; have a7 := t_add e128 j69_4 (in_c 1 rfl) rfl; have a8 := in_u ((in_c 1 rfl)); have a9 := tx_i2l e123; have a10 := in_u i78; have a11 := t_add e78 j69_4 (in_c 1 rfl) rfl; have oc := oc_110_86_32; by omega))) g13_1 (show (z118).toInt = (fun u => (s.2.1 87 u).toInt) (y13_4).toNatClampNeg from congrArg Int64.toInt (e118.trans (congrFun g69_4 _))) g69_2 (u_i2l e123) g69_3 e124 e125 e126
            have n13d : ((sc69).2.1 87 = s.2.1 87) := by exact g69_4
            exact gg_w (by first | exact Nat.le_add_right _ _ | exact gw2 | exact gw3 | exact gwe rfl | exact gwf rfl | exact gwg rfl | exact gwh rfl | omega) (gg_f (gf_cons rfl (gf_cons rfl (gf_cons rfl (gf_cons rfl gf_nil)))) (ih13 sc69 z126 z128 w69_32_4 w69_32_0 hIc69 hFc69 (in_w 0 32 i128 rfl) v69_32_4 v69_32_0 n13 n13a n13b n13c n13d (m_up mm13 (t_add e128 j69_4 (in_c 1 rfl) rfl) (in_w 1 1 (in_c 1 rfl) rfl))))
          · skip
            have i80 := r_lt1 0 159 c80 j69_8 i79 rfl
            have i80a := r_lt2 1 160 c80 j69_8 i79 rfl
            refine g_aload_n 84 (gd rfl) rfl rfl ?_
            refine g_getA (q2 := 88) 87 (gd rfl) rfl rfl rfl rfl ?_
            refine g_aload_n 88 (gd rfl) rfl rfl ?_
            refine g_getA (q2 := 35) 91 (gd rfl) rfl rfl rfl rfl ?_
            refine g_aload_n 92 (gd rfl) rfl rfl ?_
            refine g_getA (q2 := 43) 95 (gd rfl) rfl rfl rfl rfl ?_
            refine g_iload 97 (gd rfl) rfl rfl ?_
            refine g_iaload 98 (gd rfl) rfl (n := 160) rfl (in_ix i80 rfl) (fun z97 e97 => ?_)
            have i97 := inv_I hIc69 (n := 160) (t := 0) 0 159 rfl (in_ix i80 rfl) rfl e97
            refine g_iaload 99 (gd rfl) rfl (n := 160) rfl (in_ix i97 rfl) (fun z98 e98 => ?_)
            have i98 := inv_I hIc69 (n := 160) (t := 0) 0 31 rfl (in_ix i97 rfl) rfl e98
            refine g_dup2 100 (gd rfl) rfl rfl rfl ?_
            refine g_laload 101 (gd rfl) rfl (n := 32) rfl (in_ix i98 rfl) (fun z100 e100 => ?_)
            refine g_lload 103 (gd rfl) rfl rfl ?_
            refine g_ladd 104 (gd rfl) rfl (fun z103 e103 => ?_)
            refine g_lastore 105 (gd rfl) rfl (n := 32) rfl (in_ix i98 rfl) ?_
            have hI104 := inv_sL (q := 88) (j := z98.toNatClampNeg) (x := z103) hIc69 rfl (l_rng z103)
            refine g_iinc 108 (gd rfl) rfl rfl (Nat.le_of_ble_eq_true rfl) (fun z105 e105 => ?_)
            have i105 := in_add 1 160 e105 i80 (in_c 1 rfl) rfl rfl
            refine g_goto 69 (gd rfl) rfl ?_
            have v69 : w69_32_4 = (sL sc69 88 z98.toNatClampNeg z103).2.2.1 32 4 := sL_F (v69_32_4)
            have v69a : w69_32_0 = (sL sc69 88 z98.toNatClampNeg z103).2.2.1 32 0 := sL_F (v69_32_0)
            have n69 : (w69_32_4).toInt = (w69_32_0).toInt := by first | exact n69_0 | (exact (have a0 := in_u j69_4; have a1 := in_u ro_32_1; have a2 := in_u ((inv_F hIc69 0 4000 rfl v69_32_0)); have a3 := in_u ((inv_F hIc69 (-1) 4000 rfl v69_32_4)); have a4 := in_u i80; have a5 := in_u j69_5; have a6 := in_u i105; have a7 := t_add e105 i80 (in_c 1 rfl) rfl; have a8 := in_u ((in_c 1 rfl)); have a9 := in_u i78; have a10 := t_add e78 j69_4 (in_c 1 rfl) rfl; have oc := oc_110_86_32; by omega))
            have n69a : (y13_4).toInt < (u_32_1).toInt := by first | exact n69_1 | (exact (have a0 := in_u j69_4; have a1 := in_u ro_32_1; have a2 := in_u ((inv_F hIc69 0 4000 rfl v69_32_0)); have a3 := in_u ((inv_F hIc69 (-1) 4000 rfl v69_32_4)); have a4 := in_u i80; have a5 := in_u j69_5; have a6 := in_u i105; have a7 := t_add e105 i80 (in_c 1 rfl) rfl; have a8 := in_u ((in_c 1 rfl)); have a9 := in_u i78; have a10 := t_add e78 j69_4 (in_c 1 rfl) rfl; have oc := oc_110_86_32; by omega))
            have n69b : RKA (ARE (gvD s) 0) (ARE (gvD s) 1) (fun u => (s.2.1 87 u).toInt) (((sL sc69 88 z98.toNatClampNeg z103)).2.1 88) (y13_4).toNatClampNeg ((z105).toInt - (s.1 42 (y13_4).toNatClampNeg).toInt) := by have vx := (show ((y13_4).toNatClampNeg : Int) = (y13_4).toInt from clx (by exact (have a0 := in_u j69_4; have a1 := in_u ro_32_1; have a2 := in_u ((inv_F hIc69 0 4000 rfl v69_32_0)); have a3 := in_u ((inv_F hIc69 (-1) 4000 rfl v69_32_4)); have a4 := in_u i80; have a5 := in_u j69_5; have a6 := in_u i105; have a7 := t_add e105 i80 (in_c 1 rfl) rfl; have a8 := in_u ((in_c 1 rfl)); have a9 := in_u i78; have a10 := t_add e78 j69_4 (in_c 1 rfl) rfl; have oc := oc_110_86_32; by omega))); have rx := row_32_0 (a1 := z79) hIc69 hFc69 rfl rfl rfl (by rw [← v69_32_4, ← v69_32_0]; exact n69_0) q_0 j69_4 rfl (e79.trans (congrArg (sc69.1 42) (show z78.toInt.toNat = (y13_4.toInt + 1).toNat from (by rw [show z78.toInt = y13_4.toInt + 1 from (by exact (have a0 := in_u j69_4; have a1 := in_u ro_32_1; have a2 := in_u ((inv_F hIc69 0 4000 rfl v69_32_0)); have a3 := in_u ((inv_F hIc69 (-1) 4000 rfl v69_32_4)); have a4 := in_u i80; have a5 := in_u j69_5; have a6 := in_u i105; have a7 := t_add e105 i80 (in_c 1 rfl) rfl; have a8 := in_u ((in_c 1 rfl)); have a9 := in_u i78; have a10 := t_add e78 j69_4 (in_c 1 rfl) rfl; have oc := oc_110_86_32; by omega))])))); rw [hFc69.1 42 rfl, ← vx] at rx; obtain ⟨p, p1, p2, p3, p4⟩ := rx.1 y69_8 z97 (by have h9 := g69_1; exact (have a0 := in_u j69_4; have a1 := in_u ro_32_1; have a2 := in_u ((inv_F hIc69 0 4000 rfl v69_32_0)); have a3 := in_u ((inv_F hIc69 (-1) 4000 rfl v69_32_4)); have a4 := in_u i80; have a5 := in_u j69_5; have a6 := in_u i105; have a7 := t_add e105 i80 (in_c 1 rfl) rfl; have a8 := in_u ((in_c 1 rfl)); have a9 := in_u i78; have a10 := t_add e78 j69_4 (in_c 1 rfl) rfl; have oc := oc_110_86_32; by omega)) (by exact (have a0 := in_u j69_4; have a1 := in_u ro_32_1; have a2 := in_u ((inv_F hIc69 0 4000 rfl v69_32_0)); have a3 := in_u ((inv_F hIc69 (-1) 4000 rfl v69_32_4)); have a4 := in_u i80; have a5 := in_u j69_5; have a6 := in_u i105; have a7 := t_add e105 i80 (in_c 1 rfl) rfl; have a8 := in_u ((in_c 1 rfl)); have a9 := in_u i78; have a10 := t_add e78 j69_4 (in_c 1 rfl) rfl; have oc := oc_110_86_32; by omega)) e97; have pz : z97.toNatClampNeg = p := (by show z97.toInt.toNat = p; omega); have hv : z98 = s.1 35 p := (by rw [← pz]; exact e98.trans (congrFun (hFc69.1 35 rfl) _)); have ne : ((gvD s).2.1 p).toInt ≠ -1 := (fun z => by rw [are_no z] at p2; omega); have a9 := inv_I hI (n := 33) (t := 0) (q := 42) (z := s.1 42 (y13_4).toNatClampNeg) 0 160 rfl (in_ix j69_4 rfl) rfl rfl; unfold In at a9; rw [sL_q]; exact rka_s (ndx_q q_1 (show (((s.2.2.1 32 1).toInt.toNat : Nat) : Int) = (s.2.2.1 32 1).toInt from (by have h9 := inv_F hI (z := s.2.2.1 32 1) 0 32 rfl rfl; unfold In at h9; omega))) q_2 (show (s.2.2.1 32 1).toInt.toNat ≤ 32 from (by have h9 := inv_F hI (z := s.2.2.1 32 1) 0 32 rfl rfl; unfold In at h9; omega)) (show (y13_4).toNatClampNeg < (s.2.2.1 32 1).toInt.toNat from (by show (y13_4).toInt.toNat < _; rw [← e_32_1]; exact (have a0 := in_u j69_4; have a1 := in_u ro_32_1; have a2 := in_u ((inv_F hIc69 0 4000 rfl v69_32_0)); have a3 := in_u ((inv_F hIc69 (-1) 4000 rfl v69_32_4)); have a4 := in_u i80; have a5 := in_u j69_5; have a6 := in_u i105; have a7 := t_add e105 i80 (in_c 1 rfl) rfl; have a8 := in_u ((in_c 1 rfl)); have a9 := in_u i78; have a10 := t_add e78 j69_4 (in_c 1 rfl) rfl; have oc := oc_110_86_32; by omega))) g69_0 p1 p2 ((are_t p1 ne (by decide)).trans (congrArg Int32.toInt hv.symm)) i98 p3 e100 g69_2 e103 (by exact (have a0 := in_u j69_4; have a1 := in_u ro_32_1; have a2 := in_u ((inv_F hIc69 0 4000 rfl v69_32_0)); have a3 := in_u ((inv_F hIc69 (-1) 4000 rfl v69_32_4)); have a4 := in_u i80; have a5 := in_u j69_5; have a6 := in_u i105; have a7 := t_add e105 i80 (in_c 1 rfl) rfl; have a8 := in_u ((in_c 1 rfl)); have a9 := in_u i78; have a10 := t_add e78 j69_4 (in_c 1 rfl) rfl; have oc := oc_110_86_32; by omega))
            have n69c : ((s.1 42 (y13_4).toNatClampNeg).toInt ≤ (z105).toInt) := by have h9 := g69_1; exact (have a0 := in_u j69_4; have a1 := in_u ro_32_1; have a2 := in_u ((inv_F hIc69 0 4000 rfl v69_32_0)); have a3 := in_u ((inv_F hIc69 (-1) 4000 rfl v69_32_4)); have a4 := in_u i80; have a5 := in_u j69_5; have a6 := in_u i105; have a7 := t_add e105 i80 (in_c 1 rfl) rfl; have a8 := in_u ((in_c 1 rfl)); have a9 := in_u i78; have a10 := t_add e78 j69_4 (in_c 1 rfl) rfl; have oc := oc_110_86_32; by omega)
            have n69d : ((y69_6).toInt = shr (ARE (gvD s) 0) (fun u => (s.2.1 87 u).toInt) (y13_4).toNatClampNeg) := by exact g69_2
            have n69e : ((y69_5).toInt = cn (ARE (gvD s) 0) ((y13_4).toNatClampNeg : Int) 160) := by exact g69_3
            have n69f : (((sL sc69 88 z98.toNatClampNeg z103)).2.1 87 = s.2.1 87) := by exact g69_4
            exact gg_w (by first | exact Nat.le_add_right _ _ | exact gw2 | exact gw3 | exact gwe rfl | exact gwf rfl | exact gwg rfl | exact gwh rfl | omega) (gg_f (gf_cons rfl (gf_cons rfl (gf_cons rfl (gf_cons rfl (gf_cons rfl (gf_cons rfl (gf_cons rfl gf_nil))))))) (ih69 (sL sc69 88 z98.toNatClampNeg z103) y69_5 y69_6 z105 w69_32_4 w69_32_0 hI104 (fr_sL rfl hFc69) (in_w 0 31 j69_4 rfl) (in_w (-160) 160 j69_5 rfl) (in_w 0 160 i105 rfl) v69 v69a n69 n69a n69b n69c n69d n69e n69f (m_up mm69 (t_add e105 i80 (in_c 1 rfl) rfl) (in_w 1 1 (in_c 1 rfl) rfl))))
      refine g_iload 15 (gd rfl) rfl rfl ?_
      refine g_aload_n 16 (gd rfl) rfl rfl ?_
      refine g_getI 19 (gd rfl) rfl rfl rfl (fun z16 e16 => ?_)
      have q16 : u_32_1 = z16 := (fr_F e_32_1 hFc13 rfl).trans e16.symm
      subst q16
      refine g_cmp_ge 22 134 (gd rfl) rfl rfl (fun c19 => ?_) (fun c19 => ?_)
      · skip
        refine g_iconst 0 135 (gd rfl) rfl rfl ?_
        refine g_istore 137 (gd rfl) rfl (Nat.le_of_ble_eq_true rfl) ?_
        have n137 : (w13_32_4).toInt = (w13_32_0).toInt := by first | exact n13_0 | (exact (have a0 := in_u ro_32_1; have a1 := in_u ((inv_F hIc13 0 4000 rfl v13_32_0)); have a2 := in_u ((inv_F hIc13 (-1) 4000 rfl v13_32_4)); have a3 := in_u j13_4; have a4 := in_u ((in_c 0 rfl)); have oc := oc_110_86_32; by omega))
        have n137a : RKL (ARE (gvD s) 0) (ARE (gvD s) 1) (s.2.2.1 32 1).toInt.toNat (fun u => (s.2.1 87 u).toInt) ((sc13).2.1 88) ((Int32.ofInt 0)).toInt := by exact rkl_0 rfl (rka_e (ndx_q q_1 (show (((s.2.2.1 32 1).toInt.toNat : Nat) : Int) = (s.2.2.1 32 1).toInt from (by have h9 := inv_F hI (z := s.2.2.1 32 1) 0 32 rfl rfl; unfold In at h9; omega))) g13_0 (by show _ ≤ (y13_4).toInt.toNat; rw [← e_32_1]; exact (have a0 := in_u ro_32_1; have a1 := in_u ((inv_F hIc13 0 4000 rfl v13_32_0)); have a2 := in_u ((inv_F hIc13 (-1) 4000 rfl v13_32_4)); have a3 := in_u j13_4; have a4 := in_u ((in_c 0 rfl)); have oc := oc_110_86_32; by omega)))
        have n137b : ((y13_2).toInt = pot (ARE (gvD s) 0) (fun u => (s.2.1 87 u).toInt) (s.2.2.1 32 1).toInt.toNat) := by have h9 := g13_1; rw [(show (y13_4).toNatClampNeg = (s.2.2.1 32 1).toInt.toNat from (by show (y13_4).toInt.toNat = _; rw [← e_32_1]; exact (have a0 := in_u ro_32_1; have a1 := in_u ((inv_F hIc13 0 4000 rfl v13_32_0)); have a2 := in_u ((inv_F hIc13 (-1) 4000 rfl v13_32_4)); have a3 := in_u j13_4; have a4 := in_u ((in_c 0 rfl)); have oc := oc_110_86_32; by omega)))] at h9; exact h9
        exact gg_w (by first | exact Nat.le_add_right _ _ | exact gw2 | exact gw3 | exact gwe rfl | exact gwf rfl | exact gwg rfl | exact gwh rfl | omega) (gg_f (gf_cons rfl (gf_cons rfl (gf_cons rfl (gf_cons rfl gf_nil)))) (ct137 33 sc13 y13_2 (Int32.ofInt 0) w13_32_4 w13_32_0 hIc13 hFc13 (in_w 0 32 (in_c 0 rfl) rfl) v13_32_4 v13_32_0 n137 n137a n137b (m_in 33 (in_w 0 32 (in_c 0 rfl) rfl) rfl)))
      · skip
        have i19 := r_lt1 0 31 c19 j13_4 ro_32_1 rfl
        have i19a := r_lt2 1 32 c19 j13_4 ro_32_1 rfl
        refine g_aload_n 23 (gd rfl) rfl rfl ?_
        refine g_iload 25 (gd rfl) rfl rfl ?_
        refine g_callv (X := _) (As := [.int y13_4]) (r := []) (b := A 32) (q := 32) 28 (gd rfl) rfl rfl rfl rfl rfl (ww_o rfl) (Nat.le_of_ble_eq_true rfl) (mc := 0) (ms := 0) (Nat.zero_le _) (Nat.zero_le _) (P := fun v u => _) ?_ (fun e u h => h) (fun v u h => h)
        intro po25 xx25 hp25 hx25
        refine g_enter2 (k := 103) (N := 300) (by first | exact dq1 hd rfl | exact dq0 hd rfl | exact dq2 hd rfl | exact dq3 hd rfl | omega) rfl (Nat.le_of_ble_eq_true rfl) ?_
        refine g_aload_n 1 (gd rfl) rfl rfl ?_
        refine g_getA (q2 := 42) 4 (gd rfl) rfl rfl rfl rfl ?_
        refine g_iload_n 5 (gd rfl) rfl rfl ?_
        refine g_iconst 1 6 (gd rfl) rfl rfl ?_
        refine g_iadd 7 (gd rfl) rfl (fun z25x6 e25x6 => ?_)
        have i25x6 := in_add 1 32 e25x6 i19 (in_c 1 rfl) rfl rfl
        refine g_iaload 8 (gd rfl) rfl (n := 33) rfl (in_ix i25x6 rfl) (fun z25x7 e25x7 => ?_)
        have i25x7 := inv_I hIc13 (n := 33) (t := 0) 0 160 rfl (in_ix i25x6 rfl) rfl e25x7
        refine g_aload_n 9 (gd rfl) rfl rfl ?_
        refine g_getA (q2 := 42) 12 (gd rfl) rfl rfl rfl rfl ?_
        refine g_iload_n 13 (gd rfl) rfl rfl ?_
        refine g_iaload 14 (gd rfl) rfl (n := 33) rfl (in_ix i19 rfl) (fun z25x13 e25x13 => ?_)
        have i25x13 := inv_I hIc13 (n := 33) (t := 0) 0 160 rfl (in_ix i19 rfl) rfl e25x13
        refine g_isub 15 (gd rfl) rfl (fun z25x14 e25x14 => ?_)
        have i25x14 := in_sub (-160) 160 e25x14 i25x7 i25x13 rfl rfl
        refine g_ireturn (gd rfl) rfl rfl (hp25 _ _ ?_)
        show GG _ _ _ _ _ _ _ _ [.int z25x14] _ _ _
        refine g_istore 30 (gd rfl) rfl (Nat.le_of_ble_eq_true rfl) ?_
        refine g_iload 32 (gd rfl) rfl rfl ?_
        refine g_if_ne 35 39 (gd rfl) rfl rfl (fun c32 => ?_) (fun c32 => ?_)
        · skip
          refine g_aload_n 40 (gd rfl) rfl rfl ?_
          refine g_getA (q2 := 87) 43 (gd rfl) rfl rfl rfl rfl ?_
          refine g_iload 45 (gd rfl) rfl rfl ?_
          refine g_laload 46 (gd rfl) rfl (n := 32) rfl (in_ix i19 rfl) (fun z45 e45 => ?_)
          refine g_ldc2_w 85 49 (gd rfl) rfl rfl ?_
          refine g_lmul 50 (gd rfl) rfl (fun z49 e49 => ?_)
          refine g_ldc2_w 100 53 (gd rfl) rfl rfl ?_
          refine g_iload 55 (gd rfl) rfl rfl ?_
          refine g_i2l 56 (gd rfl) rfl (fun z55 e55 => ?_)
          have i55 := l_i e55 i25x14
          refine g_lmul 57 (gd rfl) rfl (fun z56 e56 => ?_)
          have i56 := l_mulc 100 (-16000) 16000 (Or.inl e56) i55 rfl
          have nz57 : (z56).toInt ≠ 0 := by exact l_nz100 e56 e55 (by exact (have a0 := in_u i19a; have a1 := in_u ((inv_F hIc13 0 4000 rfl v13_32_0)); have a2 := in_u ((inv_F hIc13 (-1) 4000 rfl v13_32_4)); have a3 := in_u i19; have a4 := in_u i25x14; have a5 := t_sub e25x14 i25x7 i25x13 rfl; have a6 := in_u i25x13; have a7 := in_u i25x7; have a8 := tx_i2l e55; have a9 := in_u i25x6; have a10 := t_add e25x6 i19 (in_c 1 rfl) rfl; have a11 := in_u ((in_c 1 rfl)); have oc := oc_110_86_32; by omega)) (by exact (have a0 := in_u i19a; have a1 := in_u ((inv_F hIc13 0 4000 rfl v13_32_0)); have a2 := in_u ((inv_F hIc13 (-1) 4000 rfl v13_32_4)); have a3 := in_u i19; have a4 := in_u i25x14; have a5 := t_sub e25x14 i25x7 i25x13 rfl; have a6 := in_u i25x13; have a7 := in_u i25x7; have a8 := tx_i2l e55; have a9 := in_u i25x6; have a10 := t_add e25x6 i19 (in_c 1 rfl) rfl; have a11 := in_u ((in_c 1 rfl)); have oc := oc_110_86_32; by omega)) (by exact (have a0 := in_u i19a; have a1 := in_u ((inv_F hIc13 0 4000 rfl v13_32_0)); have a2 := in_u ((inv_F hIc13 (-1) 4000 rfl v13_32_4)); have a3 := in_u i19; have a4 := in_u i25x14; have a5 := t_sub e25x14 i25x7 i25x13 rfl; have a6 := in_u i25x13; have a7 := in_u i25x7; have a8 := tx_i2l e55; have a9 := in_u i25x6; have a10 := t_add e25x6 i19 (in_c 1 rfl) rfl; have a11 := in_u ((in_c 1 rfl)); have oc := oc_110_86_32; by omega))
          refine g_ldiv 58 (gd rfl) rfl (lnz nz57) (fun z57 e57 => ?_)
          refine g_lstore 60 (gd rfl) rfl (Nat.le_of_ble_eq_true rfl) ?_
          refine g_aload_n 61 (gd rfl) rfl rfl ?_
          refine g_getA (q2 := 42) 64 (gd rfl) rfl rfl rfl rfl ?_
          refine g_iload 66 (gd rfl) rfl rfl ?_
          refine g_iaload 67 (gd rfl) rfl (n := 33) rfl (in_ix i19 rfl) (fun z66 e66 => ?_)
          have q66 : z25x13 = z66 := (e25x13).trans e66.symm
          subst q66
          refine g_istore 69 (gd rfl) rfl (Nat.le_of_ble_eq_true rfl) ?_
          have n69 : (w13_32_4).toInt = (w13_32_0).toInt := by first | exact n13_0 | (exact (have a0 := in_u i19a; have a1 := in_u ((inv_F hIc13 0 4000 rfl v13_32_0)); have a2 := in_u ((inv_F hIc13 (-1) 4000 rfl v13_32_4)); have a3 := in_u i19; have a4 := in_u i25x13; have a5 := in_u i25x14; have a6 := t_sub e25x14 i25x7 i25x13 rfl; have a7 := in_u i25x7; have a8 := tx_i2l e55; have a9 := in_u i25x6; have a10 := t_add e25x6 i19 (in_c 1 rfl) rfl; have a11 := in_u ((in_c 1 rfl)); have oc := oc_110_86_32; by omega))
          have n69a : (y13_4).toInt < (u_32_1).toInt := by exact (have a0 := in_u i19a; have a1 := in_u ((inv_F hIc13 0 4000 rfl v13_32_0)); have a2 := in_u ((inv_F hIc13 (-1) 4000 rfl v13_32_4)); have a3 := in_u i19; have a4 := in_u i25x13; have a5 := in_u i25x14; have a6 := t_sub e25x14 i25x7 i25x13 rfl; have a7 := in_u i25x7; have a8 := tx_i2l e55; have a9 := in_u i25x6; have a10 := t_add e25x6 i19 (in_c 1 rfl) rfl; have a11 := in_u ((in_c 1 rfl)); have oc := oc_110_86_32; by omega)
          have n69b : RKA (ARE (gvD s) 0) (ARE (gvD s) 1) (fun u => (s.2.1 87 u).toInt) ((sc13).2.1 88) (y13_4).toNatClampNeg ((z25x13).toInt - (s.1 42 (y13_4).toNatClampNeg).toInt) := by rw [show (z25x13).toInt - (s.1 42 (y13_4).toNatClampNeg).toInt = 0 from (by rw [(show z25x13 = s.1 42 (y13_4).toNatClampNeg from e25x13.trans (congrFun (hFc13.1 42 rfl) _))]; omega)]; exact g13_0
          have n69c : ((s.1 42 (y13_4).toNatClampNeg).toInt ≤ (z25x13).toInt) := by rw [(show z25x13 = s.1 42 (y13_4).toNatClampNeg from e25x13.trans (congrFun (hFc13.1 42 rfl) _))]; exact Int.le_refl _
          have n69d : ((z57).toInt = shr (ARE (gvD s) 0) (fun u => (s.2.1 87 u).toInt) (y13_4).toNatClampNeg) := by have vx := (show ((y13_4).toNatClampNeg : Int) = (y13_4).toInt from clx (by exact (have a0 := in_u i19a; have a1 := in_u ((inv_F hIc13 0 4000 rfl v13_32_0)); have a2 := in_u ((inv_F hIc13 (-1) 4000 rfl v13_32_4)); have a3 := in_u i19; have a4 := in_u i25x13; have a5 := in_u i25x14; have a6 := t_sub e25x14 i25x7 i25x13 rfl; have a7 := in_u i25x7; have a8 := tx_i2l e55; have a9 := in_u i25x6; have a10 := t_add e25x6 i19 (in_c 1 rfl) rfl; have a11 := in_u ((in_c 1 rfl)); have oc := oc_110_86_32; by omega))); have rx := row_32_0 (a1 := z25x7) hIc13 hFc13 rfl rfl rfl (by rw [← v13_32_4, ← v13_32_0]; exact n13_0) q_0 i19 rfl (e25x7.trans (congrArg (sc13.1 42) (show z25x6.toInt.toNat = (y13_4.toInt + 1).toNat from (by rw [show z25x6.toInt = y13_4.toInt + 1 from (by exact (have a0 := in_u i19a; have a1 := in_u ((inv_F hIc13 0 4000 rfl v13_32_0)); have a2 := in_u ((inv_F hIc13 (-1) 4000 rfl v13_32_4)); have a3 := in_u i19; have a4 := in_u i25x13; have a5 := in_u i25x14; have a6 := t_sub e25x14 i25x7 i25x13 rfl; have a7 := in_u i25x7; have a8 := tx_i2l e55; have a9 := in_u i25x6; have a10 := t_add e25x6 i19 (in_c 1 rfl) rfl; have a11 := in_u ((in_c 1 rfl)); have oc := oc_110_86_32; by omega))])))); rw [hFc13.1 42 rfl, ← vx] at rx; have oc9 : (z25x14).toInt = cn (ARE (gvD s) 0) ((y13_4).toNatClampNeg : Int) 160 := (by rw [t_sub e25x14 i25x7 i25x13 rfl, (show z25x13 = s.1 42 (y13_4).toNatClampNeg from e25x13.trans (congrFun (hFc13.1 42 rfl) _))]; exact rx.2.2.2); exact shr_v (o := (z25x14).toInt) (urg_b q_2 (show (y13_4).toNatClampNeg < (s.2.2.1 32 1).toInt.toNat from (by show (y13_4).toInt.toNat < _; rw [← e_32_1]; exact (have a0 := in_u i19a; have a1 := in_u ((inv_F hIc13 0 4000 rfl v13_32_0)); have a2 := in_u ((inv_F hIc13 (-1) 4000 rfl v13_32_4)); have a3 := in_u i19; have a4 := in_u i25x13; have a5 := in_u i25x14; have a6 := t_sub e25x14 i25x7 i25x13 rfl; have a7 := in_u i25x7; have a8 := tx_i2l e55; have a9 := in_u i25x6; have a10 := t_add e25x6 i19 (in_c 1 rfl) rfl; have a11 := in_u ((in_c 1 rfl)); have oc := oc_110_86_32; by omega))) (show (s.2.2.1 32 1).toInt.toNat ≤ 32 from (by have h9 := inv_F hI (z := s.2.2.1 32 1) 0 32 rfl rfl; unfold In at h9; omega))) (show (z45).toInt = (fun u => (s.2.1 87 u).toInt) (y13_4).toNatClampNeg from congrArg Int64.toInt (e45.trans (congrFun g13_2 _))) oc9 (by exact (have a0 := in_u i19a; have a1 := in_u ((inv_F hIc13 0 4000 rfl v13_32_0)); have a2 := in_u ((inv_F hIc13 (-1) 4000 rfl v13_32_4)); have a3 := in_u i19; have a4 := in_u i25x13; have a5 := in_u i25x14; have a6 := t_sub e25x14 i25x7 i25x13 rfl; have a7 := in_u i25x7; have a8 := tx_i2l e55; have a9 := in_u i25x6; have a10 := t_add e25x6 i19 (in_c 1 rfl) rfl; have a11 := in_u ((in_c 1 rfl)); have oc := oc_110_86_32; by omega)) (u_i2l e55) e49 e56 e57
          have n69e : ((z25x14).toInt = cn (ARE (gvD s) 0) ((y13_4).toNatClampNeg : Int) 160) := by have vx := (show ((y13_4).toNatClampNeg : Int) = (y13_4).toInt from clx (by exact (have a0 := in_u i19a; have a1 := in_u ((inv_F hIc13 0 4000 rfl v13_32_0)); have a2 := in_u ((inv_F hIc13 (-1) 4000 rfl v13_32_4)); have a3 := in_u i19; have a4 := in_u i25x13; have a5 := in_u i25x14; have a6 := t_sub e25x14 i25x7 i25x13 rfl; have a7 := in_u i25x7; have a8 := tx_i2l e55; have a9 := in_u i25x6; have a10 := t_add e25x6 i19 (in_c 1 rfl) rfl; have a11 := in_u ((in_c 1 rfl)); have oc := oc_110_86_32; by omega))); have rx := row_32_0 (a1 := z25x7) hIc13 hFc13 rfl rfl rfl (by rw [← v13_32_4, ← v13_32_0]; exact n13_0) q_0 i19 rfl (e25x7.trans (congrArg (sc13.1 42) (show z25x6.toInt.toNat = (y13_4.toInt + 1).toNat from (by rw [show z25x6.toInt = y13_4.toInt + 1 from (by exact (have a0 := in_u i19a; have a1 := in_u ((inv_F hIc13 0 4000 rfl v13_32_0)); have a2 := in_u ((inv_F hIc13 (-1) 4000 rfl v13_32_4)); have a3 := in_u i19; have a4 := in_u i25x13; have a5 := in_u i25x14; have a6 := t_sub e25x14 i25x7 i25x13 rfl; have a7 := in_u i25x7; have a8 := tx_i2l e55; have a9 := in_u i25x6; have a10 := t_add e25x6 i19 (in_c 1 rfl) rfl; have a11 := in_u ((in_c 1 rfl)); have oc := oc_110_86_32; by omega))])))); rw [hFc13.1 42 rfl, ← vx] at rx; have oc9 : (z25x14).toInt = cn (ARE (gvD s) 0) ((y13_4).toNatClampNeg : Int) 160 := (by rw [t_sub e25x14 i25x7 i25x13 rfl, (show z25x13 = s.1 42 (y13_4).toNatClampNeg from e25x13.trans (congrFun (hFc13.1 42 rfl) _))]; exact rx.2.2.2); exact oc9
          have n69f : ((sc13).2.1 87 = s.2.1 87) := by exact g13_2
          exact gg_w (by first | exact Nat.le_add_right _ _ | exact gw2 | exact gw3 | exact gwe rfl | exact gwf rfl | exact gwg rfl | exact gwh rfl | omega) (gg_f (gf_cons rfl (gf_cons rfl (gf_cons rfl (gf_cons rfl (gf_cons rfl (gf_cons rfl (gf_cons rfl gf_nil))))))) (ct69 161 sc13 z25x14 z57 z25x13 w13_32_4 w13_32_0 hIc13 hFc13 (in_w 0 31 i19 rfl) (in_w (-160) 160 i25x14 rfl) (in_w 0 160 i25x13 rfl) v13_32_4 v13_32_0 n69 n69a n69b n69c n69d n69e n69f (m_in 161 (in_w 0 160 i25x13 rfl) rfl)))
        · skip
          have i32 := z_eq 0 0 c32 i25x14 rfl
          refine g_lconst 0 36 (gd rfl) rfl rfl ?_
          refine g_goto 58 (gd rfl) rfl ?_
          refine g_lstore 60 (gd rfl) rfl (Nat.le_of_ble_eq_true rfl) ?_
          refine g_aload_n 61 (gd rfl) rfl rfl ?_
          refine g_getA (q2 := 42) 64 (gd rfl) rfl rfl rfl rfl ?_
          refine g_iload 66 (gd rfl) rfl rfl ?_
          refine g_iaload 67 (gd rfl) rfl (n := 33) rfl (in_ix i19 rfl) (fun z66 e66 => ?_)
          have q66 : z25x13 = z66 := (e25x13).trans e66.symm
          subst q66
          refine g_istore 69 (gd rfl) rfl (Nat.le_of_ble_eq_true rfl) ?_
          have n69 : (w13_32_4).toInt = (w13_32_0).toInt := by first | exact n13_0 | (exact (have a0 := in_u i19a; have a1 := in_u ((inv_F hIc13 0 4000 rfl v13_32_0)); have a2 := in_u ((inv_F hIc13 (-1) 4000 rfl v13_32_4)); have a3 := in_u i19; have a4 := in_u i25x13; have a5 := in_u i32; have a6 := t_sub e25x14 i25x7 i25x13 rfl; have a7 := in_u i25x7; have a8 := in_u i25x6; have a9 := t_add e25x6 i19 (in_c 1 rfl) rfl; have a10 := in_u ((in_c 1 rfl)); have oc := oc_110_86_32; by omega))
          have n69a : (y13_4).toInt < (u_32_1).toInt := by exact (have a0 := in_u i19a; have a1 := in_u ((inv_F hIc13 0 4000 rfl v13_32_0)); have a2 := in_u ((inv_F hIc13 (-1) 4000 rfl v13_32_4)); have a3 := in_u i19; have a4 := in_u i25x13; have a5 := in_u i32; have a6 := t_sub e25x14 i25x7 i25x13 rfl; have a7 := in_u i25x7; have a8 := in_u i25x6; have a9 := t_add e25x6 i19 (in_c 1 rfl) rfl; have a10 := in_u ((in_c 1 rfl)); have oc := oc_110_86_32; by omega)
          have n69b : RKA (ARE (gvD s) 0) (ARE (gvD s) 1) (fun u => (s.2.1 87 u).toInt) ((sc13).2.1 88) (y13_4).toNatClampNeg ((z25x13).toInt - (s.1 42 (y13_4).toNatClampNeg).toInt) := by rw [show (z25x13).toInt - (s.1 42 (y13_4).toNatClampNeg).toInt = 0 from (by rw [(show z25x13 = s.1 42 (y13_4).toNatClampNeg from e25x13.trans (congrFun (hFc13.1 42 rfl) _))]; omega)]; exact g13_0
          have n69c : ((s.1 42 (y13_4).toNatClampNeg).toInt ≤ (z25x13).toInt) := by rw [(show z25x13 = s.1 42 (y13_4).toNatClampNeg from e25x13.trans (congrFun (hFc13.1 42 rfl) _))]; exact Int.le_refl _
          have n69d : (((Int64.ofInt 0)).toInt = shr (ARE (gvD s) 0) (fun u => (s.2.1 87 u).toInt) (y13_4).toNatClampNeg) := by have vx := (show ((y13_4).toNatClampNeg : Int) = (y13_4).toInt from clx (by exact (have a0 := in_u i19a; have a1 := in_u ((inv_F hIc13 0 4000 rfl v13_32_0)); have a2 := in_u ((inv_F hIc13 (-1) 4000 rfl v13_32_4)); have a3 := in_u i19; have a4 := in_u i25x13; have a5 := in_u i32; have a6 := t_sub e25x14 i25x7 i25x13 rfl; have a7 := in_u i25x7; have a8 := in_u i25x6; have a9 := t_add e25x6 i19 (in_c 1 rfl) rfl; have a10 := in_u ((in_c 1 rfl)); have oc := oc_110_86_32; by omega))); have rx := row_32_0 (a1 := z25x7) hIc13 hFc13 rfl rfl rfl (by rw [← v13_32_4, ← v13_32_0]; exact n13_0) q_0 i19 rfl (e25x7.trans (congrArg (sc13.1 42) (show z25x6.toInt.toNat = (y13_4.toInt + 1).toNat from (by rw [show z25x6.toInt = y13_4.toInt + 1 from (by exact (have a0 := in_u i19a; have a1 := in_u ((inv_F hIc13 0 4000 rfl v13_32_0)); have a2 := in_u ((inv_F hIc13 (-1) 4000 rfl v13_32_4)); have a3 := in_u i19; have a4 := in_u i25x13; have a5 := in_u i32; have a6 := t_sub e25x14 i25x7 i25x13 rfl; have a7 := in_u i25x7; have a8 := in_u i25x6; have a9 := t_add e25x6 i19 (in_c 1 rfl) rfl; have a10 := in_u ((in_c 1 rfl)); have oc := oc_110_86_32; by omega))])))); rw [hFc13.1 42 rfl, ← vx] at rx; have oc9 : (z25x14).toInt = cn (ARE (gvD s) 0) ((y13_4).toNatClampNeg : Int) 160 := (by rw [t_sub e25x14 i25x7 i25x13 rfl, (show z25x13 = s.1 42 (y13_4).toNatClampNeg from e25x13.trans (congrFun (hFc13.1 42 rfl) _))]; exact rx.2.2.2); exact shr_z (o := (z25x14).toInt) oc9 (by exact (have a0 := in_u i19a; have a1 := in_u ((inv_F hIc13 0 4000 rfl v13_32_0)); have a2 := in_u ((inv_F hIc13 (-1) 4000 rfl v13_32_4)); have a3 := in_u i19; have a4 := in_u i25x13; have a5 := in_u i32; have a6 := t_sub e25x14 i25x7 i25x13 rfl; have a7 := in_u i25x7; have a8 := in_u i25x6; have a9 := t_add e25x6 i19 (in_c 1 rfl) rfl; have a10 := in_u ((in_c 1 rfl)); have oc := oc_110_86_32; by omega)) rfl
          have n69e : ((z25x14).toInt = cn (ARE (gvD s) 0) ((y13_4).toNatClampNeg : Int) 160) := by have vx := (show ((y13_4).toNatClampNeg : Int) = (y13_4).toInt from clx (by exact (have a0 := in_u i19a; have a1 := in_u ((inv_F hIc13 0 4000 rfl v13_32_0)); have a2 := in_u ((inv_F hIc13 (-1) 4000 rfl v13_32_4)); have a3 := in_u i19; have a4 := in_u i25x13; have a5 := in_u i32; have a6 := t_sub e25x14 i25x7 i25x13 rfl; have a7 := in_u i25x7; have a8 := in_u i25x6; have a9 := t_add e25x6 i19 (in_c 1 rfl) rfl; have a10 := in_u ((in_c 1 rfl)); have oc := oc_110_86_32; by omega))); have rx := row_32_0 (a1 := z25x7) hIc13 hFc13 rfl rfl rfl (by rw [← v13_32_4, ← v13_32_0]; exact n13_0) q_0 i19 rfl (e25x7.trans (congrArg (sc13.1 42) (show z25x6.toInt.toNat = (y13_4.toInt + 1).toNat from (by rw [show z25x6.toInt = y13_4.toInt + 1 from (by exact (have a0 := in_u i19a; have a1 := in_u ((inv_F hIc13 0 4000 rfl v13_32_0)); have a2 := in_u ((inv_F hIc13 (-1) 4000 rfl v13_32_4)); have a3 := in_u i19; have a4 := in_u i25x13; have a5 := in_u i32; have a6 := t_sub e25x14 i25x7 i25x13 rfl; have a7 := in_u i25x7; have a8 := in_u i25x6; have a9 := t_add e25x6 i19 (in_c 1 rfl) rfl; have a10 := in_u ((in_c 1 rfl)); have oc := oc_110_86_32; by omega))])))); rw [hFc13.1 42 rfl, ← vx] at rx; have oc9 : (z25x14).toInt = cn (ARE (gvD s) 0) ((y13_4).toNatClampNeg : Int) 160 := (by rw [t_sub e25x14 i25x7 i25x13 rfl, (show z25x13 = s.1 42 (y13_4).toNatClampNeg from e25x13.trans (congrFun (hFc13.1 42 rfl) _))]; exact rx.2.2.2); exact oc9
          have n69f : ((sc13).2.1 87 = s.2.1 87) := by exact g13_2
          exact gg_w (by first | exact Nat.le_add_right _ _ | exact gw2 | exact gw3 | exact gwe rfl | exact gwf rfl | exact gwg rfl | exact gwh rfl | omega) (gg_f (gf_cons rfl (gf_cons rfl (gf_cons rfl (gf_cons rfl (gf_cons rfl (gf_cons rfl (gf_cons rfl gf_nil))))))) (ct69 161 sc13 z25x14 (Int64.ofInt 0) z25x13 w13_32_4 w13_32_0 hIc13 hFc13 (in_w 0 31 i19 rfl) (in_w (-160) 160 i32 rfl) (in_w 0 160 i25x13 rfl) v13_32_4 v13_32_0 n69 n69a n69b n69c n69d n69e n69f (m_in 161 (in_w 0 160 i25x13 rfl) rfl)))
  refine g_enter2 (k := 110) (N := 4901435) (by first | exact dq1 hd rfl | exact dq0 hd rfl | exact dq2 hd rfl | exact dq3 hd rfl | omega) rfl (Nat.le_of_ble_eq_true rfl) ?_
  refine g_lconst 0 1 (gd rfl) rfl rfl ?_
  refine g_lstore_n 2 (gd rfl) rfl (Nat.le_of_ble_eq_true rfl) ?_
  refine g_aload_n 3 (gd rfl) rfl rfl ?_
  refine g_getA (q2 := 88) 6 (gd rfl) rfl rfl rfl rfl ?_
  refine g_lconst 0 7 (gd rfl) rfl rfl ?_
  refine g_calls (As := [.ref (A 88), .long (Int64.ofInt 0)]) (r := []) 10 (gd rfl) rfl rfl rfl rfl rfl (Nat.le_of_ble_eq_true rfl) (Nat.zero_le _) (Nat.zero_le _) (k_fillL 88 (by first | exact dq1 hd rfl | exact dq0 hd rfl | exact dq2 hd rfl | exact dq3 hd rfl | omega) hI (n := 32) rfl rfl rfl (l_rng (Int64.ofInt 0))) (fun v u h => ?_)
  obtain ⟨s7, hI7, hF7, rfl, rfl, fl7⟩ := h
  show GG _ _ _ _ _ _ _ _ [] _ _ _
  refine g_iconst 0 11 (gd rfl) rfl rfl ?_
  refine g_istore 13 (gd rfl) rfl (Nat.le_of_ble_eq_true rfl) ?_
  have v13 : u_32_4 = s7.2.2.1 32 4 := fr_F (e_32_4) hF7 rfl
  have v13a : u_32_0 = s7.2.2.1 32 0 := fr_F (e_32_0) hF7 rfl
  have n13 : (u_32_4).toInt = (u_32_0).toInt := by exact (have a0 := in_u ro_32_1; have a1 := in_u ((inv_F hI 0 4000 rfl e_32_0)); have a2 := in_u ((inv_F hI (-1) 4000 rfl e_32_4)); have a3 := in_u ((in_c 0 rfl)); have oc := oc_110_86_32; by omega)
  have n13a : ((Int32.ofInt 0)).toInt ≤ (u_32_1).toInt := by exact (have a0 := in_u ro_32_1; have a1 := in_u ((inv_F hI 0 4000 rfl e_32_0)); have a2 := in_u ((inv_F hI (-1) 4000 rfl e_32_4)); have a3 := in_u ((in_c 0 rfl)); have oc := oc_110_86_32; by omega)
  have n13b : RKA (ARE (gvD s) 0) (ARE (gvD s) 1) (fun u => (s.2.1 87 u).toInt) ((s7).2.1 88) ((Int32.ofInt 0)).toNatClampNeg 0 := by exact rka_0 (ndx_q q_1 (show (((s.2.2.1 32 1).toInt.toNat : Nat) : Int) = (s.2.2.1 32 1).toInt from (by have h9 := inv_F hI (z := s.2.2.1 32 1) 0 32 rfl rfl; unfold In at h9; omega))) rfl rfl (fun v hv => fl7 v hv)
  have n13c : (((Int64.ofInt 0)).toInt = pot (ARE (gvD s) 0) (fun u => (s.2.1 87 u).toInt) ((Int32.ofInt 0)).toNatClampNeg) := by exact (show (Int64.ofInt 0).toInt = pot (ARE (gvD s) 0) (fun u => (s.2.1 87 u).toInt) 0 from rfl)
  have n13d : ((s7).2.1 87 = s.2.1 87) := by exact hF7.2.1 87 rfl
  exact gg_w (by first | exact Nat.le_of_ble_eq_true rfl | omega) (gg_f (gf_cons rfl (gf_cons rfl (gf_cons rfl (gf_cons rfl gf_nil)))) (ct13 33 s7 (Int64.ofInt 0) (Int32.ofInt 0) u_32_4 u_32_0 hI7 (fr_tr rfl fr_rf hF7) (in_w 0 32 (in_c 0 rfl) rfl) v13 v13a n13 n13a n13b n13c n13d (m_in 33 (in_w 0 32 (in_c 0 rfl) rfl) rfl)))

theorem oc_109_86_2 : (Int32.ofInt (-1)).toInt = (-1) ∧ (Int32.ofInt 0).toInt = 0 ∧ (Int32.ofInt 1).toInt = 1 ∧ (Int64.ofInt 1000000000000).toInt = 1000000000000 := ⟨rfl, rfl, rfl, rfl⟩
set_option maxHeartbeats 4000000 in
/-- GraphHouse$Groups.unitsOf -/
theorem f_109_86_2 {Z : AmZ} {A : Nat → Nat} {s : GS} {ex : va_W} {d : Nat} {X : AmX} {x2 : Int32} {x3 : Int32} (hd : 4 ≤ d) (hI : Inv s) (h2 : In x2 0 31) (h3 : In x3 0 40) (q_0 : TQ s) (q_1 : NDQ (gvC s)) (q_2 : RKB (gvC s) s) (q_3 : (0 < (s.2.2.1 2 1).toInt)) : GC Z d 109 [.ref (A 86), .ref (A 2), .int x2, .int x3] (WW Z A s ++ ex) 0 0 (fun v u => ∃ xa ya : Nat, ∃ t : GS, Inv t ∧ Fr fm_109_86_2 s t ∧ ∃ z : Int64, v = some (.long z) ∧ u = WW Z (a2 A xa ya) t ++ ex ∧ (RKQ (gvC s) t) ∧ ((((t).2.2.1 86 1).toInt = (x3).toInt ∧ (z) = (t).2.1 87 (x2).toNatClampNeg))) X := by
  intro post xp hP hX
  obtain ⟨u_2_0, e_2_0⟩ : ∃ w, w = s.2.2.1 2 0 := ⟨_, rfl⟩
  have ro_2_0 := inv_F hI 0 4000 rfl e_2_0
  have ct46 : ∀ (k46 : Nat) (sc46 : GS) (xc46 : Nat) (yc46 : Nat) (w46_86_1 : Int32) (w46_2_4 : Int32) (w46_2_0 : Int32), Inv sc46 → Fr fm_109_86_2 s sc46 → (w46_86_1 = sc46.2.2.1 86 1) → (w46_2_4 = sc46.2.2.1 2 4) → (w46_2_0 = sc46.2.2.1 2 0) → ((w46_2_4).toInt = (w46_2_0).toInt) → ((w46_86_1).toInt ≤ (x3).toInt) → (RKG (gvC s) (w46_86_1).toInt ((sc46).2.1 87)) → ((((sc46).2.2.1 86 0).toInt = (s.2.2.1 2 0).toInt)) → 41 - (w46_86_1).toInt < (k46 : Int) → GG Z (d - 1) 109 post (gx xp) (1 + k46 * 900) 46 (fun j => xlook j [(0, .ref (A 86)), (1, .ref (A 2)), (2, .int x2), (3, .int x3)]) [] (WW Z (a2 A xc46 yc46) sc46 ++ ex) 0 0 := by
    intro k46
    induction k46 with
    | zero => intro sc46 xc46 yc46 w46_86_1 w46_2_4 w46_2_0 hIc46 hFc46 v46_86_1 v46_2_4 v46_2_0 n46_0 n46_1 g46_0 g46_1 mm46; exfalso; exact (have a0 := in_u h3; have a1 := in_u h2; have a2 := in_u ((inv_F hIc46 0 4000 rfl v46_2_0)); have a3 := in_u ((inv_F hIc46 (-1) 4000 rfl v46_2_4)); have a4 := in_u ((inv_F hIc46 0 40 rfl v46_86_1)); have oc := oc_109_86_2; by omega)
    | succ k46 ih46 =>
      intro sc46 xc46 yc46 w46_86_1 w46_2_4 w46_2_0 hIc46 hFc46 v46_86_1 v46_2_4 v46_2_0 n46_0 n46_1 g46_0 g46_1 mm46
      refine gg_w (M := 1 + k46 * 900 + 900) gws ?_
      refine g_aload_n 47 (gd rfl) rfl rfl ?_
      refine g_getI (A := (a2 A xc46 yc46)) (q := 86) 50 (gd rfl) rfl rfl rfl (fun z47 e47 => ?_)
      have q47 : w46_86_1 = z47 := (v46_86_1).trans e47.symm
      subst q47
      refine g_iload_n 51 (gd rfl) rfl rfl ?_
      refine g_cmp_ge 54 72 (gd rfl) rfl rfl (fun c51 => ?_) (fun c51 => ?_)
      · skip
        refine g_aload_n 73 (gd rfl) rfl rfl ?_
        refine g_getA (A := (a2 A xc46 yc46)) (q := 86) (q2 := 87) 76 (gd rfl) rfl rfl rfl rfl ?_
        refine g_iload_n 77 (gd rfl) rfl rfl ?_
        refine g_laload (A := (a2 A xc46 yc46)) (q := 87) 78 (gd rfl) rfl (n := 32) rfl (in_ix h2 rfl) (fun z77 e77 => ?_)
        have n78 : RKQ (gvC s) sc46 := by exact ⟨g46_1, by rw [← (show (w46_86_1).toInt = (sc46.2.2.1 86 1).toInt from congrArg Int32.toInt v46_86_1)]; exact g46_0⟩
        have n78a : (((sc46).2.2.1 86 1).toInt = (x3).toInt ∧ (z77) = (sc46).2.1 87 (x2).toNatClampNeg) := by exact ⟨by rw [← (show (w46_86_1).toInt = (sc46.2.2.1 86 1).toInt from congrArg Int32.toInt v46_86_1)]; exact (have a0 := in_u h3; have a1 := in_u h2; have a2 := in_u ((inv_F hIc46 0 4000 rfl v46_2_0)); have a3 := in_u ((inv_F hIc46 (-1) 4000 rfl v46_2_4)); have a4 := in_u ((inv_F hIc46 0 40 rfl v46_86_1)); have oc := oc_109_86_2; by omega), e77⟩
        exact g_lreturn (gd rfl) rfl (hP _ _ ⟨xc46, yc46, sc46, hIc46, hFc46, z77, rfl, rfl, n78, n78a⟩)
      · skip
        have i51 := r_lt1 0 39 c51 (inv_F hIc46 0 40 rfl v46_86_1) h3 rfl
        have i51a := r_lt2 1 40 c51 (inv_F hIc46 0 40 rfl v46_86_1) h3 rfl
        refine g_aload_n 55 (gd rfl) rfl rfl ?_
        refine g_aload_n 56 (gd rfl) rfl rfl ?_
        have n56 : (w46_2_4).toInt = (w46_2_0).toInt := by first | exact n46_0 | (exact (have a0 := in_u i51a; have a1 := in_u h2; have a2 := in_u ((inv_F hIc46 0 4000 rfl v46_2_0)); have a3 := in_u ((inv_F hIc46 (-1) 4000 rfl v46_2_4)); have a4 := in_u i51; have oc := oc_109_86_2; by omega))
        have p56 : TQ sc46 := by exact tq_fr q_0 hFc46 rfl
        have p56a : NDQ (gvC sc46) := by rw [(gvC_cg hFc46 rfl)]; exact q_1
        have p56b : URG (sc46.2.2.1 2 1).toInt.toNat (fun u => (sc46.2.1 87 u).toInt) := by rw [(hFc46.2.2.1 2 1 rfl)]; exact (rkg_u (ndx_q q_1 (show (((s.2.2.1 2 1).toInt.toNat : Nat) : Int) = (s.2.2.1 2 1).toInt from (by have h9 := q_3; omega))) (show (s.2.2.1 2 1).toInt.toNat = (gvC s).2.2.2.2.2.2.1.toNat from rfl) (show 0 < (s.2.2.1 2 1).toInt.toNat from (by have h9 := q_3; omega)) g46_0)
        refine g_callv (X := _) (As := [.ref (A 2)]) (r := []) (b := A 86) (q := 86) 59 (gd rfl) rfl rfl rfl rfl rfl (ww_o rfl) (Nat.le_of_ble_eq_true rfl) (Nat.zero_le _) (Nat.zero_le _) (f_110_86_2 (A := (a2 A xc46 yc46)) (by omega) hIc46 v46_2_4 v46_2_0 n56 p56 p56a p56b) (fun e u h => h) (fun v u h => ?_)
        obtain ⟨xa56, ya56, s56, hI56, hF56, rfl, rfl, p56c⟩ := h
        rw [a2_a2]
        show GG _ _ _ _ _ _ _ _ [] _ _ _
        refine g_aload_n 60 (gd rfl) rfl rfl ?_
        refine g_dup 61 (gd rfl) rfl rfl ?_
        refine g_getI (A := (a2 A xa56 ya56)) (q := 86) 64 (gd rfl) rfl rfl rfl (fun z61 e61 => ?_)
        have q61 : w46_86_1 = z61 := (fr_F (v46_86_1) hF56 rfl).trans e61.symm
        subst q61
        refine g_iconst 1 65 (gd rfl) rfl rfl ?_
        refine g_iadd 66 (gd rfl) rfl (fun z65 e65 => ?_)
        have i65 := in_add 1 40 e65 i51 (in_c 1 rfl) rfl rfl
        refine g_putI (A := (a2 A xa56 ya56)) (q := 86) 69 (gd rfl) rfl rfl rfl rfl ?_
        have hI66 := inv_sF (q := 86) (j := 1) hI56 rfl (in_w 0 40 i65 rfl)
        refine g_goto 46 (gd rfl) rfl ?_
        have v46 : z65 = (sF s56 86 1 z65).2.2.1 86 1 := sF_get
        have v46a : w46_2_4 = (sF s56 86 1 z65).2.2.1 2 4 := sF_ne rfl (fr_F (v46_2_4) hF56 rfl)
        have v46b : w46_2_0 = (sF s56 86 1 z65).2.2.1 2 0 := sF_ne rfl (fr_F (v46_2_0) hF56 rfl)
        have n46 : (w46_2_4).toInt = (w46_2_0).toInt := by first | exact n46_0 | (exact (have a0 := in_u i51a; have a1 := in_u h2; have a2 := in_u ((inv_F hIc46 0 4000 rfl v46_2_0)); have a3 := in_u ((inv_F hIc46 (-1) 4000 rfl v46_2_4)); have a4 := in_u i51; have a5 := in_u i65; have a6 := t_add e65 i51 (in_c 1 rfl) rfl; have a7 := in_u ((in_c 1 rfl)); have oc := oc_109_86_2; by omega))
        have n46a : (z65).toInt ≤ (x3).toInt := by exact (have a0 := in_u i51a; have a1 := in_u h2; have a2 := in_u ((inv_F hIc46 0 4000 rfl v46_2_0)); have a3 := in_u ((inv_F hIc46 (-1) 4000 rfl v46_2_4)); have a4 := in_u i51; have a5 := in_u i65; have a6 := t_add e65 i51 (in_c 1 rfl) rfl; have a7 := in_u ((in_c 1 rfl)); have oc := oc_109_86_2; by omega)
        have n46b : RKG (gvC s) (z65).toInt (((sF s56 86 1 z65)).2.1 87) := by exact rkg_s (ndx_q q_1 (show (((s.2.2.1 2 1).toInt.toNat : Nat) : Int) = (s.2.2.1 2 1).toInt from (by have h9 := q_3; omega))) (show (s.2.2.1 2 1).toInt.toNat = (gvC s).2.2.2.2.2.2.1.toNat from rfl) g46_0 (by exact (have a0 := in_u i51a; have a1 := in_u h2; have a2 := in_u ((inv_F hIc46 0 4000 rfl v46_2_0)); have a3 := in_u ((inv_F hIc46 (-1) 4000 rfl v46_2_4)); have a4 := in_u i51; have a5 := in_u i65; have a6 := t_add e65 i51 (in_c 1 rfl) rfl; have a7 := in_u ((in_c 1 rfl)); have oc := oc_109_86_2; by omega)) (by exact (have a0 := in_u i51a; have a1 := in_u h2; have a2 := in_u ((inv_F hIc46 0 4000 rfl v46_2_0)); have a3 := in_u ((inv_F hIc46 (-1) 4000 rfl v46_2_4)); have a4 := in_u i51; have a5 := in_u i65; have a6 := t_add e65 i51 (in_c 1 rfl) rfl; have a7 := in_u ((in_c 1 rfl)); have oc := oc_109_86_2; by omega)) (fun v hv => by have h9 := p56c v (by rw [(hFc46.2.2.1 2 1 rfl)]; exact hv); rw [(gvC_cg hFc46 rfl), (hFc46.2.2.1 2 1 rfl)] at h9; exact h9)
        have n46c : ((((sF s56 86 1 z65)).2.2.1 86 0).toInt = (s.2.2.1 2 0).toInt) := by rw [← (show s56.2.2.1 86 0 = (sF s56 86 1 z65).2.2.1 86 0 from sF_ne rfl rfl), hF56.2.2.1 86 0 rfl]; exact g46_1
        have m46 : 41 - (z65).toInt < ((k46 : Nat) : Int) := by exact (have a0 := in_u i51a; have a1 := in_u h2; have a2 := in_u ((inv_F hIc46 0 4000 rfl v46_2_0)); have a3 := in_u ((inv_F hIc46 (-1) 4000 rfl v46_2_4)); have a4 := in_u i51; have a5 := in_u i65; have a6 := t_add e65 i51 (in_c 1 rfl) rfl; have a7 := in_u ((in_c 1 rfl)); have oc := oc_109_86_2; by omega)
        exact gg_w (by first | exact Nat.le_add_right _ _ | exact gw2 | exact gw3 | exact gwe rfl | exact gwf rfl | exact gwg rfl | exact gwh rfl | omega) (gg_f (gf_cons rfl (gf_cons rfl (gf_cons rfl (gf_cons rfl gf_nil)))) (ih46  (sF s56 86 1 z65) xa56 ya56 z65 w46_2_4 w46_2_0 hI66 (fr_sF rfl (fr_tr rfl hFc46 hF56)) v46 v46a v46b n46 n46a n46b n46c m46))
  refine g_enter2 (k := 109) (N := 38701) (by first | exact dq1 hd rfl | exact dq0 hd rfl | exact dq2 hd rfl | exact dq3 hd rfl | omega) rfl (Nat.le_of_ble_eq_true rfl) ?_
  refine g_aload_n 1 (gd rfl) rfl rfl ?_
  refine g_getI 4 (gd rfl) rfl rfl rfl (fun z1 e1 => ?_)
  have i1 := inv_F hI (-1) 4000 rfl e1
  refine g_aload_n 5 (gd rfl) rfl rfl ?_
  refine g_getI 8 (gd rfl) rfl rfl rfl (fun z5 e5 => ?_)
  have q5 : u_2_0 = z5 := (e_2_0).trans e5.symm
  subst q5
  refine g_cmp_ne 11 19 (gd rfl) rfl rfl (fun c8 => ?_) (fun c8 => ?_)
  · skip
    refine g_aload_n 20 (gd rfl) rfl rfl ?_
    refine g_aload_n 21 (gd rfl) rfl rfl ?_
    refine g_getI 24 (gd rfl) rfl rfl rfl (fun z21 e21 => ?_)
    have q21 : u_2_0 = z21 := (e_2_0).trans e21.symm
    subst q21
    refine g_putI 27 (gd rfl) rfl rfl rfl rfl ?_
    have hI24 := inv_sF (q := 86) (j := 0) hI rfl (in_w (-1) 4000 ro_2_0 rfl)
    refine g_aload_n 28 (gd rfl) rfl rfl ?_
    refine g_iconst 0 29 (gd rfl) rfl rfl ?_
    refine g_putI 32 (gd rfl) rfl rfl rfl rfl ?_
    have hI29 := inv_sF (q := 86) (j := 1) hI24 rfl (in_w 0 40 (in_c 0 rfl) rfl)
    refine g_aload_n 33 (gd rfl) rfl rfl ?_
    refine g_getA (q2 := 87) 36 (gd rfl) rfl rfl rfl rfl ?_
    refine g_ldc2_w 1000000000000 39 (gd rfl) rfl rfl ?_
    refine g_calls (As := [.ref (A 87), .long (Int64.ofInt 1000000000000)]) (r := []) 42 (gd rfl) rfl rfl rfl rfl rfl (Nat.le_of_ble_eq_true rfl) (Nat.zero_le _) (Nat.zero_le _) (k_fillL 87 (by first | exact dq1 hd rfl | exact dq0 hd rfl | exact dq2 hd rfl | exact dq3 hd rfl | omega) hI29 (n := 32) rfl rfl rfl (l_rng (Int64.ofInt 1000000000000))) (fun v u h => ?_)
    obtain ⟨s39, hI39, hF39, rfl, rfl, fl39⟩ := h
    show GG _ _ _ _ _ _ _ _ [] _ _ _
    refine g_aload_n 43 (gd rfl) rfl rfl ?_
    refine g_callv (X := _) (As := []) (r := []) (b := A 2) (q := 2) 46 (gd rfl) rfl rfl rfl rfl rfl (ww_o rfl) (Nat.le_of_ble_eq_true rfl) (Nat.zero_le _) (Nat.zero_le _) (k_106_2 (by first | exact dq1 hd rfl | exact dq0 hd rfl | exact dq2 hd rfl | exact dq3 hd rfl | omega) hI39 ) (fun e u h => h) (fun v u h => ?_)
    obtain ⟨s43, hI43, hF43, n43, rfl, rfl⟩ := h
    obtain ⟨z43a, e43⟩ : ∃ w, w = s43.2.2.1 2 4 := ⟨_, rfl⟩
    have i43a := inv_F hI43 (-1) 4000 rfl e43
    rw [← (show z43a = s43.2.2.1 2 4 from e43)] at n43
    rw [← (show u_2_0 = s43.2.2.1 2 0 from fr_F (fr_F (s := (sF (sF s 86 0 u_2_0) 86 1 (Int32.ofInt 0))) (sF_ne rfl (sF_ne rfl (e_2_0))) hF39 rfl) hF43 rfl)] at n43
    show GG _ _ _ _ _ _ _ _ [] _ _ _
    rw [show WW Z A s43 ++ ex = WW Z (a2 A (A 87) (A 88)) s43 ++ ex from by rw [a2_id]]
    have v46 : (Int32.ofInt 0) = s43.2.2.1 86 1 := fr_F (fr_F (s := (sF (sF s 86 0 u_2_0) 86 1 (Int32.ofInt 0))) (sF_get) hF39 rfl) hF43 rfl
    have v46a : u_2_0 = s43.2.2.1 2 0 := fr_F (fr_F (s := (sF (sF s 86 0 u_2_0) 86 1 (Int32.ofInt 0))) (sF_ne rfl (sF_ne rfl (e_2_0))) hF39 rfl) hF43 rfl
    have n46 : (z43a).toInt = (u_2_0).toInt := by exact (have a0 := in_u ro_2_0; have a1 := in_u h3; have a2 := in_u h2; have a3 := in_u i43a; have a4 := in_u ((in_c 0 rfl)); have oc := oc_109_86_2; by omega)
    have n46a : ((Int32.ofInt 0)).toInt ≤ (x3).toInt := by exact (have a0 := in_u ro_2_0; have a1 := in_u h3; have a2 := in_u h2; have a3 := in_u i43a; have a4 := in_u ((in_c 0 rfl)); have oc := oc_109_86_2; by omega)
    have n46b : RKG (gvC s) ((Int32.ofInt 0)).toInt ((s43).2.1 87) := by exact rkg_0 rfl (fun v hv => by rw [hF43.2.1 87 rfl]; exact fl39 v (by have h9 : (v : Int) < (s.2.2.1 2 1).toInt := hv; have h8 := inv_F hI (z := s.2.2.1 2 1) 0 32 rfl rfl; unfold In at h8; omega))
    have n46c : (((s43).2.2.1 86 0).toInt = (s.2.2.1 2 0).toInt) := by rw [hF43.2.2.1 86 0 rfl, hF39.2.2.1 86 0 rfl, ← e_2_0]; rfl
    have m46 : 41 - ((Int32.ofInt 0)).toInt < ((42 : Nat) : Int) := by exact (have a0 := in_u ro_2_0; have a1 := in_u h3; have a2 := in_u h2; have a3 := in_u i43a; have a4 := in_u ((in_c 0 rfl)); have oc := oc_109_86_2; by omega)
    exact gg_w (by first | exact Nat.le_of_ble_eq_true rfl | omega) (gg_f (gf_cons rfl (gf_cons rfl (gf_cons rfl (gf_cons rfl gf_nil)))) (ct46 42 s43 (A 87) (A 88) (Int32.ofInt 0) z43a u_2_0 hI43 (fr_tr rfl (fr_tr rfl (fr_sF rfl (fr_sF rfl fr_rf)) hF39) hF43) v46 e43 v46a n46 n46a n46b n46c m46))
  · skip
    have i8 := r_eq1 0 4000 c8 i1 ro_2_0 rfl
    refine g_iload_n 12 (gd rfl) rfl rfl ?_
    refine g_aload_n 13 (gd rfl) rfl rfl ?_
    refine g_getI 16 (gd rfl) rfl rfl rfl (fun z13 e13 => ?_)
    have i13 := inv_F hI 0 40 rfl e13
    refine g_cmp_ge 19 42 (gd rfl) rfl rfl (fun c16 => ?_) (fun c16 => ?_)
    · skip
      refine g_aload_n 43 (gd rfl) rfl rfl ?_
      refine g_callv (X := _) (As := []) (r := []) (b := A 2) (q := 2) 46 (gd rfl) rfl rfl rfl rfl rfl (ww_o rfl) (Nat.le_of_ble_eq_true rfl) (Nat.zero_le _) (Nat.zero_le _) (k_106_2 (by first | exact dq1 hd rfl | exact dq0 hd rfl | exact dq2 hd rfl | exact dq3 hd rfl | omega) hI ) (fun e u h => h) (fun v u h => ?_)
      obtain ⟨s43, hI43, hF43, n43, rfl, rfl⟩ := h
      obtain ⟨z43a, e43⟩ : ∃ w, w = s43.2.2.1 2 4 := ⟨_, rfl⟩
      have i43a := inv_F hI43 (-1) 4000 rfl e43
      rw [← (show z43a = s43.2.2.1 2 4 from e43)] at n43
      rw [← (show u_2_0 = s43.2.2.1 2 0 from fr_F (e_2_0) hF43 rfl)] at n43
      show GG _ _ _ _ _ _ _ _ [] _ _ _
      rw [show WW Z A s43 ++ ex = WW Z (a2 A (A 87) (A 88)) s43 ++ ex from by rw [a2_id]]
      have v46 : z13 = s43.2.2.1 86 1 := fr_F (e13) hF43 rfl
      have v46a : u_2_0 = s43.2.2.1 2 0 := fr_F (e_2_0) hF43 rfl
      have n46 : (z43a).toInt = (u_2_0).toInt := by exact (have a0 := in_u ro_2_0; have a1 := in_u h3; have a2 := in_u h2; have a3 := in_u i43a; have a4 := in_u i13; have a5 := in_u i8; have oc := oc_109_86_2; by omega)
      have n46a : (z13).toInt ≤ (x3).toInt := by exact (have a0 := in_u ro_2_0; have a1 := in_u h3; have a2 := in_u h2; have a3 := in_u i43a; have a4 := in_u i13; have a5 := in_u i8; have oc := oc_109_86_2; by omega)
      have n46b : RKG (gvC s) (z13).toInt ((s43).2.1 87) := by rw [hF43.2.1 87 rfl]; have h9 := q_2 (by show (s.2.2.1 86 0).toInt = (s.2.2.1 2 0).toInt; rw [← e1, ← e_2_0]; exact c8); rw [← (show z13 = s.2.2.1 86 1 from e13)] at h9; exact h9
      have n46c : (((s43).2.2.1 86 0).toInt = (s.2.2.1 2 0).toInt) := by rw [hF43.2.2.1 86 0 rfl]; exact (by show (s.2.2.1 86 0).toInt = (s.2.2.1 2 0).toInt; rw [← e1, ← e_2_0]; exact c8)
      have m46 : 41 - (z13).toInt < ((42 : Nat) : Int) := by exact (have a0 := in_u ro_2_0; have a1 := in_u h3; have a2 := in_u h2; have a3 := in_u i43a; have a4 := in_u i13; have a5 := in_u i8; have oc := oc_109_86_2; by omega)
      exact gg_w (by first | exact Nat.le_of_ble_eq_true rfl | omega) (gg_f (gf_cons rfl (gf_cons rfl (gf_cons rfl (gf_cons rfl gf_nil)))) (ct46 42 s43 (A 87) (A 88) z13 z43a u_2_0 hI43 (fr_tr rfl fr_rf hF43) v46 e43 v46a n46 n46a n46b n46c m46))
    · skip
      have i16 := r_lt1 0 39 c16 h3 i13 rfl
      have i16a := r_lt2 1 40 c16 h3 i13 rfl
      refine g_aload_n 20 (gd rfl) rfl rfl ?_
      refine g_aload_n 21 (gd rfl) rfl rfl ?_
      refine g_getI 24 (gd rfl) rfl rfl rfl (fun z21 e21 => ?_)
      have q21 : u_2_0 = z21 := (e_2_0).trans e21.symm
      subst q21
      refine g_putI 27 (gd rfl) rfl rfl rfl rfl ?_
      have hI24 := inv_sF (q := 86) (j := 0) hI rfl (in_w (-1) 4000 ro_2_0 rfl)
      refine g_aload_n 28 (gd rfl) rfl rfl ?_
      refine g_iconst 0 29 (gd rfl) rfl rfl ?_
      refine g_putI 32 (gd rfl) rfl rfl rfl rfl ?_
      have hI29 := inv_sF (q := 86) (j := 1) hI24 rfl (in_w 0 40 (in_c 0 rfl) rfl)
      refine g_aload_n 33 (gd rfl) rfl rfl ?_
      refine g_getA (q2 := 87) 36 (gd rfl) rfl rfl rfl rfl ?_
      refine g_ldc2_w 1000000000000 39 (gd rfl) rfl rfl ?_
      refine g_calls (As := [.ref (A 87), .long (Int64.ofInt 1000000000000)]) (r := []) 42 (gd rfl) rfl rfl rfl rfl rfl (Nat.le_of_ble_eq_true rfl) (Nat.zero_le _) (Nat.zero_le _) (k_fillL 87 (by first | exact dq1 hd rfl | exact dq0 hd rfl | exact dq2 hd rfl | exact dq3 hd rfl | omega) hI29 (n := 32) rfl rfl rfl (l_rng (Int64.ofInt 1000000000000))) (fun v u h => ?_)
      obtain ⟨s39, hI39, hF39, rfl, rfl, fl39⟩ := h
      show GG _ _ _ _ _ _ _ _ [] _ _ _
      refine g_aload_n 43 (gd rfl) rfl rfl ?_
      refine g_callv (X := _) (As := []) (r := []) (b := A 2) (q := 2) 46 (gd rfl) rfl rfl rfl rfl rfl (ww_o rfl) (Nat.le_of_ble_eq_true rfl) (Nat.zero_le _) (Nat.zero_le _) (k_106_2 (by first | exact dq1 hd rfl | exact dq0 hd rfl | exact dq2 hd rfl | exact dq3 hd rfl | omega) hI39 ) (fun e u h => h) (fun v u h => ?_)
      obtain ⟨s43, hI43, hF43, n43, rfl, rfl⟩ := h
      obtain ⟨z43a, e43⟩ : ∃ w, w = s43.2.2.1 2 4 := ⟨_, rfl⟩
      have i43a := inv_F hI43 (-1) 4000 rfl e43
      rw [← (show z43a = s43.2.2.1 2 4 from e43)] at n43
      rw [← (show u_2_0 = s43.2.2.1 2 0 from fr_F (fr_F (s := (sF (sF s 86 0 u_2_0) 86 1 (Int32.ofInt 0))) (sF_ne rfl (sF_ne rfl (e_2_0))) hF39 rfl) hF43 rfl)] at n43
      show GG _ _ _ _ _ _ _ _ [] _ _ _
      rw [show WW Z A s43 ++ ex = WW Z (a2 A (A 87) (A 88)) s43 ++ ex from by rw [a2_id]]
      have v46 : (Int32.ofInt 0) = s43.2.2.1 86 1 := fr_F (fr_F (s := (sF (sF s 86 0 u_2_0) 86 1 (Int32.ofInt 0))) (sF_get) hF39 rfl) hF43 rfl
      have v46a : u_2_0 = s43.2.2.1 2 0 := fr_F (fr_F (s := (sF (sF s 86 0 u_2_0) 86 1 (Int32.ofInt 0))) (sF_ne rfl (sF_ne rfl (e_2_0))) hF39 rfl) hF43 rfl
      have n46 : (z43a).toInt = (u_2_0).toInt := by exact (have a0 := in_u ro_2_0; have a1 := in_u i16; have a2 := in_u h2; have a3 := in_u i43a; have a4 := in_u ((in_c 0 rfl)); have oc := oc_109_86_2; by omega)
      have n46a : ((Int32.ofInt 0)).toInt ≤ (x3).toInt := by exact (have a0 := in_u ro_2_0; have a1 := in_u i16; have a2 := in_u h2; have a3 := in_u i43a; have a4 := in_u ((in_c 0 rfl)); have oc := oc_109_86_2; by omega)
      have n46b : RKG (gvC s) ((Int32.ofInt 0)).toInt ((s43).2.1 87) := by exact rkg_0 rfl (fun v hv => by rw [hF43.2.1 87 rfl]; exact fl39 v (by have h9 : (v : Int) < (s.2.2.1 2 1).toInt := hv; have h8 := inv_F hI (z := s.2.2.1 2 1) 0 32 rfl rfl; unfold In at h8; omega))
      have n46c : (((s43).2.2.1 86 0).toInt = (s.2.2.1 2 0).toInt) := by rw [hF43.2.2.1 86 0 rfl, hF39.2.2.1 86 0 rfl, ← e_2_0]; rfl
      have m46 : 41 - ((Int32.ofInt 0)).toInt < ((42 : Nat) : Int) := by exact (have a0 := in_u ro_2_0; have a1 := in_u i16; have a2 := in_u h2; have a3 := in_u i43a; have a4 := in_u ((in_c 0 rfl)); have oc := oc_109_86_2; by omega)
      exact gg_w (by first | exact Nat.le_of_ble_eq_true rfl | omega) (gg_f (gf_cons rfl (gf_cons rfl (gf_cons rfl (gf_cons rfl gf_nil)))) (ct46 42 s43 (A 87) (A 88) (Int32.ofInt 0) z43a u_2_0 hI43 (fr_tr rfl (fr_tr rfl (fr_sF rfl (fr_sF rfl fr_rf)) hF39) hF43) v46 e43 v46a n46 n46a n46b n46c m46))

theorem oc_109_86_32 : (Int32.ofInt (-1)).toInt = (-1) ∧ (Int32.ofInt 0).toInt = 0 ∧ (Int32.ofInt 1).toInt = 1 ∧ (Int64.ofInt 1000000000000).toInt = 1000000000000 := ⟨rfl, rfl, rfl, rfl⟩
set_option maxHeartbeats 4000000 in
/-- GraphHouse$Groups.unitsOf -/
theorem f_109_86_32 {Z : AmZ} {A : Nat → Nat} {s : GS} {ex : va_W} {d : Nat} {X : AmX} {x2 : Int32} {x3 : Int32} (hd : 4 ≤ d) (hI : Inv s) (h2 : In x2 0 31) (h3 : In x3 0 40) (q_0 : TQD s) (q_1 : NDQ (gvD s)) (q_2 : RKB (gvD s) s) (q_3 : (0 < (s.2.2.1 32 1).toInt)) : GC Z d 109 [.ref (A 86), .ref (A 32), .int x2, .int x3] (WW Z A s ++ ex) 0 0 (fun v u => ∃ xa ya : Nat, ∃ t : GS, Inv t ∧ Fr fm_109_86_32 s t ∧ ∃ z : Int64, v = some (.long z) ∧ u = WW Z (a2 A xa ya) t ++ ex ∧ (RKQ (gvD s) t) ∧ ((((t).2.2.1 86 1).toInt = (x3).toInt ∧ (z) = (t).2.1 87 (x2).toNatClampNeg))) X := by
  intro post xp hP hX
  obtain ⟨u_32_0, e_32_0⟩ : ∃ w, w = s.2.2.1 32 0 := ⟨_, rfl⟩
  have ro_32_0 := inv_F hI 0 4000 rfl e_32_0
  have ct46 : ∀ (k46 : Nat) (sc46 : GS) (xc46 : Nat) (yc46 : Nat) (w46_86_1 : Int32) (w46_32_4 : Int32) (w46_32_0 : Int32), Inv sc46 → Fr fm_109_86_32 s sc46 → (w46_86_1 = sc46.2.2.1 86 1) → (w46_32_4 = sc46.2.2.1 32 4) → (w46_32_0 = sc46.2.2.1 32 0) → ((w46_32_4).toInt = (w46_32_0).toInt) → ((w46_86_1).toInt ≤ (x3).toInt) → (RKG (gvD s) (w46_86_1).toInt ((sc46).2.1 87)) → ((((sc46).2.2.1 86 0).toInt = (s.2.2.1 32 0).toInt)) → 41 - (w46_86_1).toInt < (k46 : Int) → GG Z (d - 1) 109 post (gx xp) (1 + k46 * 900) 46 (fun j => xlook j [(0, .ref (A 86)), (1, .ref (A 32)), (2, .int x2), (3, .int x3)]) [] (WW Z (a2 A xc46 yc46) sc46 ++ ex) 0 0 := by
    intro k46
    induction k46 with
    | zero => intro sc46 xc46 yc46 w46_86_1 w46_32_4 w46_32_0 hIc46 hFc46 v46_86_1 v46_32_4 v46_32_0 n46_0 n46_1 g46_0 g46_1 mm46; exfalso; exact (have a0 := in_u h3; have a1 := in_u h2; have a2 := in_u ((inv_F hIc46 0 4000 rfl v46_32_0)); have a3 := in_u ((inv_F hIc46 (-1) 4000 rfl v46_32_4)); have a4 := in_u ((inv_F hIc46 0 40 rfl v46_86_1)); have oc := oc_109_86_32; by omega)
    | succ k46 ih46 =>
      intro sc46 xc46 yc46 w46_86_1 w46_32_4 w46_32_0 hIc46 hFc46 v46_86_1 v46_32_4 v46_32_0 n46_0 n46_1 g46_0 g46_1 mm46
      refine gg_w (M := 1 + k46 * 900 + 900) gws ?_
      refine g_aload_n 47 (gd rfl) rfl rfl ?_
      refine g_getI (A := (a2 A xc46 yc46)) (q := 86) 50 (gd rfl) rfl rfl rfl (fun z47 e47 => ?_)
      have q47 : w46_86_1 = z47 := (v46_86_1).trans e47.symm
      subst q47
      refine g_iload_n 51 (gd rfl) rfl rfl ?_
      refine g_cmp_ge 54 72 (gd rfl) rfl rfl (fun c51 => ?_) (fun c51 => ?_)
      · skip
        refine g_aload_n 73 (gd rfl) rfl rfl ?_
        refine g_getA (A := (a2 A xc46 yc46)) (q := 86) (q2 := 87) 76 (gd rfl) rfl rfl rfl rfl ?_
        refine g_iload_n 77 (gd rfl) rfl rfl ?_
        refine g_laload (A := (a2 A xc46 yc46)) (q := 87) 78 (gd rfl) rfl (n := 32) rfl (in_ix h2 rfl) (fun z77 e77 => ?_)
        have n78 : RKQ (gvD s) sc46 := by exact ⟨g46_1, by rw [← (show (w46_86_1).toInt = (sc46.2.2.1 86 1).toInt from congrArg Int32.toInt v46_86_1)]; exact g46_0⟩
        have n78a : (((sc46).2.2.1 86 1).toInt = (x3).toInt ∧ (z77) = (sc46).2.1 87 (x2).toNatClampNeg) := by exact ⟨by rw [← (show (w46_86_1).toInt = (sc46.2.2.1 86 1).toInt from congrArg Int32.toInt v46_86_1)]; exact (have a0 := in_u h3; have a1 := in_u h2; have a2 := in_u ((inv_F hIc46 0 4000 rfl v46_32_0)); have a3 := in_u ((inv_F hIc46 (-1) 4000 rfl v46_32_4)); have a4 := in_u ((inv_F hIc46 0 40 rfl v46_86_1)); have oc := oc_109_86_32; by omega), e77⟩
        exact g_lreturn (gd rfl) rfl (hP _ _ ⟨xc46, yc46, sc46, hIc46, hFc46, z77, rfl, rfl, n78, n78a⟩)
      · skip
        have i51 := r_lt1 0 39 c51 (inv_F hIc46 0 40 rfl v46_86_1) h3 rfl
        have i51a := r_lt2 1 40 c51 (inv_F hIc46 0 40 rfl v46_86_1) h3 rfl
        refine g_aload_n 55 (gd rfl) rfl rfl ?_
        refine g_aload_n 56 (gd rfl) rfl rfl ?_
        have n56 : (w46_32_4).toInt = (w46_32_0).toInt := by first | exact n46_0 | (exact (have a0 := in_u i51a; have a1 := in_u h2; have a2 := in_u ((inv_F hIc46 0 4000 rfl v46_32_0)); have a3 := in_u ((inv_F hIc46 (-1) 4000 rfl v46_32_4)); have a4 := in_u i51; have oc := oc_109_86_32; by omega))
        have p56 : TQD sc46 := by exact tqd_fr q_0 hFc46 rfl
        have p56a : NDQ (gvD sc46) := by rw [(gvD_fr hFc46 rfl)]; exact q_1
        have p56b : URG (sc46.2.2.1 32 1).toInt.toNat (fun u => (sc46.2.1 87 u).toInt) := by rw [(hFc46.2.2.1 32 1 rfl)]; exact (rkg_u (ndx_q q_1 (show (((s.2.2.1 32 1).toInt.toNat : Nat) : Int) = (s.2.2.1 32 1).toInt from (by have h9 := q_3; omega))) (show (s.2.2.1 32 1).toInt.toNat = (gvD s).2.2.2.2.2.2.1.toNat from rfl) (show 0 < (s.2.2.1 32 1).toInt.toNat from (by have h9 := q_3; omega)) g46_0)
        refine g_callv (X := _) (As := [.ref (A 32)]) (r := []) (b := A 86) (q := 86) 59 (gd rfl) rfl rfl rfl rfl rfl (ww_o rfl) (Nat.le_of_ble_eq_true rfl) (Nat.zero_le _) (Nat.zero_le _) (f_110_86_32 (A := (a2 A xc46 yc46)) (by omega) hIc46 v46_32_4 v46_32_0 n56 p56 p56a p56b) (fun e u h => h) (fun v u h => ?_)
        obtain ⟨xa56, ya56, s56, hI56, hF56, rfl, rfl, p56c⟩ := h
        rw [a2_a2]
        show GG _ _ _ _ _ _ _ _ [] _ _ _
        refine g_aload_n 60 (gd rfl) rfl rfl ?_
        refine g_dup 61 (gd rfl) rfl rfl ?_
        refine g_getI (A := (a2 A xa56 ya56)) (q := 86) 64 (gd rfl) rfl rfl rfl (fun z61 e61 => ?_)
        have q61 : w46_86_1 = z61 := (fr_F (v46_86_1) hF56 rfl).trans e61.symm
        subst q61
        refine g_iconst 1 65 (gd rfl) rfl rfl ?_
        refine g_iadd 66 (gd rfl) rfl (fun z65 e65 => ?_)
        have i65 := in_add 1 40 e65 i51 (in_c 1 rfl) rfl rfl
        refine g_putI (A := (a2 A xa56 ya56)) (q := 86) 69 (gd rfl) rfl rfl rfl rfl ?_
        have hI66 := inv_sF (q := 86) (j := 1) hI56 rfl (in_w 0 40 i65 rfl)
        refine g_goto 46 (gd rfl) rfl ?_
        have v46 : z65 = (sF s56 86 1 z65).2.2.1 86 1 := sF_get
        have v46a : w46_32_4 = (sF s56 86 1 z65).2.2.1 32 4 := sF_ne rfl (fr_F (v46_32_4) hF56 rfl)
        have v46b : w46_32_0 = (sF s56 86 1 z65).2.2.1 32 0 := sF_ne rfl (fr_F (v46_32_0) hF56 rfl)
        have n46 : (w46_32_4).toInt = (w46_32_0).toInt := by first | exact n46_0 | (exact (have a0 := in_u i51a; have a1 := in_u h2; have a2 := in_u ((inv_F hIc46 0 4000 rfl v46_32_0)); have a3 := in_u ((inv_F hIc46 (-1) 4000 rfl v46_32_4)); have a4 := in_u i51; have a5 := in_u i65; have a6 := t_add e65 i51 (in_c 1 rfl) rfl; have a7 := in_u ((in_c 1 rfl)); have oc := oc_109_86_32; by omega))
        have n46a : (z65).toInt ≤ (x3).toInt := by exact (have a0 := in_u i51a; have a1 := in_u h2; have a2 := in_u ((inv_F hIc46 0 4000 rfl v46_32_0)); have a3 := in_u ((inv_F hIc46 (-1) 4000 rfl v46_32_4)); have a4 := in_u i51; have a5 := in_u i65; have a6 := t_add e65 i51 (in_c 1 rfl) rfl; have a7 := in_u ((in_c 1 rfl)); have oc := oc_109_86_32; by omega)
        have n46b : RKG (gvD s) (z65).toInt (((sF s56 86 1 z65)).2.1 87) := by exact rkg_s (ndx_q q_1 (show (((s.2.2.1 32 1).toInt.toNat : Nat) : Int) = (s.2.2.1 32 1).toInt from (by have h9 := q_3; omega))) (show (s.2.2.1 32 1).toInt.toNat = (gvD s).2.2.2.2.2.2.1.toNat from rfl) g46_0 (by exact (have a0 := in_u i51a; have a1 := in_u h2; have a2 := in_u ((inv_F hIc46 0 4000 rfl v46_32_0)); have a3 := in_u ((inv_F hIc46 (-1) 4000 rfl v46_32_4)); have a4 := in_u i51; have a5 := in_u i65; have a6 := t_add e65 i51 (in_c 1 rfl) rfl; have a7 := in_u ((in_c 1 rfl)); have oc := oc_109_86_32; by omega)) (by exact (have a0 := in_u i51a; have a1 := in_u h2; have a2 := in_u ((inv_F hIc46 0 4000 rfl v46_32_0)); have a3 := in_u ((inv_F hIc46 (-1) 4000 rfl v46_32_4)); have a4 := in_u i51; have a5 := in_u i65; have a6 := t_add e65 i51 (in_c 1 rfl) rfl; have a7 := in_u ((in_c 1 rfl)); have oc := oc_109_86_32; by omega)) (fun v hv => by have h9 := p56c v (by rw [(hFc46.2.2.1 32 1 rfl)]; exact hv); rw [(gvD_fr hFc46 rfl), (hFc46.2.2.1 32 1 rfl)] at h9; exact h9)
        have n46c : ((((sF s56 86 1 z65)).2.2.1 86 0).toInt = (s.2.2.1 32 0).toInt) := by rw [← (show s56.2.2.1 86 0 = (sF s56 86 1 z65).2.2.1 86 0 from sF_ne rfl rfl), hF56.2.2.1 86 0 rfl]; exact g46_1
        have m46 : 41 - (z65).toInt < ((k46 : Nat) : Int) := by exact (have a0 := in_u i51a; have a1 := in_u h2; have a2 := in_u ((inv_F hIc46 0 4000 rfl v46_32_0)); have a3 := in_u ((inv_F hIc46 (-1) 4000 rfl v46_32_4)); have a4 := in_u i51; have a5 := in_u i65; have a6 := t_add e65 i51 (in_c 1 rfl) rfl; have a7 := in_u ((in_c 1 rfl)); have oc := oc_109_86_32; by omega)
        exact gg_w (by first | exact Nat.le_add_right _ _ | exact gw2 | exact gw3 | exact gwe rfl | exact gwf rfl | exact gwg rfl | exact gwh rfl | omega) (gg_f (gf_cons rfl (gf_cons rfl (gf_cons rfl (gf_cons rfl gf_nil)))) (ih46  (sF s56 86 1 z65) xa56 ya56 z65 w46_32_4 w46_32_0 hI66 (fr_sF rfl (fr_tr rfl hFc46 hF56)) v46 v46a v46b n46 n46a n46b n46c m46))
  refine g_enter2 (k := 109) (N := 38701) (by first | exact dq1 hd rfl | exact dq0 hd rfl | exact dq2 hd rfl | exact dq3 hd rfl | omega) rfl (Nat.le_of_ble_eq_true rfl) ?_
  refine g_aload_n 1 (gd rfl) rfl rfl ?_
  refine g_getI 4 (gd rfl) rfl rfl rfl (fun z1 e1 => ?_)
  have i1 := inv_F hI (-1) 4000 rfl e1
  refine g_aload_n 5 (gd rfl) rfl rfl ?_
  refine g_getI 8 (gd rfl) rfl rfl rfl (fun z5 e5 => ?_)
  have q5 : u_32_0 = z5 := (e_32_0).trans e5.symm
  subst q5
  refine g_cmp_ne 11 19 (gd rfl) rfl rfl (fun c8 => ?_) (fun c8 => ?_)
  · skip
    refine g_aload_n 20 (gd rfl) rfl rfl ?_
    refine g_aload_n 21 (gd rfl) rfl rfl ?_
    refine g_getI 24 (gd rfl) rfl rfl rfl (fun z21 e21 => ?_)
    have q21 : u_32_0 = z21 := (e_32_0).trans e21.symm
    subst q21
    refine g_putI 27 (gd rfl) rfl rfl rfl rfl ?_
    have hI24 := inv_sF (q := 86) (j := 0) hI rfl (in_w (-1) 4000 ro_32_0 rfl)
    refine g_aload_n 28 (gd rfl) rfl rfl ?_
    refine g_iconst 0 29 (gd rfl) rfl rfl ?_
    refine g_putI 32 (gd rfl) rfl rfl rfl rfl ?_
    have hI29 := inv_sF (q := 86) (j := 1) hI24 rfl (in_w 0 40 (in_c 0 rfl) rfl)
    refine g_aload_n 33 (gd rfl) rfl rfl ?_
    refine g_getA (q2 := 87) 36 (gd rfl) rfl rfl rfl rfl ?_
    refine g_ldc2_w 1000000000000 39 (gd rfl) rfl rfl ?_
    refine g_calls (As := [.ref (A 87), .long (Int64.ofInt 1000000000000)]) (r := []) 42 (gd rfl) rfl rfl rfl rfl rfl (Nat.le_of_ble_eq_true rfl) (Nat.zero_le _) (Nat.zero_le _) (k_fillL 87 (by first | exact dq1 hd rfl | exact dq0 hd rfl | exact dq2 hd rfl | exact dq3 hd rfl | omega) hI29 (n := 32) rfl rfl rfl (l_rng (Int64.ofInt 1000000000000))) (fun v u h => ?_)
    obtain ⟨s39, hI39, hF39, rfl, rfl, fl39⟩ := h
    show GG _ _ _ _ _ _ _ _ [] _ _ _
    refine g_aload_n 43 (gd rfl) rfl rfl ?_
    refine g_callv (X := _) (As := []) (r := []) (b := A 32) (q := 32) 46 (gd rfl) rfl rfl rfl rfl rfl (ww_o rfl) (Nat.le_of_ble_eq_true rfl) (Nat.zero_le _) (Nat.zero_le _) (k_106_32 (by first | exact dq1 hd rfl | exact dq0 hd rfl | exact dq2 hd rfl | exact dq3 hd rfl | omega) hI39 ) (fun e u h => h) (fun v u h => ?_)
    obtain ⟨s43, hI43, hF43, n43, rfl, rfl⟩ := h
    obtain ⟨z43a, e43⟩ : ∃ w, w = s43.2.2.1 32 4 := ⟨_, rfl⟩
    have i43a := inv_F hI43 (-1) 4000 rfl e43
    rw [← (show z43a = s43.2.2.1 32 4 from e43)] at n43
    rw [← (show u_32_0 = s43.2.2.1 32 0 from fr_F (fr_F (s := (sF (sF s 86 0 u_32_0) 86 1 (Int32.ofInt 0))) (sF_ne rfl (sF_ne rfl (e_32_0))) hF39 rfl) hF43 rfl)] at n43
    show GG _ _ _ _ _ _ _ _ [] _ _ _
    rw [show WW Z A s43 ++ ex = WW Z (a2 A (A 87) (A 88)) s43 ++ ex from by rw [a2_id]]
    have v46 : (Int32.ofInt 0) = s43.2.2.1 86 1 := fr_F (fr_F (s := (sF (sF s 86 0 u_32_0) 86 1 (Int32.ofInt 0))) (sF_get) hF39 rfl) hF43 rfl
    have v46a : u_32_0 = s43.2.2.1 32 0 := fr_F (fr_F (s := (sF (sF s 86 0 u_32_0) 86 1 (Int32.ofInt 0))) (sF_ne rfl (sF_ne rfl (e_32_0))) hF39 rfl) hF43 rfl
    have n46 : (z43a).toInt = (u_32_0).toInt := by exact (have a0 := in_u ro_32_0; have a1 := in_u h3; have a2 := in_u h2; have a3 := in_u i43a; have a4 := in_u ((in_c 0 rfl)); have oc := oc_109_86_32; by omega)
    have n46a : ((Int32.ofInt 0)).toInt ≤ (x3).toInt := by exact (have a0 := in_u ro_32_0; have a1 := in_u h3; have a2 := in_u h2; have a3 := in_u i43a; have a4 := in_u ((in_c 0 rfl)); have oc := oc_109_86_32; by omega)
    have n46b : RKG (gvD s) ((Int32.ofInt 0)).toInt ((s43).2.1 87) := by exact rkg_0 rfl (fun v hv => by rw [hF43.2.1 87 rfl]; exact fl39 v (by have h9 : (v : Int) < (s.2.2.1 32 1).toInt := hv; have h8 := inv_F hI (z := s.2.2.1 32 1) 0 32 rfl rfl; unfold In at h8; omega))
    have n46c : (((s43).2.2.1 86 0).toInt = (s.2.2.1 32 0).toInt) := by rw [hF43.2.2.1 86 0 rfl, hF39.2.2.1 86 0 rfl, ← e_32_0]; rfl
    have m46 : 41 - ((Int32.ofInt 0)).toInt < ((42 : Nat) : Int) := by exact (have a0 := in_u ro_32_0; have a1 := in_u h3; have a2 := in_u h2; have a3 := in_u i43a; have a4 := in_u ((in_c 0 rfl)); have oc := oc_109_86_32; by omega)
    exact gg_w (by first | exact Nat.le_of_ble_eq_true rfl | omega) (gg_f (gf_cons rfl (gf_cons rfl (gf_cons rfl (gf_cons rfl gf_nil)))) (ct46 42 s43 (A 87) (A 88) (Int32.ofInt 0) z43a u_32_0 hI43 (fr_tr rfl (fr_tr rfl (fr_sF rfl (fr_sF rfl fr_rf)) hF39) hF43) v46 e43 v46a n46 n46a n46b n46c m46))
  · skip
    have i8 := r_eq1 0 4000 c8 i1 ro_32_0 rfl
    refine g_iload_n 12 (gd rfl) rfl rfl ?_
    refine g_aload_n 13 (gd rfl) rfl rfl ?_
    refine g_getI 16 (gd rfl) rfl rfl rfl (fun z13 e13 => ?_)
    have i13 := inv_F hI 0 40 rfl e13
    refine g_cmp_ge 19 42 (gd rfl) rfl rfl (fun c16 => ?_) (fun c16 => ?_)
    · skip
      refine g_aload_n 43 (gd rfl) rfl rfl ?_
      refine g_callv (X := _) (As := []) (r := []) (b := A 32) (q := 32) 46 (gd rfl) rfl rfl rfl rfl rfl (ww_o rfl) (Nat.le_of_ble_eq_true rfl) (Nat.zero_le _) (Nat.zero_le _) (k_106_32 (by first | exact dq1 hd rfl | exact dq0 hd rfl | exact dq2 hd rfl | exact dq3 hd rfl | omega) hI ) (fun e u h => h) (fun v u h => ?_)
      obtain ⟨s43, hI43, hF43, n43, rfl, rfl⟩ := h
      obtain ⟨z43a, e43⟩ : ∃ w, w = s43.2.2.1 32 4 := ⟨_, rfl⟩
      have i43a := inv_F hI43 (-1) 4000 rfl e43
      rw [← (show z43a = s43.2.2.1 32 4 from e43)] at n43
      rw [← (show u_32_0 = s43.2.2.1 32 0 from fr_F (e_32_0) hF43 rfl)] at n43
      show GG _ _ _ _ _ _ _ _ [] _ _ _
      rw [show WW Z A s43 ++ ex = WW Z (a2 A (A 87) (A 88)) s43 ++ ex from by rw [a2_id]]
      have v46 : z13 = s43.2.2.1 86 1 := fr_F (e13) hF43 rfl
      have v46a : u_32_0 = s43.2.2.1 32 0 := fr_F (e_32_0) hF43 rfl
      have n46 : (z43a).toInt = (u_32_0).toInt := by exact (have a0 := in_u ro_32_0; have a1 := in_u h3; have a2 := in_u h2; have a3 := in_u i43a; have a4 := in_u i13; have a5 := in_u i8; have oc := oc_109_86_32; by omega)
      have n46a : (z13).toInt ≤ (x3).toInt := by exact (have a0 := in_u ro_32_0; have a1 := in_u h3; have a2 := in_u h2; have a3 := in_u i43a; have a4 := in_u i13; have a5 := in_u i8; have oc := oc_109_86_32; by omega)
      have n46b : RKG (gvD s) (z13).toInt ((s43).2.1 87) := by rw [hF43.2.1 87 rfl]; have h9 := q_2 (by show (s.2.2.1 86 0).toInt = (s.2.2.1 32 0).toInt; rw [← e1, ← e_32_0]; exact c8); rw [← (show z13 = s.2.2.1 86 1 from e13)] at h9; exact h9
      have n46c : (((s43).2.2.1 86 0).toInt = (s.2.2.1 32 0).toInt) := by rw [hF43.2.2.1 86 0 rfl]; exact (by show (s.2.2.1 86 0).toInt = (s.2.2.1 32 0).toInt; rw [← e1, ← e_32_0]; exact c8)
      have m46 : 41 - (z13).toInt < ((42 : Nat) : Int) := by exact (have a0 := in_u ro_32_0; have a1 := in_u h3; have a2 := in_u h2; have a3 := in_u i43a; have a4 := in_u i13; have a5 := in_u i8; have oc := oc_109_86_32; by omega)
      exact gg_w (by first | exact Nat.le_of_ble_eq_true rfl | omega) (gg_f (gf_cons rfl (gf_cons rfl (gf_cons rfl (gf_cons rfl gf_nil)))) (ct46 42 s43 (A 87) (A 88) z13 z43a u_32_0 hI43 (fr_tr rfl fr_rf hF43) v46 e43 v46a n46 n46a n46b n46c m46))
    · skip
      have i16 := r_lt1 0 39 c16 h3 i13 rfl
      have i16a := r_lt2 1 40 c16 h3 i13 rfl
      refine g_aload_n 20 (gd rfl) rfl rfl ?_
      refine g_aload_n 21 (gd rfl) rfl rfl ?_
      refine g_getI 24 (gd rfl) rfl rfl rfl (fun z21 e21 => ?_)
      have q21 : u_32_0 = z21 := (e_32_0).trans e21.symm
      subst q21
      refine g_putI 27 (gd rfl) rfl rfl rfl rfl ?_
      have hI24 := inv_sF (q := 86) (j := 0) hI rfl (in_w (-1) 4000 ro_32_0 rfl)
      refine g_aload_n 28 (gd rfl) rfl rfl ?_
      refine g_iconst 0 29 (gd rfl) rfl rfl ?_
      refine g_putI 32 (gd rfl) rfl rfl rfl rfl ?_
      have hI29 := inv_sF (q := 86) (j := 1) hI24 rfl (in_w 0 40 (in_c 0 rfl) rfl)
      refine g_aload_n 33 (gd rfl) rfl rfl ?_
      refine g_getA (q2 := 87) 36 (gd rfl) rfl rfl rfl rfl ?_
      refine g_ldc2_w 1000000000000 39 (gd rfl) rfl rfl ?_
      refine g_calls (As := [.ref (A 87), .long (Int64.ofInt 1000000000000)]) (r := []) 42 (gd rfl) rfl rfl rfl rfl rfl (Nat.le_of_ble_eq_true rfl) (Nat.zero_le _) (Nat.zero_le _) (k_fillL 87 (by first | exact dq1 hd rfl | exact dq0 hd rfl | exact dq2 hd rfl | exact dq3 hd rfl | omega) hI29 (n := 32) rfl rfl rfl (l_rng (Int64.ofInt 1000000000000))) (fun v u h => ?_)
      obtain ⟨s39, hI39, hF39, rfl, rfl, fl39⟩ := h
      show GG _ _ _ _ _ _ _ _ [] _ _ _
      refine g_aload_n 43 (gd rfl) rfl rfl ?_
      refine g_callv (X := _) (As := []) (r := []) (b := A 32) (q := 32) 46 (gd rfl) rfl rfl rfl rfl rfl (ww_o rfl) (Nat.le_of_ble_eq_true rfl) (Nat.zero_le _) (Nat.zero_le _) (k_106_32 (by first | exact dq1 hd rfl | exact dq0 hd rfl | exact dq2 hd rfl | exact dq3 hd rfl | omega) hI39 ) (fun e u h => h) (fun v u h => ?_)
      obtain ⟨s43, hI43, hF43, n43, rfl, rfl⟩ := h
      obtain ⟨z43a, e43⟩ : ∃ w, w = s43.2.2.1 32 4 := ⟨_, rfl⟩
      have i43a := inv_F hI43 (-1) 4000 rfl e43
      rw [← (show z43a = s43.2.2.1 32 4 from e43)] at n43
      rw [← (show u_32_0 = s43.2.2.1 32 0 from fr_F (fr_F (s := (sF (sF s 86 0 u_32_0) 86 1 (Int32.ofInt 0))) (sF_ne rfl (sF_ne rfl (e_32_0))) hF39 rfl) hF43 rfl)] at n43
      show GG _ _ _ _ _ _ _ _ [] _ _ _
      rw [show WW Z A s43 ++ ex = WW Z (a2 A (A 87) (A 88)) s43 ++ ex from by rw [a2_id]]
      have v46 : (Int32.ofInt 0) = s43.2.2.1 86 1 := fr_F (fr_F (s := (sF (sF s 86 0 u_32_0) 86 1 (Int32.ofInt 0))) (sF_get) hF39 rfl) hF43 rfl
      have v46a : u_32_0 = s43.2.2.1 32 0 := fr_F (fr_F (s := (sF (sF s 86 0 u_32_0) 86 1 (Int32.ofInt 0))) (sF_ne rfl (sF_ne rfl (e_32_0))) hF39 rfl) hF43 rfl
      have n46 : (z43a).toInt = (u_32_0).toInt := by exact (have a0 := in_u ro_32_0; have a1 := in_u i16; have a2 := in_u h2; have a3 := in_u i43a; have a4 := in_u ((in_c 0 rfl)); have oc := oc_109_86_32; by omega)
      have n46a : ((Int32.ofInt 0)).toInt ≤ (x3).toInt := by exact (have a0 := in_u ro_32_0; have a1 := in_u i16; have a2 := in_u h2; have a3 := in_u i43a; have a4 := in_u ((in_c 0 rfl)); have oc := oc_109_86_32; by omega)
      have n46b : RKG (gvD s) ((Int32.ofInt 0)).toInt ((s43).2.1 87) := by exact rkg_0 rfl (fun v hv => by rw [hF43.2.1 87 rfl]; exact fl39 v (by have h9 : (v : Int) < (s.2.2.1 32 1).toInt := hv; have h8 := inv_F hI (z := s.2.2.1 32 1) 0 32 rfl rfl; unfold In at h8; omega))
      have n46c : (((s43).2.2.1 86 0).toInt = (s.2.2.1 32 0).toInt) := by rw [hF43.2.2.1 86 0 rfl, hF39.2.2.1 86 0 rfl, ← e_32_0]; rfl
      have m46 : 41 - ((Int32.ofInt 0)).toInt < ((42 : Nat) : Int) := by exact (have a0 := in_u ro_32_0; have a1 := in_u i16; have a2 := in_u h2; have a3 := in_u i43a; have a4 := in_u ((in_c 0 rfl)); have oc := oc_109_86_32; by omega)
      exact gg_w (by first | exact Nat.le_of_ble_eq_true rfl | omega) (gg_f (gf_cons rfl (gf_cons rfl (gf_cons rfl (gf_cons rfl gf_nil)))) (ct46 42 s43 (A 87) (A 88) (Int32.ofInt 0) z43a u_32_0 hI43 (fr_tr rfl (fr_tr rfl (fr_sF rfl (fr_sF rfl fr_rf)) hF39) hF43) v46 e43 v46a n46 n46a n46b n46c m46))

theorem oc_248_0 : (Int32.ofInt (-1)).toInt = (-1) ∧ (Int32.ofInt 0).toInt = 0 ∧ (Int32.ofInt 1).toInt = 1 ∧ (Int32.ofInt 40).toInt = 40 := ⟨rfl, rfl, rfl, rfl⟩
/-- GraphHouse.rank -/
theorem f_248_0 {Z : AmZ} {A : Nat → Nat} {s : GS} {ex : va_W} {d : Nat} {x1 : Int32} {x2 : Int32} (hd : 7 ≤ d) (hI : Inv s) (q_0 : TQ s) (q_1 : TQD s) (q_2 : NDC s) (q_3 : RKC s) : GC Z d 248 [.ref (A 0), .int x1, .int x2] (WW Z A s ++ ex) 3 18 (fun v u => ∃ xa ya : Nat, ∃ t : GS, Inv t ∧ Fr fm_248_0 s t ∧ ∃ z : Int64, v = some (.long z) ∧ u = WW Z (a2 A xa ya) t ++ ex ∧ (((0 ≤ x1.toInt ∧ x1.toInt < (shC s).2.2.2.2.2.2.1) ∧ In x2 0 40) ∧ RKS (shC s) x1.toNatClampNeg x2.toInt (z).toInt) ∧ (RKQ (shC s) t)) (gEx Z A ex ([], [], [], []) s (¬ ((0 ≤ x1.toInt ∧ x1.toInt < (shC s).2.2.2.2.2.2.1) ∧ In x2 0 40)) (False)) := by
  intro post xp hP hX
  obtain ⟨u_0_2, e_0_2⟩ : ∃ w, w = s.2.2.1 0 2 := ⟨_, rfl⟩
  have ro_0_2 := inv_F hI (-1) 4000 rfl e_0_2
  obtain ⟨u_2_1, e_2_1⟩ : ∃ w, w = s.2.2.1 2 1 := ⟨_, rfl⟩
  have ro_2_1 := inv_F hI 0 32 rfl e_2_1
  obtain ⟨u_32_1, e_32_1⟩ : ∃ w, w = s.2.2.1 32 1 := ⟨_, rfl⟩
  have ro_32_1 := inv_F hI 0 32 rfl e_32_1
  refine g_enter2 (k := 248) (N := 900) (by first | exact dq1 hd rfl | exact dq0 hd rfl | exact dq2 hd rfl | exact dq3 hd rfl | omega) rfl (Nat.le_of_ble_eq_true rfl) ?_
  refine g_aload_n 1 (gd rfl) rfl rfl ?_
  refine g_callv (X := _) (As := []) (r := []) (b := A 0) (q := 0) 4 (gd rfl) rfl rfl rfl rfl rfl (ww_o rfl) (Nat.le_of_ble_eq_true rfl) (mc := 0) (ms := 0) (Nat.zero_le _) (Nat.zero_le _) (P := fun v u => _) ?_ (fun e u h => h) (fun v u h => h)
  intro po1 xx1 hp1 hx1
  refine g_enter2 (k := 259) (N := 300) (by first | exact dq1 hd rfl | exact dq0 hd rfl | exact dq2 hd rfl | exact dq3 hd rfl | omega) rfl (Nat.le_of_ble_eq_true rfl) ?_
  refine g_aload_n 1 (gd rfl) rfl rfl ?_
  refine g_getI 4 (gd rfl) rfl rfl rfl (fun z1x1 e1x1 => ?_)
  have q1x1 : u_0_2 = z1x1 := (e_0_2).trans e1x1.symm
  subst q1x1
  refine g_iconst (-1) 5 (gd rfl) rfl rfl ?_
  refine g_cmp_ne 8 18 (gd rfl) rfl rfl (fun c1x5 => ?_) (fun c1x5 => ?_)
  · skip
    have i1x5 := r_ne1 0 4000 c1x5 ro_0_2 (in_c (-1) rfl) rfl
    refine g_aload_n 19 (gd rfl) rfl rfl ?_
    refine g_getA (q2 := 32) 22 (gd rfl) rfl rfl rfl rfl ?_
    refine g_areturn (gd rfl) rfl (hp1 _ _ ?_)
    show GG _ _ _ _ _ _ _ _ [.ref (A 32)] _ _ _
    refine g_astore_n 5 (gd rfl) rfl (Nat.le_of_ble_eq_true rfl) ?_
    refine g_aload_n 6 (gd rfl) rfl rfl ?_
    refine g_iload_n 7 (gd rfl) rfl rfl ?_
    refine g_callv (X := _) (As := [.int x1]) (r := []) (b := A 32) (q := 32) 10 (gd rfl) rfl rfl rfl rfl rfl (ww_o rfl) (Nat.le_of_ble_eq_true rfl) (mc := 0) (ms := 0) (Nat.zero_le _) (Nat.zero_le _) (P := fun v u => _) ?_ (fun e u h => h) (fun v u h => h)
    intro po7 xx7 hp7 hx7
    refine g_enter2 (k := 94) (N := 300) (by first | exact dq1 hd rfl | exact dq0 hd rfl | exact dq2 hd rfl | exact dq3 hd rfl | omega) rfl (Nat.le_of_ble_eq_true rfl) ?_
    refine g_iload_n 1 (gd rfl) rfl rfl ?_
    refine g_if_lt 4 16 (gd rfl) rfl rfl (fun c7x1 => ?_) (fun c7x1 => ?_)
    · skip
      have i7x1 := z_lt (-2147483648) (-1) c7x1 (i_rng x1) rfl
      refine g_iconst 0 17 (gd rfl) rfl rfl ?_
      refine g_ireturn (gd rfl) rfl (nb01 (in_w 0 1 (in_c 0 rfl) rfl)) (hp7 _ _ ?_)
      show GG _ _ _ _ _ _ _ _ [.int (Int32.ofInt 0)] _ _ _
      refine g_if_eq 13 27 (gd rfl) rfl rfl (fun c10 => ?_) (fun c10 => ?_)
      · skip
        refine g_iconst 0 28 (gd rfl) rfl rfl ?_
        refine g_thr (E := am_IA) (y := yX11_allow) 31 (gd rfl) rfl rfl (Or.inl ⟨rfl, rfl, rfl⟩) (by first | exact dq1 hd rfl | exact dq0 hd rfl | exact dq2 hd rfl | exact dq3 hd rfl | omega) (Nat.le_of_ble_eq_true rfl) (Nat.le_of_ble_eq_true rfl) (Nat.le_of_ble_eq_true rfl) (fun c28 => ?_) (fun c28 => ?_)
        · skip
          exact zn_ne c28 (in_c 0 rfl) rfl
        · skip
          have n28 : ¬ ((0 ≤ x1.toInt ∧ x1.toInt < (shC s).2.2.2.2.2.2.1) ∧ In x2 0 40) := by first | (rw [shC_n (by rw [← e1x1]; exact c1x5)]; show ¬ ((0 ≤ x1.toInt ∧ x1.toInt < (s.2.2.1 2 1).toInt) ∧ In x2 0 40); unfold In; rw [← e_2_1]; exact (have a0 := in_u ro_32_1; have a1 := in_u ro_2_1; have a2 := in_u i1x5; have a3 := in_u i7x1; have oc := oc_248_0; by omega)) | (rw [shC_d (by rw [← e1x1]; exact c1x5)]; show ¬ ((0 ≤ x1.toInt ∧ x1.toInt < (s.2.2.1 32 1).toInt) ∧ In x2 0 40); unfold In; rw [← e_32_1]; exact (have a0 := in_u ro_32_1; have a1 := in_u ro_2_1; have a2 := in_u i1x5; have a3 := in_u i7x1; have oc := oc_248_0; by omega))
          exact (hX _ _ ⟨Or.inl ⟨rfl, n28⟩, s, hI, fr_rf, rfl⟩)
      · skip
        exact zn_ne c10 (in_c 0 rfl) rfl
    · skip
      have i7x1 := z_ge 0 2147483647 c7x1 (i_rng x1) rfl
      refine g_iload_n 5 (gd rfl) rfl rfl ?_
      refine g_aload_n 6 (gd rfl) rfl rfl ?_
      refine g_getI 9 (gd rfl) rfl rfl rfl (fun z7x6 e7x6 => ?_)
      have q7x6 : u_32_1 = z7x6 := (e_32_1).trans e7x6.symm
      subst q7x6
      refine g_cmp_ge 12 16 (gd rfl) rfl rfl (fun c7x9 => ?_) (fun c7x9 => ?_)
      · skip
        refine g_iconst 0 17 (gd rfl) rfl rfl ?_
        refine g_ireturn (gd rfl) rfl (nb01 (in_w 0 1 (in_c 0 rfl) rfl)) (hp7 _ _ ?_)
        show GG _ _ _ _ _ _ _ _ [.int (Int32.ofInt 0)] _ _ _
        refine g_if_eq 13 27 (gd rfl) rfl rfl (fun c10 => ?_) (fun c10 => ?_)
        · skip
          refine g_iconst 0 28 (gd rfl) rfl rfl ?_
          refine g_thr (E := am_IA) (y := yX11_allow) 31 (gd rfl) rfl rfl (Or.inl ⟨rfl, rfl, rfl⟩) (by first | exact dq1 hd rfl | exact dq0 hd rfl | exact dq2 hd rfl | exact dq3 hd rfl | omega) (Nat.le_of_ble_eq_true rfl) (Nat.le_of_ble_eq_true rfl) (Nat.le_of_ble_eq_true rfl) (fun c28 => ?_) (fun c28 => ?_)
          · skip
            exact zn_ne c28 (in_c 0 rfl) rfl
          · skip
            have n28 : ¬ ((0 ≤ x1.toInt ∧ x1.toInt < (shC s).2.2.2.2.2.2.1) ∧ In x2 0 40) := by first | (rw [shC_n (by rw [← e1x1]; exact c1x5)]; show ¬ ((0 ≤ x1.toInt ∧ x1.toInt < (s.2.2.1 2 1).toInt) ∧ In x2 0 40); unfold In; rw [← e_2_1]; exact (have a0 := in_u ro_32_1; have a1 := in_u ro_2_1; have a2 := in_u i1x5; have a3 := in_u i7x1; have oc := oc_248_0; by omega)) | (rw [shC_d (by rw [← e1x1]; exact c1x5)]; show ¬ ((0 ≤ x1.toInt ∧ x1.toInt < (s.2.2.1 32 1).toInt) ∧ In x2 0 40); unfold In; rw [← e_32_1]; exact (have a0 := in_u ro_32_1; have a1 := in_u ro_2_1; have a2 := in_u i1x5; have a3 := in_u i7x1; have oc := oc_248_0; by omega))
            exact (hX _ _ ⟨Or.inl ⟨rfl, n28⟩, s, hI, fr_rf, rfl⟩)
        · skip
          exact zn_ne c10 (in_c 0 rfl) rfl
      · skip
        have i7x9 := r_lt1 0 31 c7x9 i7x1 ro_32_1 rfl
        have i7x9a := r_lt2 1 32 c7x9 i7x1 ro_32_1 rfl
        refine g_iconst 1 13 (gd rfl) rfl rfl ?_
        refine g_goto 17 (gd rfl) rfl ?_
        refine g_ireturn (gd rfl) rfl (nb01 (in_w 0 1 (in_c 1 rfl) rfl)) (hp7 _ _ ?_)
        show GG _ _ _ _ _ _ _ _ [.int (Int32.ofInt 1)] _ _ _
        refine g_if_eq 13 27 (gd rfl) rfl rfl (fun c10 => ?_) (fun c10 => ?_)
        · skip
          exact zn_eq c10 (in_c 1 rfl) rfl
        · skip
          refine g_iload_n 14 (gd rfl) rfl rfl ?_
          refine g_if_lt 17 27 (gd rfl) rfl rfl (fun c14 => ?_) (fun c14 => ?_)
          · skip
            have i14 := z_lt (-2147483648) (-1) c14 (i_rng x2) rfl
            refine g_iconst 0 28 (gd rfl) rfl rfl ?_
            refine g_thr (E := am_IA) (y := yX11_allow) 31 (gd rfl) rfl rfl (Or.inl ⟨rfl, rfl, rfl⟩) (by first | exact dq1 hd rfl | exact dq0 hd rfl | exact dq2 hd rfl | exact dq3 hd rfl | omega) (Nat.le_of_ble_eq_true rfl) (Nat.le_of_ble_eq_true rfl) (Nat.le_of_ble_eq_true rfl) (fun c28 => ?_) (fun c28 => ?_)
            · skip
              exact zn_ne c28 (in_c 0 rfl) rfl
            · skip
              have n28 : ¬ ((0 ≤ x1.toInt ∧ x1.toInt < (shC s).2.2.2.2.2.2.1) ∧ In x2 0 40) := by first | (rw [shC_n (by rw [← e1x1]; exact c1x5)]; show ¬ ((0 ≤ x1.toInt ∧ x1.toInt < (s.2.2.1 2 1).toInt) ∧ In x2 0 40); unfold In; rw [← e_2_1]; exact (have a0 := in_u i7x9; have a1 := in_u i7x9a; have a2 := in_u ro_2_1; have a3 := in_u i1x5; have a4 := in_u i14; have oc := oc_248_0; by omega)) | (rw [shC_d (by rw [← e1x1]; exact c1x5)]; show ¬ ((0 ≤ x1.toInt ∧ x1.toInt < (s.2.2.1 32 1).toInt) ∧ In x2 0 40); unfold In; rw [← e_32_1]; exact (have a0 := in_u i7x9; have a1 := in_u i7x9a; have a2 := in_u ro_2_1; have a3 := in_u i1x5; have a4 := in_u i14; have oc := oc_248_0; by omega))
              exact (hX _ _ ⟨Or.inl ⟨rfl, n28⟩, s, hI, fr_rf, rfl⟩)
          · skip
            have i14 := z_ge 0 2147483647 c14 (i_rng x2) rfl
            refine g_iload_n 18 (gd rfl) rfl rfl ?_
            refine g_bipush 40 20 (gd rfl) rfl rfl ?_
            refine g_cmp_gt 23 27 (gd rfl) rfl rfl (fun c20 => ?_) (fun c20 => ?_)
            · skip
              have i20 := r_lt2 41 2147483647 c20 (in_c 40 rfl) i14 rfl
              refine g_iconst 0 28 (gd rfl) rfl rfl ?_
              refine g_thr (E := am_IA) (y := yX11_allow) 31 (gd rfl) rfl rfl (Or.inl ⟨rfl, rfl, rfl⟩) (by first | exact dq1 hd rfl | exact dq0 hd rfl | exact dq2 hd rfl | exact dq3 hd rfl | omega) (Nat.le_of_ble_eq_true rfl) (Nat.le_of_ble_eq_true rfl) (Nat.le_of_ble_eq_true rfl) (fun c28 => ?_) (fun c28 => ?_)
              · skip
                exact zn_ne c28 (in_c 0 rfl) rfl
              · skip
                have n28 : ¬ ((0 ≤ x1.toInt ∧ x1.toInt < (shC s).2.2.2.2.2.2.1) ∧ In x2 0 40) := by first | (rw [shC_n (by rw [← e1x1]; exact c1x5)]; show ¬ ((0 ≤ x1.toInt ∧ x1.toInt < (s.2.2.1 2 1).toInt) ∧ In x2 0 40); unfold In; rw [← e_2_1]; exact (have a0 := in_u i7x9; have a1 := in_u i7x9a; have a2 := in_u ro_2_1; have a3 := in_u i1x5; have a4 := in_u i20; have oc := oc_248_0; by omega)) | (rw [shC_d (by rw [← e1x1]; exact c1x5)]; show ¬ ((0 ≤ x1.toInt ∧ x1.toInt < (s.2.2.1 32 1).toInt) ∧ In x2 0 40); unfold In; rw [← e_32_1]; exact (have a0 := in_u i7x9; have a1 := in_u i7x9a; have a2 := in_u ro_2_1; have a3 := in_u i1x5; have a4 := in_u i20; have oc := oc_248_0; by omega))
                exact (hX _ _ ⟨Or.inl ⟨rfl, n28⟩, s, hI, fr_rf, rfl⟩)
            · skip
              have i20 := r_le1 0 40 c20 i14 (in_c 40 rfl) rfl
              refine g_iconst 1 24 (gd rfl) rfl rfl ?_
              refine g_goto 28 (gd rfl) rfl ?_
              refine g_thr (E := am_IA) (y := yX11_allow) 31 (gd rfl) rfl rfl (Or.inl ⟨rfl, rfl, rfl⟩) (by first | exact dq1 hd rfl | exact dq0 hd rfl | exact dq2 hd rfl | exact dq3 hd rfl | omega) (Nat.le_of_ble_eq_true rfl) (Nat.le_of_ble_eq_true rfl) (Nat.le_of_ble_eq_true rfl) (fun c28 => ?_) (fun c28 => ?_)
              · skip
                refine g_aload_n 32 (gd rfl) rfl rfl ?_
                refine g_getA (q2 := 86) 35 (gd rfl) rfl rfl rfl rfl ?_
                refine g_aload_n 36 (gd rfl) rfl rfl ?_
                refine g_iload_n 37 (gd rfl) rfl rfl ?_
                refine g_iload_n 38 (gd rfl) rfl rfl ?_
                have p38 : TQD s := by first | exact q_0 | exact q_1
                have p38a : NDQ (gvD s) := by first | (rw [← shC_n (by rw [← e1x1]; exact c1x5)]; exact q_2) | (rw [← shC_d (by rw [← e1x1]; exact c1x5)]; exact q_2)
                have p38b : RKB (gvD s) s := by first | (rw [← shC_n (by rw [← e1x1]; exact c1x5)]; exact q_3) | (rw [← shC_d (by rw [← e1x1]; exact c1x5)]; exact q_3)
                have p38c : (0 < (s.2.2.1 32 1).toInt) := by first | (rw [← e_2_1]; exact (have a0 := in_u i20; have a1 := in_u i7x9; have a2 := in_u i7x9a; have a3 := in_u ro_2_1; have a4 := in_u i1x5; have oc := oc_248_0; by omega)) | (rw [← e_32_1]; exact (have a0 := in_u i20; have a1 := in_u i7x9; have a2 := in_u i7x9a; have a3 := in_u ro_2_1; have a4 := in_u i1x5; have oc := oc_248_0; by omega))
                refine g_callv (X := _) (As := [.ref (A 32), .int x1, .int x2]) (r := []) (b := A 86) (q := 86) 41 (gd rfl) rfl rfl rfl rfl rfl (ww_o rfl) (Nat.le_of_ble_eq_true rfl) (Nat.zero_le _) (Nat.zero_le _) (f_109_86_32 (by first | exact dq1 hd rfl | exact dq0 hd rfl | exact dq2 hd rfl | exact dq3 hd rfl | omega) hI (in_w 0 31 i7x9 rfl) (in_w 0 40 i20 rfl) p38 p38a p38b p38c) (fun e u h => h) (fun v u h => ?_)
                obtain ⟨xa38, ya38, s38, hI38, hF38, z38, rfl, rfl, p38d, p38e⟩ := h
                show GG _ _ _ _ _ _ _ _ [.long z38] _ _ _
                have n41 : ((0 ≤ x1.toInt ∧ x1.toInt < (shC s).2.2.2.2.2.2.1) ∧ In x2 0 40) ∧ RKS (shC s) x1.toNatClampNeg x2.toInt (z38).toInt := by first | (rw [shC_n (by rw [← e1x1]; exact c1x5)]; exact ⟨⟨⟨by exact (have a0 := in_u i20; have a1 := in_u i7x9; have a2 := in_u i7x9a; have a3 := in_u ro_2_1; have a4 := in_u i1x5; have oc := oc_248_0; by omega), by show x1.toInt < (s.2.2.1 2 1).toInt; rw [← e_2_1]; exact (have a0 := in_u i20; have a1 := in_u i7x9; have a2 := in_u i7x9a; have a3 := in_u ro_2_1; have a4 := in_u i1x5; have oc := oc_248_0; by omega)⟩, ⟨by exact (have a0 := in_u i20; have a1 := in_u i7x9; have a2 := in_u i7x9a; have a3 := in_u ro_2_1; have a4 := in_u i1x5; have oc := oc_248_0; by omega), by exact (have a0 := in_u i20; have a1 := in_u i7x9; have a2 := in_u i7x9a; have a3 := in_u ro_2_1; have a4 := in_u i1x5; have oc := oc_248_0; by omega)⟩⟩, by have h9 := p38d.2 (x1).toNatClampNeg (by show ((x1.toInt.toNat : Nat) : Int) < (s.2.2.1 2 1).toInt; rw [← e_2_1]; exact (have a0 := in_u i20; have a1 := in_u i7x9; have a2 := in_u i7x9a; have a3 := in_u ro_2_1; have a4 := in_u i1x5; have oc := oc_248_0; by omega)); rw [p38e.1, ← p38e.2] at h9; exact h9⟩) | (rw [shC_d (by rw [← e1x1]; exact c1x5)]; exact ⟨⟨⟨by exact (have a0 := in_u i20; have a1 := in_u i7x9; have a2 := in_u i7x9a; have a3 := in_u ro_2_1; have a4 := in_u i1x5; have oc := oc_248_0; by omega), by show x1.toInt < (s.2.2.1 32 1).toInt; rw [← e_32_1]; exact (have a0 := in_u i20; have a1 := in_u i7x9; have a2 := in_u i7x9a; have a3 := in_u ro_2_1; have a4 := in_u i1x5; have oc := oc_248_0; by omega)⟩, ⟨by exact (have a0 := in_u i20; have a1 := in_u i7x9; have a2 := in_u i7x9a; have a3 := in_u ro_2_1; have a4 := in_u i1x5; have oc := oc_248_0; by omega), by exact (have a0 := in_u i20; have a1 := in_u i7x9; have a2 := in_u i7x9a; have a3 := in_u ro_2_1; have a4 := in_u i1x5; have oc := oc_248_0; by omega)⟩⟩, by have h9 := p38d.2 (x1).toNatClampNeg (by show ((x1.toInt.toNat : Nat) : Int) < (s.2.2.1 32 1).toInt; rw [← e_32_1]; exact (have a0 := in_u i20; have a1 := in_u i7x9; have a2 := in_u i7x9a; have a3 := in_u ro_2_1; have a4 := in_u i1x5; have oc := oc_248_0; by omega)); rw [p38e.1, ← p38e.2] at h9; exact h9⟩)
                have n41a : RKQ (shC s) s38 := by first | (rw [shC_n (by rw [← e1x1]; exact c1x5)]; exact p38d) | (rw [shC_d (by rw [← e1x1]; exact c1x5)]; exact p38d)
                exact g_lreturn (gd rfl) rfl (hP _ _ ⟨xa38, ya38, s38, hI38, (fr_tr rfl fr_rf hF38), z38, rfl, rfl, n41, n41a⟩)
              · skip
                exact zn_eq c28 (in_c 1 rfl) rfl
  · skip
    have i1x5 := r_eq1 (-1) (-1) c1x5 ro_0_2 (in_c (-1) rfl) rfl
    refine g_aload_n 9 (gd rfl) rfl rfl ?_
    refine g_getA (q2 := 1) 12 (gd rfl) rfl rfl rfl rfl ?_
    refine g_getA (q2 := 2) 15 (gd rfl) rfl rfl rfl rfl ?_
    refine g_goto 22 (gd rfl) rfl ?_
    refine g_areturn (gd rfl) rfl (hp1 _ _ ?_)
    show GG _ _ _ _ _ _ _ _ [.ref (A 2)] _ _ _
    refine g_astore_n 5 (gd rfl) rfl (Nat.le_of_ble_eq_true rfl) ?_
    refine g_aload_n 6 (gd rfl) rfl rfl ?_
    refine g_iload_n 7 (gd rfl) rfl rfl ?_
    refine g_callv (X := _) (As := [.int x1]) (r := []) (b := A 2) (q := 2) 10 (gd rfl) rfl rfl rfl rfl rfl (ww_o rfl) (Nat.le_of_ble_eq_true rfl) (mc := 0) (ms := 0) (Nat.zero_le _) (Nat.zero_le _) (P := fun v u => _) ?_ (fun e u h => h) (fun v u h => h)
    intro po7 xx7 hp7 hx7
    refine g_enter2 (k := 94) (N := 300) (by first | exact dq1 hd rfl | exact dq0 hd rfl | exact dq2 hd rfl | exact dq3 hd rfl | omega) rfl (Nat.le_of_ble_eq_true rfl) ?_
    refine g_iload_n 1 (gd rfl) rfl rfl ?_
    refine g_if_lt 4 16 (gd rfl) rfl rfl (fun c7x1 => ?_) (fun c7x1 => ?_)
    · skip
      have i7x1 := z_lt (-2147483648) (-1) c7x1 (i_rng x1) rfl
      refine g_iconst 0 17 (gd rfl) rfl rfl ?_
      refine g_ireturn (gd rfl) rfl (nb01 (in_w 0 1 (in_c 0 rfl) rfl)) (hp7 _ _ ?_)
      show GG _ _ _ _ _ _ _ _ [.int (Int32.ofInt 0)] _ _ _
      refine g_if_eq 13 27 (gd rfl) rfl rfl (fun c10 => ?_) (fun c10 => ?_)
      · skip
        refine g_iconst 0 28 (gd rfl) rfl rfl ?_
        refine g_thr (E := am_IA) (y := yX11_allow) 31 (gd rfl) rfl rfl (Or.inl ⟨rfl, rfl, rfl⟩) (by first | exact dq1 hd rfl | exact dq0 hd rfl | exact dq2 hd rfl | exact dq3 hd rfl | omega) (Nat.le_of_ble_eq_true rfl) (Nat.le_of_ble_eq_true rfl) (Nat.le_of_ble_eq_true rfl) (fun c28 => ?_) (fun c28 => ?_)
        · skip
          exact zn_ne c28 (in_c 0 rfl) rfl
        · skip
          have n28 : ¬ ((0 ≤ x1.toInt ∧ x1.toInt < (shC s).2.2.2.2.2.2.1) ∧ In x2 0 40) := by first | (rw [shC_n (by rw [← e1x1]; exact c1x5)]; show ¬ ((0 ≤ x1.toInt ∧ x1.toInt < (s.2.2.1 2 1).toInt) ∧ In x2 0 40); unfold In; rw [← e_2_1]; exact (have a0 := in_u ro_32_1; have a1 := in_u ro_2_1; have a2 := in_u i1x5; have a3 := in_u i7x1; have oc := oc_248_0; by omega)) | (rw [shC_d (by rw [← e1x1]; exact c1x5)]; show ¬ ((0 ≤ x1.toInt ∧ x1.toInt < (s.2.2.1 32 1).toInt) ∧ In x2 0 40); unfold In; rw [← e_32_1]; exact (have a0 := in_u ro_32_1; have a1 := in_u ro_2_1; have a2 := in_u i1x5; have a3 := in_u i7x1; have oc := oc_248_0; by omega))
          exact (hX _ _ ⟨Or.inl ⟨rfl, n28⟩, s, hI, fr_rf, rfl⟩)
      · skip
        exact zn_ne c10 (in_c 0 rfl) rfl
    · skip
      have i7x1 := z_ge 0 2147483647 c7x1 (i_rng x1) rfl
      refine g_iload_n 5 (gd rfl) rfl rfl ?_
      refine g_aload_n 6 (gd rfl) rfl rfl ?_
      refine g_getI 9 (gd rfl) rfl rfl rfl (fun z7x6 e7x6 => ?_)
      have q7x6 : u_2_1 = z7x6 := (e_2_1).trans e7x6.symm
      subst q7x6
      refine g_cmp_ge 12 16 (gd rfl) rfl rfl (fun c7x9 => ?_) (fun c7x9 => ?_)
      · skip
        refine g_iconst 0 17 (gd rfl) rfl rfl ?_
        refine g_ireturn (gd rfl) rfl (nb01 (in_w 0 1 (in_c 0 rfl) rfl)) (hp7 _ _ ?_)
        show GG _ _ _ _ _ _ _ _ [.int (Int32.ofInt 0)] _ _ _
        refine g_if_eq 13 27 (gd rfl) rfl rfl (fun c10 => ?_) (fun c10 => ?_)
        · skip
          refine g_iconst 0 28 (gd rfl) rfl rfl ?_
          refine g_thr (E := am_IA) (y := yX11_allow) 31 (gd rfl) rfl rfl (Or.inl ⟨rfl, rfl, rfl⟩) (by first | exact dq1 hd rfl | exact dq0 hd rfl | exact dq2 hd rfl | exact dq3 hd rfl | omega) (Nat.le_of_ble_eq_true rfl) (Nat.le_of_ble_eq_true rfl) (Nat.le_of_ble_eq_true rfl) (fun c28 => ?_) (fun c28 => ?_)
          · skip
            exact zn_ne c28 (in_c 0 rfl) rfl
          · skip
            have n28 : ¬ ((0 ≤ x1.toInt ∧ x1.toInt < (shC s).2.2.2.2.2.2.1) ∧ In x2 0 40) := by first | (rw [shC_n (by rw [← e1x1]; exact c1x5)]; show ¬ ((0 ≤ x1.toInt ∧ x1.toInt < (s.2.2.1 2 1).toInt) ∧ In x2 0 40); unfold In; rw [← e_2_1]; exact (have a0 := in_u ro_32_1; have a1 := in_u ro_2_1; have a2 := in_u i1x5; have a3 := in_u i7x1; have oc := oc_248_0; by omega)) | (rw [shC_d (by rw [← e1x1]; exact c1x5)]; show ¬ ((0 ≤ x1.toInt ∧ x1.toInt < (s.2.2.1 32 1).toInt) ∧ In x2 0 40); unfold In; rw [← e_32_1]; exact (have a0 := in_u ro_32_1; have a1 := in_u ro_2_1; have a2 := in_u i1x5; have a3 := in_u i7x1; have oc := oc_248_0; by omega))
            exact (hX _ _ ⟨Or.inl ⟨rfl, n28⟩, s, hI, fr_rf, rfl⟩)
        · skip
          exact zn_ne c10 (in_c 0 rfl) rfl
      · skip
        have i7x9 := r_lt1 0 31 c7x9 i7x1 ro_2_1 rfl
        have i7x9a := r_lt2 1 32 c7x9 i7x1 ro_2_1 rfl
        refine g_iconst 1 13 (gd rfl) rfl rfl ?_
        refine g_goto 17 (gd rfl) rfl ?_
        refine g_ireturn (gd rfl) rfl (nb01 (in_w 0 1 (in_c 1 rfl) rfl)) (hp7 _ _ ?_)
        show GG _ _ _ _ _ _ _ _ [.int (Int32.ofInt 1)] _ _ _
        refine g_if_eq 13 27 (gd rfl) rfl rfl (fun c10 => ?_) (fun c10 => ?_)
        · skip
          exact zn_eq c10 (in_c 1 rfl) rfl
        · skip
          refine g_iload_n 14 (gd rfl) rfl rfl ?_
          refine g_if_lt 17 27 (gd rfl) rfl rfl (fun c14 => ?_) (fun c14 => ?_)
          · skip
            have i14 := z_lt (-2147483648) (-1) c14 (i_rng x2) rfl
            refine g_iconst 0 28 (gd rfl) rfl rfl ?_
            refine g_thr (E := am_IA) (y := yX11_allow) 31 (gd rfl) rfl rfl (Or.inl ⟨rfl, rfl, rfl⟩) (by first | exact dq1 hd rfl | exact dq0 hd rfl | exact dq2 hd rfl | exact dq3 hd rfl | omega) (Nat.le_of_ble_eq_true rfl) (Nat.le_of_ble_eq_true rfl) (Nat.le_of_ble_eq_true rfl) (fun c28 => ?_) (fun c28 => ?_)
            · skip
              exact zn_ne c28 (in_c 0 rfl) rfl
            · skip
              have n28 : ¬ ((0 ≤ x1.toInt ∧ x1.toInt < (shC s).2.2.2.2.2.2.1) ∧ In x2 0 40) := by first | (rw [shC_n (by rw [← e1x1]; exact c1x5)]; show ¬ ((0 ≤ x1.toInt ∧ x1.toInt < (s.2.2.1 2 1).toInt) ∧ In x2 0 40); unfold In; rw [← e_2_1]; exact (have a0 := in_u i7x9; have a1 := in_u ro_32_1; have a2 := in_u i7x9a; have a3 := in_u i1x5; have a4 := in_u i14; have oc := oc_248_0; by omega)) | (rw [shC_d (by rw [← e1x1]; exact c1x5)]; show ¬ ((0 ≤ x1.toInt ∧ x1.toInt < (s.2.2.1 32 1).toInt) ∧ In x2 0 40); unfold In; rw [← e_32_1]; exact (have a0 := in_u i7x9; have a1 := in_u ro_32_1; have a2 := in_u i7x9a; have a3 := in_u i1x5; have a4 := in_u i14; have oc := oc_248_0; by omega))
              exact (hX _ _ ⟨Or.inl ⟨rfl, n28⟩, s, hI, fr_rf, rfl⟩)
          · skip
            have i14 := z_ge 0 2147483647 c14 (i_rng x2) rfl
            refine g_iload_n 18 (gd rfl) rfl rfl ?_
            refine g_bipush 40 20 (gd rfl) rfl rfl ?_
            refine g_cmp_gt 23 27 (gd rfl) rfl rfl (fun c20 => ?_) (fun c20 => ?_)
            · skip
              have i20 := r_lt2 41 2147483647 c20 (in_c 40 rfl) i14 rfl
              refine g_iconst 0 28 (gd rfl) rfl rfl ?_
              refine g_thr (E := am_IA) (y := yX11_allow) 31 (gd rfl) rfl rfl (Or.inl ⟨rfl, rfl, rfl⟩) (by first | exact dq1 hd rfl | exact dq0 hd rfl | exact dq2 hd rfl | exact dq3 hd rfl | omega) (Nat.le_of_ble_eq_true rfl) (Nat.le_of_ble_eq_true rfl) (Nat.le_of_ble_eq_true rfl) (fun c28 => ?_) (fun c28 => ?_)
              · skip
                exact zn_ne c28 (in_c 0 rfl) rfl
              · skip
                have n28 : ¬ ((0 ≤ x1.toInt ∧ x1.toInt < (shC s).2.2.2.2.2.2.1) ∧ In x2 0 40) := by first | (rw [shC_n (by rw [← e1x1]; exact c1x5)]; show ¬ ((0 ≤ x1.toInt ∧ x1.toInt < (s.2.2.1 2 1).toInt) ∧ In x2 0 40); unfold In; rw [← e_2_1]; exact (have a0 := in_u i7x9; have a1 := in_u ro_32_1; have a2 := in_u i7x9a; have a3 := in_u i1x5; have a4 := in_u i20; have oc := oc_248_0; by omega)) | (rw [shC_d (by rw [← e1x1]; exact c1x5)]; show ¬ ((0 ≤ x1.toInt ∧ x1.toInt < (s.2.2.1 32 1).toInt) ∧ In x2 0 40); unfold In; rw [← e_32_1]; exact (have a0 := in_u i7x9; have a1 := in_u ro_32_1; have a2 := in_u i7x9a; have a3 := in_u i1x5; have a4 := in_u i20; have oc := oc_248_0; by omega))
                exact (hX _ _ ⟨Or.inl ⟨rfl, n28⟩, s, hI, fr_rf, rfl⟩)
            · skip
              have i20 := r_le1 0 40 c20 i14 (in_c 40 rfl) rfl
              refine g_iconst 1 24 (gd rfl) rfl rfl ?_
              refine g_goto 28 (gd rfl) rfl ?_
              refine g_thr (E := am_IA) (y := yX11_allow) 31 (gd rfl) rfl rfl (Or.inl ⟨rfl, rfl, rfl⟩) (by first | exact dq1 hd rfl | exact dq0 hd rfl | exact dq2 hd rfl | exact dq3 hd rfl | omega) (Nat.le_of_ble_eq_true rfl) (Nat.le_of_ble_eq_true rfl) (Nat.le_of_ble_eq_true rfl) (fun c28 => ?_) (fun c28 => ?_)
              · skip
                refine g_aload_n 32 (gd rfl) rfl rfl ?_
                refine g_getA (q2 := 86) 35 (gd rfl) rfl rfl rfl rfl ?_
                refine g_aload_n 36 (gd rfl) rfl rfl ?_
                refine g_iload_n 37 (gd rfl) rfl rfl ?_
                refine g_iload_n 38 (gd rfl) rfl rfl ?_
                have p38 : TQ s := by first | exact q_0 | exact q_1
                have p38a : NDQ (gvC s) := by first | (rw [← shC_n (by rw [← e1x1]; exact c1x5)]; exact q_2) | (rw [← shC_d (by rw [← e1x1]; exact c1x5)]; exact q_2)
                have p38b : RKB (gvC s) s := by first | (rw [← shC_n (by rw [← e1x1]; exact c1x5)]; exact q_3) | (rw [← shC_d (by rw [← e1x1]; exact c1x5)]; exact q_3)
                have p38c : (0 < (s.2.2.1 2 1).toInt) := by first | (rw [← e_2_1]; exact (have a0 := in_u i20; have a1 := in_u i7x9; have a2 := in_u ro_32_1; have a3 := in_u i7x9a; have a4 := in_u i1x5; have oc := oc_248_0; by omega)) | (rw [← e_32_1]; exact (have a0 := in_u i20; have a1 := in_u i7x9; have a2 := in_u ro_32_1; have a3 := in_u i7x9a; have a4 := in_u i1x5; have oc := oc_248_0; by omega))
                refine g_callv (X := _) (As := [.ref (A 2), .int x1, .int x2]) (r := []) (b := A 86) (q := 86) 41 (gd rfl) rfl rfl rfl rfl rfl (ww_o rfl) (Nat.le_of_ble_eq_true rfl) (Nat.zero_le _) (Nat.zero_le _) (f_109_86_2 (by first | exact dq1 hd rfl | exact dq0 hd rfl | exact dq2 hd rfl | exact dq3 hd rfl | omega) hI (in_w 0 31 i7x9 rfl) (in_w 0 40 i20 rfl) p38 p38a p38b p38c) (fun e u h => h) (fun v u h => ?_)
                obtain ⟨xa38, ya38, s38, hI38, hF38, z38, rfl, rfl, p38d, p38e⟩ := h
                show GG _ _ _ _ _ _ _ _ [.long z38] _ _ _
                have n41 : ((0 ≤ x1.toInt ∧ x1.toInt < (shC s).2.2.2.2.2.2.1) ∧ In x2 0 40) ∧ RKS (shC s) x1.toNatClampNeg x2.toInt (z38).toInt := by first | (rw [shC_n (by rw [← e1x1]; exact c1x5)]; exact ⟨⟨⟨by exact (have a0 := in_u i20; have a1 := in_u i7x9; have a2 := in_u ro_32_1; have a3 := in_u i7x9a; have a4 := in_u i1x5; have oc := oc_248_0; by omega), by show x1.toInt < (s.2.2.1 2 1).toInt; rw [← e_2_1]; exact (have a0 := in_u i20; have a1 := in_u i7x9; have a2 := in_u ro_32_1; have a3 := in_u i7x9a; have a4 := in_u i1x5; have oc := oc_248_0; by omega)⟩, ⟨by exact (have a0 := in_u i20; have a1 := in_u i7x9; have a2 := in_u ro_32_1; have a3 := in_u i7x9a; have a4 := in_u i1x5; have oc := oc_248_0; by omega), by exact (have a0 := in_u i20; have a1 := in_u i7x9; have a2 := in_u ro_32_1; have a3 := in_u i7x9a; have a4 := in_u i1x5; have oc := oc_248_0; by omega)⟩⟩, by have h9 := p38d.2 (x1).toNatClampNeg (by show ((x1.toInt.toNat : Nat) : Int) < (s.2.2.1 2 1).toInt; rw [← e_2_1]; exact (have a0 := in_u i20; have a1 := in_u i7x9; have a2 := in_u ro_32_1; have a3 := in_u i7x9a; have a4 := in_u i1x5; have oc := oc_248_0; by omega)); rw [p38e.1, ← p38e.2] at h9; exact h9⟩) | (rw [shC_d (by rw [← e1x1]; exact c1x5)]; exact ⟨⟨⟨by exact (have a0 := in_u i20; have a1 := in_u i7x9; have a2 := in_u ro_32_1; have a3 := in_u i7x9a; have a4 := in_u i1x5; have oc := oc_248_0; by omega), by show x1.toInt < (s.2.2.1 32 1).toInt; rw [← e_32_1]; exact (have a0 := in_u i20; have a1 := in_u i7x9; have a2 := in_u ro_32_1; have a3 := in_u i7x9a; have a4 := in_u i1x5; have oc := oc_248_0; by omega)⟩, ⟨by exact (have a0 := in_u i20; have a1 := in_u i7x9; have a2 := in_u ro_32_1; have a3 := in_u i7x9a; have a4 := in_u i1x5; have oc := oc_248_0; by omega), by exact (have a0 := in_u i20; have a1 := in_u i7x9; have a2 := in_u ro_32_1; have a3 := in_u i7x9a; have a4 := in_u i1x5; have oc := oc_248_0; by omega)⟩⟩, by have h9 := p38d.2 (x1).toNatClampNeg (by show ((x1.toInt.toNat : Nat) : Int) < (s.2.2.1 32 1).toInt; rw [← e_32_1]; exact (have a0 := in_u i20; have a1 := in_u i7x9; have a2 := in_u ro_32_1; have a3 := in_u i7x9a; have a4 := in_u i1x5; have oc := oc_248_0; by omega)); rw [p38e.1, ← p38e.2] at h9; exact h9⟩)
                have n41a : RKQ (shC s) s38 := by first | (rw [shC_n (by rw [← e1x1]; exact c1x5)]; exact p38d) | (rw [shC_d (by rw [← e1x1]; exact c1x5)]; exact p38d)
                exact g_lreturn (gd rfl) rfl (hP _ _ ⟨xa38, ya38, s38, hI38, (fr_tr rfl fr_rf hF38), z38, rfl, rfl, n41, n41a⟩)
              · skip
                exact zn_eq c28 (in_c 1 rfl) rfl
end
section
/-! FUNCTIONAL CONTRACTS, by fgen.py -/
theorem oc_369_109 : (Int32.ofInt (-1)).toInt = (-1) ∧ (Int32.ofInt 0).toInt = 0 ∧ (Int32.ofInt 1).toInt = 1 ∧ (Int32.ofInt 160).toInt = 160 ∧ (Int64.ofInt 0).toInt = 0 ∧ (Int64.ofInt 1).toInt = 1 ∧ (Int64.ofInt 40).toInt = 40 ∧ (Int64.ofInt 85).toInt = 85 ∧ (Int64.ofInt 100).toInt = 100 ∧ (Int64.ofInt 1000000000000).toInt = 1000000000000 := ⟨rfl, rfl, rfl, rfl, rfl, rfl, rfl, rfl, rfl, rfl⟩
set_option maxHeartbeats 4000000 in
/-- GraphHouseModel.rank -/
theorem f_369 {Z : AmZ} {A : Nat → Nat} {s : GS} {ex : va_W} {d : Nat} {X : AmX} {x1 : Int32} {x2 : Int32} (hd : 4 ≤ d) (hI : Inv s)  : GC Z d 369 [.ref (A 109), .int x1, .int x2] (WW Z A s ++ ex) 0 0 (fun v u => ∃ t : GS, Inv t ∧ Fr fm_369 s t ∧ ∃ z : Int64, v = some (.long z) ∧ u = WW Z A t ++ ex ∧ (RKR s t x1 x2 z)) X := by
  intro post xp hP hX
  obtain ⟨u_109_19, e_109_19⟩ : ∃ w, w = s.2.2.1 109 19 := ⟨_, rfl⟩
  have ro_109_19 := inv_F hI 0 160 rfl e_109_19
  obtain ⟨u_109_20, e_109_20⟩ : ∃ w, w = s.2.2.1 109 20 := ⟨_, rfl⟩
  have ro_109_20 := inv_F hI 0 32 rfl e_109_20
  have ct115 : ∀ (k115 : Nat) (sc115 : GS) (y115_3 : Int32), Inv sc115 → Fr fm_369 s sc115 → (In x1 0 31) → (In x2 0 40) → (In y115_3 0 60) → ((x1).toInt < (u_109_20).toInt) → ((y115_3).toInt ≤ (x2).toInt) → (∀ i : Nat, (u_109_19).toInt ≤ (i : Int) → (i : Int) < (u_109_19).toInt + 160 → (s.1 112 i).toInt ≠ 0 → 1 ≤ (sc115.1 164 (s.1 113 i).toNatClampNeg).toInt) → ((∀ v : Nat, v < (s.2.2.1 109 20).toInt.toNat → ((sc115).2.1 162 v).toInt = RK (ARE (gvZ s) 0) (ARE (gvZ s) 1) (s.2.2.1 109 20).toInt.toNat (y115_3).toInt.toNat v)) → ((∀ u : Nat, u < (s.2.2.1 109 20).toInt.toNat → ((sc115).1 164 u).toInt = cn (ARE (gvZ s) 0) (u : Int) 160)) → (((sc115).2.2.1 109 0).toInt = 0) → 60 - (y115_3).toInt < (k115 : Int) → GG Z (d - 1) 369 post (gx xp) (1 + k115 * 426603) 115 (fun j => xlook j [(0, .ref (A 109)), (1, .int x1), (2, .int x2), (3, .int y115_3)]) [] (WW Z A sc115 ++ ex) 0 0 := by
    intro k115
    induction k115 with
    | zero => intro sc115 y115_3 hIc115 hFc115 j115_1 j115_2 j115_3 n115_0 n115_1 g115_0 g115_1 g115_2 g115_3 mm115; exact m_no mm115 j115_3 rfl
    | succ k115 ih115 =>
      intro sc115 y115_3 hIc115 hFc115 j115_1 j115_2 j115_3 n115_0 n115_1 g115_0 g115_1 g115_2 g115_3 mm115
      refine gg_w (M := 1 + k115 * 426603 + 426603) gws ?_
      have ct259 : ∀ (k259 : Nat) (sc259 : GS) (y259_4 : Int64) (y259_6 : Int32), Inv sc259 → Fr fm_369 s sc259 → (In x2 1 40) → (In y115_3 0 40) → (In y259_6 0 32) → ((x1).toInt < (u_109_20).toInt) → ((y115_3).toInt + 1 ≤ (x2).toInt) → (∀ i : Nat, (u_109_19).toInt ≤ (i : Int) → (i : Int) < (u_109_19).toInt + 160 → (s.1 112 i).toInt ≠ 0 → 1 ≤ (sc259.1 164 (s.1 113 i).toNatClampNeg).toInt) → (RRL (ARE (gvZ s) 0) (ARE (gvZ s) 1) (s.2.2.1 109 20).toInt.toNat (RK (ARE (gvZ s) 0) (ARE (gvZ s) 1) (s.2.2.1 109 20).toInt.toNat (y115_3).toInt.toNat) ((sc259).2.1 162) (y259_6).toInt) → ((∀ v : Nat, v < (s.2.2.1 109 20).toInt.toNat → ((sc259).2.1 163 v).toInt = ltr (ARE (gvZ s) 0) (ARE (gvZ s) 1) (RK (ARE (gvZ s) 0) (ARE (gvZ s) 1) (s.2.2.1 109 20).toInt.toNat (y115_3).toInt.toNat) v)) → (((y259_4).toInt = pot (ARE (gvZ s) 0) (RK (ARE (gvZ s) 0) (ARE (gvZ s) 1) (s.2.2.1 109 20).toInt.toNat (y115_3).toInt.toNat) (s.2.2.1 109 20).toInt.toNat)) → ((∀ u : Nat, u < (s.2.2.1 109 20).toInt.toNat → ((sc259).1 164 u).toInt = cn (ARE (gvZ s) 0) (u : Int) 160)) → (((sc259).2.2.1 109 0).toInt = 0) → 32 - (y259_6).toInt < (k259 : Int) → GG Z (d - 1) 369 post (gx xp) (1 + k115 * 426603 + 1 + k259 * 900) 259 (fun j => xlook j [(0, .ref (A 109)), (1, .int x1), (2, .int x2), (3, .int y115_3), (4, .long y259_4), (6, .int y259_6)]) [] (WW Z A sc259 ++ ex) 0 0 := by
        intro k259
        induction k259 with
        | zero => intro sc259 y259_4 y259_6 hIc259 hFc259 j259_2 j259_3 j259_6 n259_0 n259_1 g259_0 g259_1 g259_2 g259_3 g259_4 g259_5 mm259; exact m_no mm259 j259_6 rfl
        | succ k259 ih259 =>
          intro sc259 y259_4 y259_6 hIc259 hFc259 j259_2 j259_3 j259_6 n259_0 n259_1 g259_0 g259_1 g259_2 g259_3 g259_4 g259_5 mm259
          refine gg_w (M := 1 + k115 * 426603 + 1 + k259 * 900 + 900) gws ?_
          refine g_iload 261 (gd rfl) rfl rfl ?_
          refine g_aload_n 262 (gd rfl) rfl rfl ?_
          refine g_getI 265 (gd rfl) rfl rfl rfl (fun z262 e262 => ?_)
          have q262 : u_109_20 = z262 := (fr_F e_109_20 hFc259 rfl).trans e262.symm
          subst q262
          refine g_cmp_ge 268 318 (gd rfl) rfl rfl (fun c265 => ?_) (fun c265 => ?_)
          · skip
            refine g_iinc 321 (gd rfl) rfl rfl (Nat.le_of_ble_eq_true rfl) (fun z318 e318 => ?_)
            have i318 := in_add 1 41 e318 j259_3 (in_c 1 rfl) rfl rfl
            refine g_goto 115 (gd rfl) rfl ?_
            have n115 : (x1).toInt < (u_109_20).toInt := by first | exact n115_0 | (exact (have a0 := in_u j259_3; have a1 := in_u j259_2; have a2 := in_u j115_1; have a3 := in_u ro_109_20; have a4 := in_u ro_109_19; have a5 := in_u j259_6; have a6 := in_u i318; have a7 := t_add e318 j259_3 (in_c 1 rfl) rfl; have a8 := in_u ((in_c 1 rfl)); have oc := oc_369_109; by omega))
            have n115a : (z318).toInt ≤ (x2).toInt := by exact (have a0 := in_u j259_3; have a1 := in_u j259_2; have a2 := in_u j115_1; have a3 := in_u ro_109_20; have a4 := in_u ro_109_19; have a5 := in_u j259_6; have a6 := in_u i318; have a7 := t_add e318 j259_3 (in_c 1 rfl) rfl; have a8 := in_u ((in_c 1 rfl)); have oc := oc_369_109; by omega)
            have n115b : ∀ i : Nat, (u_109_19).toInt ≤ (i : Int) → (i : Int) < (u_109_19).toInt + 160 → (s.1 112 i).toInt ≠ 0 → 1 ≤ (sc259.1 164 (s.1 113 i).toNatClampNeg).toInt := by first | exact g259_0 | (first | (intro i h1 h2; exact g71_1 i h1 (by exact (have a0 := in_u j259_3; have a1 := in_u j259_2; have a2 := in_u j115_1; have a3 := in_u ro_109_20; have a4 := in_u ro_109_19; have a5 := in_u j259_6; have a6 := in_u i318; have a7 := t_add e318 j259_3 (in_c 1 rfl) rfl; have a8 := in_u ((in_c 1 rfl)); have oc := oc_369_109; by omega))) | exact g259_0)
            have n115c : (∀ v : Nat, v < (s.2.2.1 109 20).toInt.toNat → ((sc259).2.1 162 v).toInt = RK (ARE (gvZ s) 0) (ARE (gvZ s) 1) (s.2.2.1 109 20).toInt.toNat (z318).toInt.toNat v) := by intro v hv; rw [show (z318).toInt.toNat = (y115_3).toInt.toNat + 1 from (by exact (have a0 := in_u j259_3; have a1 := in_u j259_2; have a2 := in_u j115_1; have a3 := in_u ro_109_20; have a4 := in_u ro_109_19; have a5 := in_u j259_6; have a6 := in_u i318; have a7 := t_add e318 j259_3 (in_c 1 rfl) rfl; have a8 := in_u ((in_c 1 rfl)); have oc := oc_369_109; by omega))]; exact g259_1 v (by have h9 := n20 hI; rw [← e_109_20] at h9 hv; exact (have a0 := in_u j259_3; have a1 := in_u j259_2; have a2 := in_u j115_1; have a3 := in_u ro_109_20; have a4 := in_u ro_109_19; have a5 := in_u j259_6; have a6 := in_u i318; have a7 := t_add e318 j259_3 (in_c 1 rfl) rfl; have a8 := in_u ((in_c 1 rfl)); have oc := oc_369_109; by omega))
            have n115d : (∀ u : Nat, u < (s.2.2.1 109 20).toInt.toNat → ((sc259).1 164 u).toInt = cn (ARE (gvZ s) 0) (u : Int) 160) := by exact g259_4
            have n115e : ((sc259).2.2.1 109 0).toInt = 0 := by exact g259_5
            exact gg_w (by first | exact Nat.le_add_right _ _ | exact gw2 | exact gw3 | exact gwe rfl | exact gwf rfl | exact gwg rfl | exact gwh rfl | omega) (gg_f (gf_cons rfl (gf_cons rfl (gf_cons rfl (gf_cons rfl gf_nil)))) (ih115 sc259 z318 hIc259 hFc259 (in_w 0 31 j115_1 rfl) (in_w 0 40 j259_2 rfl) (in_w 0 60 i318 rfl) n115 n115a n115b n115c n115d n115e (m_up mm115 (t_add e318 j259_3 (in_c 1 rfl) rfl) (in_w 1 1 (in_c 1 rfl) rfl))))
          · skip
            have i265 := r_lt1 0 31 c265 j259_6 ro_109_20 rfl
            have i265a := r_lt2 1 32 c265 j259_6 ro_109_20 rfl
            refine g_aload_n 269 (gd rfl) rfl rfl ?_
            refine g_getA (q2 := 162) 272 (gd rfl) rfl rfl rfl rfl ?_
            refine g_iload 274 (gd rfl) rfl rfl ?_
            refine g_aload_n 275 (gd rfl) rfl rfl ?_
            refine g_getA (q2 := 163) 278 (gd rfl) rfl rfl rfl rfl ?_
            refine g_iload 280 (gd rfl) rfl rfl ?_
            refine g_laload 281 (gd rfl) rfl (n := 32) rfl (in_ix i265 rfl) (fun z280 e280 => ?_)
            refine g_lload 283 (gd rfl) rfl rfl ?_
            refine g_aload_n 284 (gd rfl) rfl rfl ?_
            refine g_getI 287 (gd rfl) rfl rfl rfl (fun z284 e284 => ?_)
            have q284 : u_109_20 = z284 := (fr_F e_109_20 hFc259 rfl).trans e284.symm
            subst q284
            refine g_i2l 288 (gd rfl) rfl (fun z287 e287 => ?_)
            have i287 := l_i e287 i265a
            refine g_ldiv 289 (gd rfl) rfl (ldv_nz i287 rfl) (fun z288 e288 => ?_)
            refine g_ladd 290 (gd rfl) rfl (fun z289 e289 => ?_)
            refine g_iload 292 (gd rfl) rfl rfl ?_
            refine g_i2l 293 (gd rfl) rfl (fun z292 e292 => ?_)
            have i292 := l_i e292 i265
            refine g_lload 295 (gd rfl) rfl rfl ?_
            refine g_aload_n 296 (gd rfl) rfl rfl ?_
            refine g_getI 299 (gd rfl) rfl rfl rfl (fun z296 e296 => ?_)
            have q296 : u_109_20 = z296 := (fr_F e_109_20 hFc259 rfl).trans e296.symm
            subst q296
            refine g_i2l 300 (gd rfl) rfl (fun z299 e299 => ?_)
            have i299 := l_i e299 i265a
            refine g_lrem 301 (gd rfl) rfl (ldv_nz i299 rfl) (fun z300 e300 => ?_)
            refine g_lcmp 302 (gd rfl) rfl (fun z301 e301 => ?_)
            have i301 := lc_in e301
            refine g_if_ge 305 309 (gd rfl) rfl rfl (fun c302 => ?_) (fun c302 => ?_)
            · skip
              have i302 := z_ge 0 1 c302 i301 rfl
              have c302a := lc_ge e301 c302
              have i302a := lr_le1 (-9223372036854775808) 31 c302a (l_rng z300) i292 rfl
              refine g_lconst 0 310 (gd rfl) rfl rfl ?_
              refine g_ladd 311 (gd rfl) rfl (fun z310 e310 => ?_)
              refine g_lastore 312 (gd rfl) rfl (n := 32) rfl (in_ix i265 rfl) ?_
              have hI311 := inv_sL (q := 162) (j := y259_6.toNatClampNeg) (x := z310) hIc259 rfl (l_rng z310)
              refine g_iinc 315 (gd rfl) rfl rfl (Nat.le_of_ble_eq_true rfl) (fun z312 e312 => ?_)
              have i312 := in_add 1 32 e312 i265 (in_c 1 rfl) rfl rfl
              refine g_goto 259 (gd rfl) rfl ?_
              have n259 : (x1).toInt < (u_109_20).toInt := by first | exact n115_0 | (exact (have a0 := in_u j259_3; have a1 := in_u j259_2; have a2 := in_u j115_1; have a3 := in_u i265a; have a4 := in_u ro_109_19; have a5 := in_u i265; have a6 := in_u i312; have a7 := t_add e312 i265 (in_c 1 rfl) rfl; have a8 := in_u ((in_c 1 rfl)); have a9 := tx_i2l e299; have a10 := tx_i2l e292; have a11 := tx_i2l e287; have oc := oc_369_109; by omega))
              have n259a : (y115_3).toInt + 1 ≤ (x2).toInt := by first | exact n259_1 | (exact (have a0 := in_u j259_3; have a1 := in_u j259_2; have a2 := in_u j115_1; have a3 := in_u i265a; have a4 := in_u ro_109_19; have a5 := in_u i265; have a6 := in_u i312; have a7 := t_add e312 i265 (in_c 1 rfl) rfl; have a8 := in_u ((in_c 1 rfl)); have a9 := tx_i2l e299; have a10 := tx_i2l e292; have a11 := tx_i2l e287; have oc := oc_369_109; by omega))
              have n259b : ∀ i : Nat, (u_109_19).toInt ≤ (i : Int) → (i : Int) < (u_109_19).toInt + 160 → (s.1 112 i).toInt ≠ 0 → 1 ≤ ((sL sc259 162 y259_6.toNatClampNeg z310).1 164 (s.1 113 i).toNatClampNeg).toInt := by first | exact g167_0 | exact g259_0
              have n259c : RRL (ARE (gvZ s) 0) (ARE (gvZ s) 1) (s.2.2.1 109 20).toInt.toNat (RK (ARE (gvZ s) 0) (ARE (gvZ s) 1) (s.2.2.1 109 20).toInt.toNat (y115_3).toInt.toNat) (((sL sc259 162 y259_6.toNatClampNeg z310)).2.1 162) (z312).toInt := by first | (have yn : (y259_6).toNatClampNeg < (s.2.2.1 109 20).toInt.toNat := (by show (y259_6).toInt.toNat < _; rw [← e_109_20]; exact (have a0 := in_u j259_3; have a1 := in_u j259_2; have a2 := in_u j115_1; have a3 := in_u i265a; have a4 := in_u ro_109_19; have a5 := in_u i265; have a6 := in_u i312; have a7 := t_add e312 i265 (in_c 1 rfl) rfl; have a8 := in_u ((in_c 1 rfl)); have a9 := tx_i2l e299; have a10 := tx_i2l e292; have a11 := tx_i2l e287; have oc := oc_369_109; by omega)); rw [sL_q]; exact rrl_s (m := z300) (ndx_q (ndq_z hI) (show (((s.2.2.1 109 20).toInt.toNat : Nat) : Int) = (gvZ s).2.2.2.2.2.2.1 from (by rw [gvz_n hI]; exact n20 hI))) (urg_k (ndx_q (ndq_z hI) (show (((s.2.2.1 109 20).toInt.toNat : Nat) : Int) = (gvZ s).2.2.2.2.2.2.1 from (by rw [gvz_n hI]; exact n20 hI))) (show 0 < (s.2.2.1 109 20).toInt.toNat from (by have h9 := n20 hI; rw [← e_109_20] at h9 ⊢; exact (have a0 := in_u j259_3; have a1 := in_u j259_2; have a2 := in_u j115_1; have a3 := in_u i265a; have a4 := in_u ro_109_19; have a5 := in_u i265; have a6 := in_u i312; have a7 := t_add e312 i265 (in_c 1 rfl) rfl; have a8 := in_u ((in_c 1 rfl)); have a9 := tx_i2l e299; have a10 := tx_i2l e292; have a11 := tx_i2l e287; have oc := oc_369_109; by omega))) (y115_3).toInt.toNat) (show (s.2.2.1 109 20).toInt.toNat ≤ 32 from (by have h9 := inv_F hI (z := s.2.2.1 109 20) 0 32 rfl rfl; unfold In at h9; omega)) g259_1 i265 (by have h9 := n20 hI; rw [← e_109_20] at h9 ⊢; exact (have a0 := in_u j259_3; have a1 := in_u j259_2; have a2 := in_u j115_1; have a3 := in_u i265a; have a4 := in_u ro_109_19; have a5 := in_u i265; have a6 := in_u i312; have a7 := t_add e312 i265 (in_c 1 rfl) rfl; have a8 := in_u ((in_c 1 rfl)); have a9 := tx_i2l e299; have a10 := tx_i2l e292; have a11 := tx_i2l e287; have oc := oc_369_109; by omega)) (by rw [e280]; exact g259_2 _ yn) g259_3 (by rw [u_i2l e287]; have h9 := n20 hI; rw [← e_109_20] at h9 ⊢; omega) e288 (by rw [← (e299.trans e287.symm)]; exact e300) (Or.inl ⟨rfl, by have h9 := c302a; have h8 := u_i2l e292; omega⟩) e289 e310 (by exact (have a0 := in_u j259_3; have a1 := in_u j259_2; have a2 := in_u j115_1; have a3 := in_u i265a; have a4 := in_u ro_109_19; have a5 := in_u i265; have a6 := in_u i312; have a7 := t_add e312 i265 (in_c 1 rfl) rfl; have a8 := in_u ((in_c 1 rfl)); have a9 := tx_i2l e299; have a10 := tx_i2l e292; have a11 := tx_i2l e287; have oc := oc_369_109; by omega))) | (have yn : (y259_6).toNatClampNeg < (s.2.2.1 109 20).toInt.toNat := (by show (y259_6).toInt.toNat < _; rw [← e_109_20]; exact (have a0 := in_u j259_3; have a1 := in_u j259_2; have a2 := in_u j115_1; have a3 := in_u i265a; have a4 := in_u ro_109_19; have a5 := in_u i265; have a6 := in_u i312; have a7 := t_add e312 i265 (in_c 1 rfl) rfl; have a8 := in_u ((in_c 1 rfl)); have a9 := tx_i2l e299; have a10 := tx_i2l e292; have a11 := tx_i2l e287; have oc := oc_369_109; by omega)); rw [sL_q]; exact rrl_s (m := z300) (ndx_q (ndq_z hI) (show (((s.2.2.1 109 20).toInt.toNat : Nat) : Int) = (gvZ s).2.2.2.2.2.2.1 from (by rw [gvz_n hI]; exact n20 hI))) (urg_k (ndx_q (ndq_z hI) (show (((s.2.2.1 109 20).toInt.toNat : Nat) : Int) = (gvZ s).2.2.2.2.2.2.1 from (by rw [gvz_n hI]; exact n20 hI))) (show 0 < (s.2.2.1 109 20).toInt.toNat from (by have h9 := n20 hI; rw [← e_109_20] at h9 ⊢; exact (have a0 := in_u j259_3; have a1 := in_u j259_2; have a2 := in_u j115_1; have a3 := in_u i265a; have a4 := in_u ro_109_19; have a5 := in_u i265; have a6 := in_u i312; have a7 := t_add e312 i265 (in_c 1 rfl) rfl; have a8 := in_u ((in_c 1 rfl)); have a9 := tx_i2l e299; have a10 := tx_i2l e292; have a11 := tx_i2l e287; have oc := oc_369_109; by omega))) (y115_3).toInt.toNat) (show (s.2.2.1 109 20).toInt.toNat ≤ 32 from (by have h9 := inv_F hI (z := s.2.2.1 109 20) 0 32 rfl rfl; unfold In at h9; omega)) g259_1 i265 (by have h9 := n20 hI; rw [← e_109_20] at h9 ⊢; exact (have a0 := in_u j259_3; have a1 := in_u j259_2; have a2 := in_u j115_1; have a3 := in_u i265a; have a4 := in_u ro_109_19; have a5 := in_u i265; have a6 := in_u i312; have a7 := t_add e312 i265 (in_c 1 rfl) rfl; have a8 := in_u ((in_c 1 rfl)); have a9 := tx_i2l e299; have a10 := tx_i2l e292; have a11 := tx_i2l e287; have oc := oc_369_109; by omega)) (by rw [e280]; exact g259_2 _ yn) g259_3 (by rw [u_i2l e287]; have h9 := n20 hI; rw [← e_109_20] at h9 ⊢; omega) e288 (by rw [← (e299.trans e287.symm)]; exact e300) (Or.inr ⟨rfl, by have h9 := c302a; have h8 := u_i2l e292; omega⟩) e289 e310 (by exact (have a0 := in_u j259_3; have a1 := in_u j259_2; have a2 := in_u j115_1; have a3 := in_u i265a; have a4 := in_u ro_109_19; have a5 := in_u i265; have a6 := in_u i312; have a7 := t_add e312 i265 (in_c 1 rfl) rfl; have a8 := in_u ((in_c 1 rfl)); have a9 := tx_i2l e299; have a10 := tx_i2l e292; have a11 := tx_i2l e287; have oc := oc_369_109; by omega)))
              have n259d : (∀ v : Nat, v < (s.2.2.1 109 20).toInt.toNat → (((sL sc259 162 y259_6.toNatClampNeg z310)).2.1 163 v).toInt = ltr (ARE (gvZ s) 0) (ARE (gvZ s) 1) (RK (ARE (gvZ s) 0) (ARE (gvZ s) 1) (s.2.2.1 109 20).toInt.toNat (y115_3).toInt.toNat) v) := by exact g259_2
              have n259e : ((y259_4).toInt = pot (ARE (gvZ s) 0) (RK (ARE (gvZ s) 0) (ARE (gvZ s) 1) (s.2.2.1 109 20).toInt.toNat (y115_3).toInt.toNat) (s.2.2.1 109 20).toInt.toNat) := by exact g259_3
              have n259f : (∀ u : Nat, u < (s.2.2.1 109 20).toInt.toNat → (((sL sc259 162 y259_6.toNatClampNeg z310)).1 164 u).toInt = cn (ARE (gvZ s) 0) (u : Int) 160) := by exact g259_4
              have n259g : (((sL sc259 162 y259_6.toNatClampNeg z310)).2.2.1 109 0).toInt = 0 := by exact g259_5
              exact gg_w (by first | exact Nat.le_add_right _ _ | exact gw2 | exact gw3 | exact gwe rfl | exact gwf rfl | exact gwg rfl | exact gwh rfl | omega) (gg_f (gf_cons rfl (gf_cons rfl (gf_cons rfl (gf_cons rfl (gf_cons rfl (gf_cons rfl gf_nil)))))) (ih259 (sL sc259 162 y259_6.toNatClampNeg z310) y259_4 z312 hI311 (fr_sL rfl hFc259) (in_w 1 40 j259_2 rfl) (in_w 0 40 j259_3 rfl) (in_w 0 32 i312 rfl) n259 n259a n259b n259c n259d n259e n259f n259g (m_up mm259 (t_add e312 i265 (in_c 1 rfl) rfl) (in_w 1 1 (in_c 1 rfl) rfl))))
            · skip
              have i302 := z_lt (-1) (-1) c302 i301 rfl
              have c302a := lc_lt e301 c302
              have i302a := lr_lt2 1 9223372036854775807 c302a i292 (l_rng z300) rfl
              refine g_lconst 1 306 (gd rfl) rfl rfl ?_
              refine g_goto 310 (gd rfl) rfl ?_
              refine g_ladd 311 (gd rfl) rfl (fun z310 e310 => ?_)
              refine g_lastore 312 (gd rfl) rfl (n := 32) rfl (in_ix i265 rfl) ?_
              have hI311 := inv_sL (q := 162) (j := y259_6.toNatClampNeg) (x := z310) hIc259 rfl (l_rng z310)
              refine g_iinc 315 (gd rfl) rfl rfl (Nat.le_of_ble_eq_true rfl) (fun z312 e312 => ?_)
              have i312 := in_add 1 32 e312 i265 (in_c 1 rfl) rfl rfl
              refine g_goto 259 (gd rfl) rfl ?_
              have n259 : (x1).toInt < (u_109_20).toInt := by first | exact n115_0 | (exact (have a0 := in_u j259_3; have a1 := in_u j259_2; have a2 := in_u j115_1; have a3 := in_u i265a; have a4 := in_u ro_109_19; have a5 := in_u i265; have a6 := in_u i312; have a7 := t_add e312 i265 (in_c 1 rfl) rfl; have a8 := in_u ((in_c 1 rfl)); have a9 := tx_i2l e299; have a10 := tx_i2l e292; have a11 := tx_i2l e287; have oc := oc_369_109; by omega))
              have n259a : (y115_3).toInt + 1 ≤ (x2).toInt := by first | exact n259_1 | (exact (have a0 := in_u j259_3; have a1 := in_u j259_2; have a2 := in_u j115_1; have a3 := in_u i265a; have a4 := in_u ro_109_19; have a5 := in_u i265; have a6 := in_u i312; have a7 := t_add e312 i265 (in_c 1 rfl) rfl; have a8 := in_u ((in_c 1 rfl)); have a9 := tx_i2l e299; have a10 := tx_i2l e292; have a11 := tx_i2l e287; have oc := oc_369_109; by omega))
              have n259b : ∀ i : Nat, (u_109_19).toInt ≤ (i : Int) → (i : Int) < (u_109_19).toInt + 160 → (s.1 112 i).toInt ≠ 0 → 1 ≤ ((sL sc259 162 y259_6.toNatClampNeg z310).1 164 (s.1 113 i).toNatClampNeg).toInt := by first | exact g167_0 | exact g259_0
              have n259c : RRL (ARE (gvZ s) 0) (ARE (gvZ s) 1) (s.2.2.1 109 20).toInt.toNat (RK (ARE (gvZ s) 0) (ARE (gvZ s) 1) (s.2.2.1 109 20).toInt.toNat (y115_3).toInt.toNat) (((sL sc259 162 y259_6.toNatClampNeg z310)).2.1 162) (z312).toInt := by first | (have yn : (y259_6).toNatClampNeg < (s.2.2.1 109 20).toInt.toNat := (by show (y259_6).toInt.toNat < _; rw [← e_109_20]; exact (have a0 := in_u j259_3; have a1 := in_u j259_2; have a2 := in_u j115_1; have a3 := in_u i265a; have a4 := in_u ro_109_19; have a5 := in_u i265; have a6 := in_u i312; have a7 := t_add e312 i265 (in_c 1 rfl) rfl; have a8 := in_u ((in_c 1 rfl)); have a9 := tx_i2l e299; have a10 := tx_i2l e292; have a11 := tx_i2l e287; have oc := oc_369_109; by omega)); rw [sL_q]; exact rrl_s (m := z300) (ndx_q (ndq_z hI) (show (((s.2.2.1 109 20).toInt.toNat : Nat) : Int) = (gvZ s).2.2.2.2.2.2.1 from (by rw [gvz_n hI]; exact n20 hI))) (urg_k (ndx_q (ndq_z hI) (show (((s.2.2.1 109 20).toInt.toNat : Nat) : Int) = (gvZ s).2.2.2.2.2.2.1 from (by rw [gvz_n hI]; exact n20 hI))) (show 0 < (s.2.2.1 109 20).toInt.toNat from (by have h9 := n20 hI; rw [← e_109_20] at h9 ⊢; exact (have a0 := in_u j259_3; have a1 := in_u j259_2; have a2 := in_u j115_1; have a3 := in_u i265a; have a4 := in_u ro_109_19; have a5 := in_u i265; have a6 := in_u i312; have a7 := t_add e312 i265 (in_c 1 rfl) rfl; have a8 := in_u ((in_c 1 rfl)); have a9 := tx_i2l e299; have a10 := tx_i2l e292; have a11 := tx_i2l e287; have oc := oc_369_109; by omega))) (y115_3).toInt.toNat) (show (s.2.2.1 109 20).toInt.toNat ≤ 32 from (by have h9 := inv_F hI (z := s.2.2.1 109 20) 0 32 rfl rfl; unfold In at h9; omega)) g259_1 i265 (by have h9 := n20 hI; rw [← e_109_20] at h9 ⊢; exact (have a0 := in_u j259_3; have a1 := in_u j259_2; have a2 := in_u j115_1; have a3 := in_u i265a; have a4 := in_u ro_109_19; have a5 := in_u i265; have a6 := in_u i312; have a7 := t_add e312 i265 (in_c 1 rfl) rfl; have a8 := in_u ((in_c 1 rfl)); have a9 := tx_i2l e299; have a10 := tx_i2l e292; have a11 := tx_i2l e287; have oc := oc_369_109; by omega)) (by rw [e280]; exact g259_2 _ yn) g259_3 (by rw [u_i2l e287]; have h9 := n20 hI; rw [← e_109_20] at h9 ⊢; omega) e288 (by rw [← (e299.trans e287.symm)]; exact e300) (Or.inl ⟨rfl, by have h9 := c302a; have h8 := u_i2l e292; omega⟩) e289 e310 (by exact (have a0 := in_u j259_3; have a1 := in_u j259_2; have a2 := in_u j115_1; have a3 := in_u i265a; have a4 := in_u ro_109_19; have a5 := in_u i265; have a6 := in_u i312; have a7 := t_add e312 i265 (in_c 1 rfl) rfl; have a8 := in_u ((in_c 1 rfl)); have a9 := tx_i2l e299; have a10 := tx_i2l e292; have a11 := tx_i2l e287; have oc := oc_369_109; by omega))) | (have yn : (y259_6).toNatClampNeg < (s.2.2.1 109 20).toInt.toNat := (by show (y259_6).toInt.toNat < _; rw [← e_109_20]; exact (have a0 := in_u j259_3; have a1 := in_u j259_2; have a2 := in_u j115_1; have a3 := in_u i265a; have a4 := in_u ro_109_19; have a5 := in_u i265; have a6 := in_u i312; have a7 := t_add e312 i265 (in_c 1 rfl) rfl; have a8 := in_u ((in_c 1 rfl)); have a9 := tx_i2l e299; have a10 := tx_i2l e292; have a11 := tx_i2l e287; have oc := oc_369_109; by omega)); rw [sL_q]; exact rrl_s (m := z300) (ndx_q (ndq_z hI) (show (((s.2.2.1 109 20).toInt.toNat : Nat) : Int) = (gvZ s).2.2.2.2.2.2.1 from (by rw [gvz_n hI]; exact n20 hI))) (urg_k (ndx_q (ndq_z hI) (show (((s.2.2.1 109 20).toInt.toNat : Nat) : Int) = (gvZ s).2.2.2.2.2.2.1 from (by rw [gvz_n hI]; exact n20 hI))) (show 0 < (s.2.2.1 109 20).toInt.toNat from (by have h9 := n20 hI; rw [← e_109_20] at h9 ⊢; exact (have a0 := in_u j259_3; have a1 := in_u j259_2; have a2 := in_u j115_1; have a3 := in_u i265a; have a4 := in_u ro_109_19; have a5 := in_u i265; have a6 := in_u i312; have a7 := t_add e312 i265 (in_c 1 rfl) rfl; have a8 := in_u ((in_c 1 rfl)); have a9 := tx_i2l e299; have a10 := tx_i2l e292; have a11 := tx_i2l e287; have oc := oc_369_109; by omega))) (y115_3).toInt.toNat) (show (s.2.2.1 109 20).toInt.toNat ≤ 32 from (by have h9 := inv_F hI (z := s.2.2.1 109 20) 0 32 rfl rfl; unfold In at h9; omega)) g259_1 i265 (by have h9 := n20 hI; rw [← e_109_20] at h9 ⊢; exact (have a0 := in_u j259_3; have a1 := in_u j259_2; have a2 := in_u j115_1; have a3 := in_u i265a; have a4 := in_u ro_109_19; have a5 := in_u i265; have a6 := in_u i312; have a7 := t_add e312 i265 (in_c 1 rfl) rfl; have a8 := in_u ((in_c 1 rfl)); have a9 := tx_i2l e299; have a10 := tx_i2l e292; have a11 := tx_i2l e287; have oc := oc_369_109; by omega)) (by rw [e280]; exact g259_2 _ yn) g259_3 (by rw [u_i2l e287]; have h9 := n20 hI; rw [← e_109_20] at h9 ⊢; omega) e288 (by rw [← (e299.trans e287.symm)]; exact e300) (Or.inr ⟨rfl, by have h9 := c302a; have h8 := u_i2l e292; omega⟩) e289 e310 (by exact (have a0 := in_u j259_3; have a1 := in_u j259_2; have a2 := in_u j115_1; have a3 := in_u i265a; have a4 := in_u ro_109_19; have a5 := in_u i265; have a6 := in_u i312; have a7 := t_add e312 i265 (in_c 1 rfl) rfl; have a8 := in_u ((in_c 1 rfl)); have a9 := tx_i2l e299; have a10 := tx_i2l e292; have a11 := tx_i2l e287; have oc := oc_369_109; by omega)))
              have n259d : (∀ v : Nat, v < (s.2.2.1 109 20).toInt.toNat → (((sL sc259 162 y259_6.toNatClampNeg z310)).2.1 163 v).toInt = ltr (ARE (gvZ s) 0) (ARE (gvZ s) 1) (RK (ARE (gvZ s) 0) (ARE (gvZ s) 1) (s.2.2.1 109 20).toInt.toNat (y115_3).toInt.toNat) v) := by exact g259_2
              have n259e : ((y259_4).toInt = pot (ARE (gvZ s) 0) (RK (ARE (gvZ s) 0) (ARE (gvZ s) 1) (s.2.2.1 109 20).toInt.toNat (y115_3).toInt.toNat) (s.2.2.1 109 20).toInt.toNat) := by exact g259_3
              have n259f : (∀ u : Nat, u < (s.2.2.1 109 20).toInt.toNat → (((sL sc259 162 y259_6.toNatClampNeg z310)).1 164 u).toInt = cn (ARE (gvZ s) 0) (u : Int) 160) := by exact g259_4
              have n259g : (((sL sc259 162 y259_6.toNatClampNeg z310)).2.2.1 109 0).toInt = 0 := by exact g259_5
              exact gg_w (by first | exact Nat.le_add_right _ _ | exact gw2 | exact gw3 | exact gwe rfl | exact gwf rfl | exact gwg rfl | exact gwh rfl | omega) (gg_f (gf_cons rfl (gf_cons rfl (gf_cons rfl (gf_cons rfl (gf_cons rfl (gf_cons rfl gf_nil)))))) (ih259 (sL sc259 162 y259_6.toNatClampNeg z310) y259_4 z312 hI311 (fr_sL rfl hFc259) (in_w 1 40 j259_2 rfl) (in_w 0 40 j259_3 rfl) (in_w 0 32 i312 rfl) n259 n259a n259b n259c n259d n259e n259f n259g (m_up mm259 (t_add e312 i265 (in_c 1 rfl) rfl) (in_w 1 1 (in_c 1 rfl) rfl))))
      have ct167 : ∀ (k167 : Nat) (sc167 : GS) (y167_4 : Int64) (y167_6 : Int32), Inv sc167 → Fr fm_369 s sc167 → (In x2 1 40) → (In y115_3 0 40) → (In y167_6 0 400) → ((u_109_19).toInt ≤ (y167_6).toInt) → ((x1).toInt < (u_109_20).toInt) → ((u_109_19).toInt ≤ (y167_6).toInt) → ((y167_6).toInt ≤ (u_109_19).toInt + 160) → ((y115_3).toInt + 1 ≤ (x2).toInt) → (∀ i : Nat, (u_109_19).toInt ≤ (i : Int) → (i : Int) < (u_109_19).toInt + 160 → (s.1 112 i).toInt ≠ 0 → 1 ≤ (sc167.1 164 (s.1 113 i).toNatClampNeg).toInt) → (RRA (ARE (gvZ s) 0) (ARE (gvZ s) 1) (RK (ARE (gvZ s) 0) (ARE (gvZ s) 1) (s.2.2.1 109 20).toInt.toNat (y115_3).toInt.toNat) ((y167_6).toInt - (u_109_19).toInt).toNat ((sc167).2.1 163) (s.2.2.1 109 20).toInt.toNat) → (((y167_4).toInt = sm (RK (ARE (gvZ s) 0) (ARE (gvZ s) 1) (s.2.2.1 109 20).toInt.toNat (y115_3).toInt.toNat) (s.2.2.1 109 20).toInt.toNat - snp (ARE (gvZ s) 0) (RK (ARE (gvZ s) 0) (ARE (gvZ s) 1) (s.2.2.1 109 20).toInt.toNat (y115_3).toInt.toNat) ((y167_6).toInt - (u_109_19).toInt).toNat)) → ((∀ v : Nat, v < (s.2.2.1 109 20).toInt.toNat → ((sc167).2.1 162 v).toInt = RK (ARE (gvZ s) 0) (ARE (gvZ s) 1) (s.2.2.1 109 20).toInt.toNat (y115_3).toInt.toNat v)) → ((∀ u : Nat, u < (s.2.2.1 109 20).toInt.toNat → ((sc167).1 164 u).toInt = cn (ARE (gvZ s) 0) (u : Int) 160)) → (((sc167).2.2.1 109 0).toInt = 0) → 400 - (y167_6).toInt < (k167 : Int) → GG Z (d - 1) 369 post (gx xp) (1 + k115 * 426603 + 29702 + k167 * 900) 167 (fun j => xlook j [(0, .ref (A 109)), (1, .int x1), (2, .int x2), (3, .int y115_3), (4, .long y167_4), (6, .int y167_6)]) [] (WW Z A sc167 ++ ex) 0 0 := by
        intro k167
        induction k167 with
        | zero => intro sc167 y167_4 y167_6 hIc167 hFc167 j167_2 j167_3 j167_6 n167_0 n167_1 n167_2 n167_3 n167_4 g167_0 g167_1 g167_2 g167_3 g167_4 g167_5 mm167; exact m_no mm167 j167_6 rfl
        | succ k167 ih167 =>
          intro sc167 y167_4 y167_6 hIc167 hFc167 j167_2 j167_3 j167_6 n167_0 n167_1 n167_2 n167_3 n167_4 g167_0 g167_1 g167_2 g167_3 g167_4 g167_5 mm167
          refine gg_w (M := 1 + k115 * 426603 + 29702 + k167 * 900 + 900) gws ?_
          refine g_iload 169 (gd rfl) rfl rfl ?_
          refine g_aload_n 170 (gd rfl) rfl rfl ?_
          refine g_getI 173 (gd rfl) rfl rfl rfl (fun z170 e170 => ?_)
          have q170 : u_109_19 = z170 := (fr_F e_109_19 hFc167 rfl).trans e170.symm
          subst q170
          refine g_sipush 160 176 (gd rfl) rfl rfl ?_
          refine g_iadd 177 (gd rfl) rfl (fun z176 e176 => ?_)
          have i176 := in_add 160 320 e176 ro_109_19 (in_c 160 rfl) rfl rfl
          refine g_cmp_ge 180 256 (gd rfl) rfl rfl (fun c177 => ?_) (fun c177 => ?_)
          · skip
            have i177 := r_le2 160 400 c177 i176 j167_6 rfl
            refine g_iconst 0 257 (gd rfl) rfl rfl ?_
            refine g_istore 259 (gd rfl) rfl (Nat.le_of_ble_eq_true rfl) ?_
            have n259 : (x1).toInt < (u_109_20).toInt := by first | exact n115_0 | (exact (have a0 := in_u j167_3; have a1 := in_u j167_2; have a2 := in_u j115_1; have a3 := in_u ro_109_20; have a4 := in_u ro_109_19; have a5 := in_u i177; have a6 := in_u ((in_c 0 rfl)); have a7 := in_u i176; have a8 := t_add e176 ro_109_19 (in_c 160 rfl) rfl; have a9 := in_u ((in_c 160 rfl)); have oc := oc_369_109; by omega))
            have n259a : (y115_3).toInt + 1 ≤ (x2).toInt := by first | exact n167_4 | (exact (have a0 := in_u j167_3; have a1 := in_u j167_2; have a2 := in_u j115_1; have a3 := in_u ro_109_20; have a4 := in_u ro_109_19; have a5 := in_u i177; have a6 := in_u ((in_c 0 rfl)); have a7 := in_u i176; have a8 := t_add e176 ro_109_19 (in_c 160 rfl) rfl; have a9 := in_u ((in_c 160 rfl)); have oc := oc_369_109; by omega))
            have n259b : ∀ i : Nat, (u_109_19).toInt ≤ (i : Int) → (i : Int) < (u_109_19).toInt + 160 → (s.1 112 i).toInt ≠ 0 → 1 ≤ (sc167.1 164 (s.1 113 i).toNatClampNeg).toInt := by first | exact g167_0 | exact g259_0
            have n259c : RRL (ARE (gvZ s) 0) (ARE (gvZ s) 1) (s.2.2.1 109 20).toInt.toNat (RK (ARE (gvZ s) 0) (ARE (gvZ s) 1) (s.2.2.1 109 20).toInt.toNat (y115_3).toInt.toNat) ((sc167).2.1 162) ((Int32.ofInt 0)).toInt := by intro v hv; exfalso; have h0 : (Int32.ofInt 0).toInt = 0 := rfl; omega
            have n259d : (∀ v : Nat, v < (s.2.2.1 109 20).toInt.toNat → ((sc167).2.1 163 v).toInt = ltr (ARE (gvZ s) 0) (ARE (gvZ s) 1) (RK (ARE (gvZ s) 0) (ARE (gvZ s) 1) (s.2.2.1 109 20).toInt.toNat (y115_3).toInt.toNat) v) := by have h9 := g167_1; have h8 := g167_2; rw [(show ((y167_6).toInt - (u_109_19).toInt).toNat = 160 from (by exact (have a0 := in_u j167_3; have a1 := in_u j167_2; have a2 := in_u j115_1; have a3 := in_u ro_109_20; have a4 := in_u ro_109_19; have a5 := in_u i177; have a6 := in_u ((in_c 0 rfl)); have a7 := in_u i176; have a8 := t_add e176 ro_109_19 (in_c 160 rfl) rfl; have a9 := in_u ((in_c 160 rfl)); have oc := oc_369_109; by omega)))] at h9 h8; have re := rra_e (ndx_q (ndq_z hI) (show (((s.2.2.1 109 20).toInt.toNat : Nat) : Int) = (gvZ s).2.2.2.2.2.2.1 from (by rw [gvz_n hI]; exact n20 hI))) h9 h8; exact re.1
            have n259e : ((y167_4).toInt = pot (ARE (gvZ s) 0) (RK (ARE (gvZ s) 0) (ARE (gvZ s) 1) (s.2.2.1 109 20).toInt.toNat (y115_3).toInt.toNat) (s.2.2.1 109 20).toInt.toNat) := by have h9 := g167_1; have h8 := g167_2; rw [(show ((y167_6).toInt - (u_109_19).toInt).toNat = 160 from (by exact (have a0 := in_u j167_3; have a1 := in_u j167_2; have a2 := in_u j115_1; have a3 := in_u ro_109_20; have a4 := in_u ro_109_19; have a5 := in_u i177; have a6 := in_u ((in_c 0 rfl)); have a7 := in_u i176; have a8 := t_add e176 ro_109_19 (in_c 160 rfl) rfl; have a9 := in_u ((in_c 160 rfl)); have oc := oc_369_109; by omega)))] at h9 h8; have re := rra_e (ndx_q (ndq_z hI) (show (((s.2.2.1 109 20).toInt.toNat : Nat) : Int) = (gvZ s).2.2.2.2.2.2.1 from (by rw [gvz_n hI]; exact n20 hI))) h9 h8; exact re.2
            have n259f : (∀ u : Nat, u < (s.2.2.1 109 20).toInt.toNat → ((sc167).1 164 u).toInt = cn (ARE (gvZ s) 0) (u : Int) 160) := by exact g167_4
            have n259g : ((sc167).2.2.1 109 0).toInt = 0 := by exact g167_5
            exact gg_w (by first | exact Nat.le_add_right _ _ | exact gw2 | exact gw3 | exact gwe rfl | exact gwf rfl | exact gwg rfl | exact gwh rfl | omega) (gg_f (gf_cons rfl (gf_cons rfl (gf_cons rfl (gf_cons rfl (gf_cons rfl (gf_cons rfl gf_nil)))))) (ct259 33 sc167 y167_4 (Int32.ofInt 0) hIc167 hFc167 (in_w 1 40 j167_2 rfl) (in_w 0 40 j167_3 rfl) (in_w 0 32 (in_c 0 rfl) rfl) n259 n259a n259b n259c n259d n259e n259f n259g (m_in 33 (in_w 0 32 (in_c 0 rfl) rfl) rfl)))
          · skip
            have i177 := r_lt1 0 319 c177 j167_6 i176 rfl
            refine g_aload_n 181 (gd rfl) rfl rfl ?_
            refine g_getA (q2 := 112) 184 (gd rfl) rfl rfl rfl rfl ?_
            refine g_iload 186 (gd rfl) rfl rfl ?_
            refine g_baload 187 (gd rfl) rfl (n := 480) rfl (in_ix i177 rfl) (fun z186 e186 => ?_)
            have i186 := inv_I hIc167 (n := 480) (t := 3) 0 1 rfl (in_ix i177 rfl) rfl e186
            refine g_if_eq 190 250 (gd rfl) rfl rfl (fun c187 => ?_) (fun c187 => ?_)
            · skip
              have i187 := z_eq 0 0 c187 i186 rfl
              refine g_iinc 253 (gd rfl) rfl rfl (Nat.le_of_ble_eq_true rfl) (fun z250 e250 => ?_)
              have i250 := in_add 1 320 e250 i177 (in_c 1 rfl) rfl rfl
              refine g_goto 167 (gd rfl) rfl ?_
              have n167 : (u_109_19).toInt ≤ (z250).toInt := by exact (have a0 := in_u j167_3; have a1 := in_u j167_2; have a2 := in_u j115_1; have a3 := in_u ro_109_20; have a4 := in_u ro_109_19; have a5 := in_u i177; have a6 := in_u i250; have a7 := t_add e250 i177 (in_c 1 rfl) rfl; have a8 := in_u ((in_c 1 rfl)); have a9 := in_u i176; have a10 := t_add e176 ro_109_19 (in_c 160 rfl) rfl; have a11 := in_u ((in_c 160 rfl)); have oc := oc_369_109; by omega)
              have n167a : (x1).toInt < (u_109_20).toInt := by first | exact n115_0 | (exact (have a0 := in_u j167_3; have a1 := in_u j167_2; have a2 := in_u j115_1; have a3 := in_u ro_109_20; have a4 := in_u ro_109_19; have a5 := in_u i177; have a6 := in_u i250; have a7 := t_add e250 i177 (in_c 1 rfl) rfl; have a8 := in_u ((in_c 1 rfl)); have a9 := in_u i176; have a10 := t_add e176 ro_109_19 (in_c 160 rfl) rfl; have a11 := in_u ((in_c 160 rfl)); have oc := oc_369_109; by omega))
              have n167b : (u_109_19).toInt ≤ (z250).toInt := by exact (have a0 := in_u j167_3; have a1 := in_u j167_2; have a2 := in_u j115_1; have a3 := in_u ro_109_20; have a4 := in_u ro_109_19; have a5 := in_u i177; have a6 := in_u i250; have a7 := t_add e250 i177 (in_c 1 rfl) rfl; have a8 := in_u ((in_c 1 rfl)); have a9 := in_u i176; have a10 := t_add e176 ro_109_19 (in_c 160 rfl) rfl; have a11 := in_u ((in_c 160 rfl)); have oc := oc_369_109; by omega)
              have n167c : (z250).toInt ≤ (u_109_19).toInt + 160 := by exact (have a0 := in_u j167_3; have a1 := in_u j167_2; have a2 := in_u j115_1; have a3 := in_u ro_109_20; have a4 := in_u ro_109_19; have a5 := in_u i177; have a6 := in_u i250; have a7 := t_add e250 i177 (in_c 1 rfl) rfl; have a8 := in_u ((in_c 1 rfl)); have a9 := in_u i176; have a10 := t_add e176 ro_109_19 (in_c 160 rfl) rfl; have a11 := in_u ((in_c 160 rfl)); have oc := oc_369_109; by omega)
              have n167d : (y115_3).toInt + 1 ≤ (x2).toInt := by first | exact n167_4 | (exact (have a0 := in_u j167_3; have a1 := in_u j167_2; have a2 := in_u j115_1; have a3 := in_u ro_109_20; have a4 := in_u ro_109_19; have a5 := in_u i177; have a6 := in_u i250; have a7 := t_add e250 i177 (in_c 1 rfl) rfl; have a8 := in_u ((in_c 1 rfl)); have a9 := in_u i176; have a10 := t_add e176 ro_109_19 (in_c 160 rfl) rfl; have a11 := in_u ((in_c 160 rfl)); have oc := oc_369_109; by omega))
              have n167e : ∀ i : Nat, (u_109_19).toInt ≤ (i : Int) → (i : Int) < (u_109_19).toInt + 160 → (s.1 112 i).toInt ≠ 0 → 1 ≤ (sc167.1 164 (s.1 113 i).toNatClampNeg).toInt := by first | exact g126_0 | exact g167_0
              have n167f : RRA (ARE (gvZ s) 0) (ARE (gvZ s) 1) (RK (ARE (gvZ s) 0) (ARE (gvZ s) 1) (s.2.2.1 109 20).toInt.toNat (y115_3).toInt.toNat) ((z250).toInt - (u_109_19).toInt).toNat ((sc167).2.1 163) (s.2.2.1 109 20).toInt.toNat := by rw [show ((z250).toInt - (u_109_19).toInt).toNat = ((y167_6).toInt - (u_109_19).toInt).toNat + 1 from (by exact (have a0 := in_u j167_3; have a1 := in_u j167_2; have a2 := in_u j115_1; have a3 := in_u ro_109_20; have a4 := in_u ro_109_19; have a5 := in_u i177; have a6 := in_u i250; have a7 := t_add e250 i177 (in_c 1 rfl) rfl; have a8 := in_u ((in_c 1 rfl)); have a9 := in_u i176; have a10 := t_add e176 ro_109_19 (in_c 160 rfl) rfl; have a11 := in_u ((in_c 160 rfl)); have oc := oc_369_109; by omega))]; have hp : bs s + ((y167_6).toInt - (u_109_19).toInt).toNat = y167_6.toNatClampNeg := (by show (s.2.2.1 109 19).toInt.toNat + _ = y167_6.toInt.toNat; rw [← e_109_19]; exact (have a0 := in_u j167_3; have a1 := in_u j167_2; have a2 := in_u j115_1; have a3 := in_u ro_109_20; have a4 := in_u ro_109_19; have a5 := in_u i177; have a6 := in_u i250; have a7 := t_add e250 i177 (in_c 1 rfl) rfl; have a8 := in_u ((in_c 1 rfl)); have a9 := in_u i176; have a10 := t_add e176 ro_109_19 (in_c 160 rfl) rfl; have a11 := in_u ((in_c 160 rfl)); have oc := oc_369_109; by omega)); have ha : ((y167_6).toInt - (u_109_19).toInt).toNat < 160 := (by exact (have a0 := in_u j167_3; have a1 := in_u j167_2; have a2 := in_u j115_1; have a3 := in_u ro_109_20; have a4 := in_u ro_109_19; have a5 := in_u i177; have a6 := in_u i250; have a7 := t_add e250 i177 (in_c 1 rfl) rfl; have a8 := in_u ((in_c 1 rfl)); have a9 := in_u i176; have a10 := t_add e176 ro_109_19 (in_c 160 rfl) rfl; have a11 := in_u ((in_c 160 rfl)); have oc := oc_369_109; by omega)); have rt := (show z186 = s.1 112 (bs s + ((y167_6).toInt - (u_109_19).toInt).toNat) from (by rw [hp, ← hFc167.1 112 rfl]; exact e186)); exact (rra_n g167_1 (ar_m1 hI rt (by exact (have a0 := in_u j167_3; have a1 := in_u j167_2; have a2 := in_u j115_1; have a3 := in_u ro_109_20; have a4 := in_u ro_109_19; have a5 := in_u i177; have a6 := in_u i250; have a7 := t_add e250 i177 (in_c 1 rfl) rfl; have a8 := in_u ((in_c 1 rfl)); have a9 := in_u i176; have a10 := t_add e176 ro_109_19 (in_c 160 rfl) rfl; have a11 := in_u ((in_c 160 rfl)); have oc := oc_369_109; by omega)))).1
              have n167g : ((y167_4).toInt = sm (RK (ARE (gvZ s) 0) (ARE (gvZ s) 1) (s.2.2.1 109 20).toInt.toNat (y115_3).toInt.toNat) (s.2.2.1 109 20).toInt.toNat - snp (ARE (gvZ s) 0) (RK (ARE (gvZ s) 0) (ARE (gvZ s) 1) (s.2.2.1 109 20).toInt.toNat (y115_3).toInt.toNat) ((z250).toInt - (u_109_19).toInt).toNat) := by rw [show ((z250).toInt - (u_109_19).toInt).toNat = ((y167_6).toInt - (u_109_19).toInt).toNat + 1 from (by exact (have a0 := in_u j167_3; have a1 := in_u j167_2; have a2 := in_u j115_1; have a3 := in_u ro_109_20; have a4 := in_u ro_109_19; have a5 := in_u i177; have a6 := in_u i250; have a7 := t_add e250 i177 (in_c 1 rfl) rfl; have a8 := in_u ((in_c 1 rfl)); have a9 := in_u i176; have a10 := t_add e176 ro_109_19 (in_c 160 rfl) rfl; have a11 := in_u ((in_c 160 rfl)); have oc := oc_369_109; by omega))]; have hp : bs s + ((y167_6).toInt - (u_109_19).toInt).toNat = y167_6.toNatClampNeg := (by show (s.2.2.1 109 19).toInt.toNat + _ = y167_6.toInt.toNat; rw [← e_109_19]; exact (have a0 := in_u j167_3; have a1 := in_u j167_2; have a2 := in_u j115_1; have a3 := in_u ro_109_20; have a4 := in_u ro_109_19; have a5 := in_u i177; have a6 := in_u i250; have a7 := t_add e250 i177 (in_c 1 rfl) rfl; have a8 := in_u ((in_c 1 rfl)); have a9 := in_u i176; have a10 := t_add e176 ro_109_19 (in_c 160 rfl) rfl; have a11 := in_u ((in_c 160 rfl)); have oc := oc_369_109; by omega)); have ha : ((y167_6).toInt - (u_109_19).toInt).toNat < 160 := (by exact (have a0 := in_u j167_3; have a1 := in_u j167_2; have a2 := in_u j115_1; have a3 := in_u ro_109_20; have a4 := in_u ro_109_19; have a5 := in_u i177; have a6 := in_u i250; have a7 := t_add e250 i177 (in_c 1 rfl) rfl; have a8 := in_u ((in_c 1 rfl)); have a9 := in_u i176; have a10 := t_add e176 ro_109_19 (in_c 160 rfl) rfl; have a11 := in_u ((in_c 160 rfl)); have oc := oc_369_109; by omega)); have rt := (show z186 = s.1 112 (bs s + ((y167_6).toInt - (u_109_19).toInt).toNat) from (by rw [hp, ← hFc167.1 112 rfl]; exact e186)); rw [(rra_n (T := (ARE (gvZ s) 1)) (n := (s.2.2.1 109 20).toInt.toNat) (r := sc167.2.1 163) g167_1 (ar_m1 hI rt (by exact (have a0 := in_u j167_3; have a1 := in_u j167_2; have a2 := in_u j115_1; have a3 := in_u ro_109_20; have a4 := in_u ro_109_19; have a5 := in_u i177; have a6 := in_u i250; have a7 := t_add e250 i177 (in_c 1 rfl) rfl; have a8 := in_u ((in_c 1 rfl)); have a9 := in_u i176; have a10 := t_add e176 ro_109_19 (in_c 160 rfl) rfl; have a11 := in_u ((in_c 160 rfl)); have oc := oc_369_109; by omega)))).2]; exact g167_2
              have n167h : (∀ v : Nat, v < (s.2.2.1 109 20).toInt.toNat → ((sc167).2.1 162 v).toInt = RK (ARE (gvZ s) 0) (ARE (gvZ s) 1) (s.2.2.1 109 20).toInt.toNat (y115_3).toInt.toNat v) := by exact g167_3
              have n167i : (∀ u : Nat, u < (s.2.2.1 109 20).toInt.toNat → ((sc167).1 164 u).toInt = cn (ARE (gvZ s) 0) (u : Int) 160) := by exact g167_4
              have n167j : ((sc167).2.2.1 109 0).toInt = 0 := by exact g167_5
              exact gg_w (by first | exact Nat.le_add_right _ _ | exact gw2 | exact gw3 | exact gwe rfl | exact gwf rfl | exact gwg rfl | exact gwh rfl | omega) (gg_f (gf_cons rfl (gf_cons rfl (gf_cons rfl (gf_cons rfl (gf_cons rfl (gf_cons rfl gf_nil)))))) (ih167 sc167 y167_4 z250 hIc167 hFc167 (in_w 1 40 j167_2 rfl) (in_w 0 40 j167_3 rfl) (in_w 0 400 i250 rfl) n167 n167a n167b n167c n167d n167e n167f n167g n167h n167i n167j (m_up mm167 (t_add e250 i177 (in_c 1 rfl) rfl) (in_w 1 1 (in_c 1 rfl) rfl))))
            · skip
              have i187 := z_ne 1 1 c187 i186 rfl
              refine g_aload_n 191 (gd rfl) rfl rfl ?_
              refine g_getA (q2 := 162) 194 (gd rfl) rfl rfl rfl rfl ?_
              refine g_aload_n 195 (gd rfl) rfl rfl ?_
              refine g_getA (q2 := 113) 198 (gd rfl) rfl rfl rfl rfl ?_
              refine g_iload 200 (gd rfl) rfl rfl ?_
              refine g_iaload 201 (gd rfl) rfl (n := 480) rfl (in_ix i177 rfl) (fun z200 e200 => ?_)
              have i200 := inv_I hIc167 (n := 480) (t := 0) 0 31 rfl (in_ix i177 rfl) rfl e200
              refine g_laload 202 (gd rfl) rfl (n := 32) rfl (in_ix i200 rfl) (fun z201 e201 => ?_)
              refine g_ldc2_w 85 205 (gd rfl) rfl rfl ?_
              refine g_lmul 206 (gd rfl) rfl (fun z205 e205 => ?_)
              refine g_ldc2_w 100 209 (gd rfl) rfl rfl ?_
              refine g_aload_n 210 (gd rfl) rfl rfl ?_
              refine g_getA (q2 := 164) 213 (gd rfl) rfl rfl rfl rfl ?_
              refine g_aload_n 214 (gd rfl) rfl rfl ?_
              refine g_getA (q2 := 113) 217 (gd rfl) rfl rfl rfl rfl ?_
              refine g_iload 219 (gd rfl) rfl rfl ?_
              refine g_iaload 220 (gd rfl) rfl (n := 480) rfl (in_ix i177 rfl) (fun z219 e219 => ?_)
              have q219 : z200 = z219 := (e200).trans e219.symm
              subst q219
              refine g_iaload 221 (gd rfl) rfl (n := 32) rfl (in_ix i200 rfl) (fun z220 e220 => ?_)
              have i220 := inv_I hIc167 (n := 32) (t := 0) 0 160 rfl (in_ix i200 rfl) rfl e220
              have i221 : In z220 1 160 := by have h3 := (hFc167.1 112 rfl); have h4 := (hFc167.1 113 rfl); have h := g167_0 y167_6.toNatClampNeg (by show _ ≤ ((y167_6.toInt.toNat : Nat) : Int); exact (have a0 := in_u j167_3; have a1 := in_u j167_2; have a2 := in_u j115_1; have a3 := in_u ro_109_20; have a4 := in_u ro_109_19; have a5 := in_u i177; have a6 := in_u i176; have a7 := t_add e176 ro_109_19 (in_c 160 rfl) rfl; have a8 := in_u ((in_c 160 rfl)); have oc := oc_369_109; by omega)) (by show ((y167_6.toInt.toNat : Nat) : Int) < _; exact (have a0 := in_u j167_3; have a1 := in_u j167_2; have a2 := in_u j115_1; have a3 := in_u ro_109_20; have a4 := in_u ro_109_19; have a5 := in_u i177; have a6 := in_u i176; have a7 := t_add e176 ro_109_19 (in_c 160 rfl) rfl; have a8 := in_u ((in_c 160 rfl)); have oc := oc_369_109; by omega)) (by rw [← h3, ← e186]; have hz := i187; unfold In at hz; omega); rw [← h4, ← e200, ← e220] at h; exact ⟨h, i220.2⟩
              refine g_i2l 222 (gd rfl) rfl (fun z221 e221 => ?_)
              have i221a := l_i e221 i221
              refine g_lmul 223 (gd rfl) rfl (fun z222 e222 => ?_)
              have i222 := l_mulc 100 100 16000 (Or.inl e222) i221a rfl
              refine g_ldiv 224 (gd rfl) rfl (ldv_nz i222 rfl) (fun z223 e223 => ?_)
              refine g_lstore 226 (gd rfl) rfl (Nat.le_of_ble_eq_true rfl) ?_
              refine g_aload_n 227 (gd rfl) rfl rfl ?_
              refine g_getA (q2 := 163) 230 (gd rfl) rfl rfl rfl rfl ?_
              refine g_aload_n 231 (gd rfl) rfl rfl ?_
              refine g_getA (q2 := 114) 234 (gd rfl) rfl rfl rfl rfl ?_
              refine g_iload 236 (gd rfl) rfl rfl ?_
              refine g_iaload 237 (gd rfl) rfl (n := 480) rfl (in_ix i177 rfl) (fun z236 e236 => ?_)
              have i236 := inv_I hIc167 (n := 480) (t := 0) 0 31 rfl (in_ix i177 rfl) rfl e236
              refine g_dup2 238 (gd rfl) rfl rfl rfl ?_
              refine g_laload 239 (gd rfl) rfl (n := 32) rfl (in_ix i236 rfl) (fun z238 e238 => ?_)
              refine g_lload 241 (gd rfl) rfl rfl ?_
              refine g_ladd 242 (gd rfl) rfl (fun z241 e241 => ?_)
              refine g_lastore 243 (gd rfl) rfl (n := 32) rfl (in_ix i236 rfl) ?_
              have hI242 := inv_sL (q := 163) (j := z236.toNatClampNeg) (x := z241) hIc167 rfl (l_rng z241)
              refine g_lload 245 (gd rfl) rfl rfl ?_
              refine g_lload 247 (gd rfl) rfl rfl ?_
              refine g_lsub 248 (gd rfl) rfl (fun z247 e247 => ?_)
              refine g_lstore 250 (gd rfl) rfl (Nat.le_of_ble_eq_true rfl) ?_
              refine g_iinc 253 (gd rfl) rfl rfl (Nat.le_of_ble_eq_true rfl) (fun z250 e250 => ?_)
              have i250 := in_add 1 320 e250 i177 (in_c 1 rfl) rfl rfl
              refine g_goto 167 (gd rfl) rfl ?_
              have n167 : (u_109_19).toInt ≤ (z250).toInt := by exact (have a0 := in_u j167_3; have a1 := in_u j167_2; have a2 := in_u j115_1; have a3 := in_u ro_109_20; have a4 := in_u ro_109_19; have a5 := in_u i177; have a6 := in_u i250; have a7 := t_add e250 i177 (in_c 1 rfl) rfl; have a8 := in_u ((in_c 1 rfl)); have a9 := tx_i2l e221; have a10 := in_u i221; have a11 := in_u i176; have a12 := t_add e176 ro_109_19 (in_c 160 rfl) rfl; have a13 := in_u ((in_c 160 rfl)); have oc := oc_369_109; by omega)
              have n167a : (x1).toInt < (u_109_20).toInt := by first | exact n115_0 | (exact (have a0 := in_u j167_3; have a1 := in_u j167_2; have a2 := in_u j115_1; have a3 := in_u ro_109_20; have a4 := in_u ro_109_19; have a5 := in_u i177; have a6 := in_u i250; have a7 := t_add e250 i177 (in_c 1 rfl) rfl; have a8 := in_u ((in_c 1 rfl)); have a9 := tx_i2l e221; have a10 := in_u i221; have a11 := in_u i176; have a12 := t_add e176 ro_109_19 (in_c 160 rfl) rfl; have a13 := in_u ((in_c 160 rfl)); have oc := oc_369_109; by omega))
              have n167b : (u_109_19).toInt ≤ (z250).toInt := by exact (have a0 := in_u j167_3; have a1 := in_u j167_2; have a2 := in_u j115_1; have a3 := in_u ro_109_20; have a4 := in_u ro_109_19; have a5 := in_u i177; have a6 := in_u i250; have a7 := t_add e250 i177 (in_c 1 rfl) rfl; have a8 := in_u ((in_c 1 rfl)); have a9 := tx_i2l e221; have a10 := in_u i221; have a11 := in_u i176; have a12 := t_add e176 ro_109_19 (in_c 160 rfl) rfl; have a13 := in_u ((in_c 160 rfl)); have oc := oc_369_109; by omega)
              have n167c : (z250).toInt ≤ (u_109_19).toInt + 160 := by exact (have a0 := in_u j167_3; have a1 := in_u j167_2; have a2 := in_u j115_1; have a3 := in_u ro_109_20; have a4 := in_u ro_109_19; have a5 := in_u i177; have a6 := in_u i250; have a7 := t_add e250 i177 (in_c 1 rfl) rfl; have a8 := in_u ((in_c 1 rfl)); have a9 := tx_i2l e221; have a10 := in_u i221; have a11 := in_u i176; have a12 := t_add e176 ro_109_19 (in_c 160 rfl) rfl; have a13 := in_u ((in_c 160 rfl)); have oc := oc_369_109; by omega)
              have n167d : (y115_3).toInt + 1 ≤ (x2).toInt := by first | exact n167_4 | (exact (have a0 := in_u j167_3; have a1 := in_u j167_2; have a2 := in_u j115_1; have a3 := in_u ro_109_20; have a4 := in_u ro_109_19; have a5 := in_u i177; have a6 := in_u i250; have a7 := t_add e250 i177 (in_c 1 rfl) rfl; have a8 := in_u ((in_c 1 rfl)); have a9 := tx_i2l e221; have a10 := in_u i221; have a11 := in_u i176; have a12 := t_add e176 ro_109_19 (in_c 160 rfl) rfl; have a13 := in_u ((in_c 160 rfl)); have oc := oc_369_109; by omega))
              have n167e : ∀ i : Nat, (u_109_19).toInt ≤ (i : Int) → (i : Int) < (u_109_19).toInt + 160 → (s.1 112 i).toInt ≠ 0 → 1 ≤ ((sL sc167 163 z236.toNatClampNeg z241).1 164 (s.1 113 i).toNatClampNeg).toInt := by first | exact g126_0 | exact g167_0
              have n167f : RRA (ARE (gvZ s) 0) (ARE (gvZ s) 1) (RK (ARE (gvZ s) 0) (ARE (gvZ s) 1) (s.2.2.1 109 20).toInt.toNat (y115_3).toInt.toNat) ((z250).toInt - (u_109_19).toInt).toNat (((sL sc167 163 z236.toNatClampNeg z241)).2.1 163) (s.2.2.1 109 20).toInt.toNat := by rw [show ((z250).toInt - (u_109_19).toInt).toNat = ((y167_6).toInt - (u_109_19).toInt).toNat + 1 from (by exact (have a0 := in_u j167_3; have a1 := in_u j167_2; have a2 := in_u j115_1; have a3 := in_u ro_109_20; have a4 := in_u ro_109_19; have a5 := in_u i177; have a6 := in_u i250; have a7 := t_add e250 i177 (in_c 1 rfl) rfl; have a8 := in_u ((in_c 1 rfl)); have a9 := tx_i2l e221; have a10 := in_u i221; have a11 := in_u i176; have a12 := t_add e176 ro_109_19 (in_c 160 rfl) rfl; have a13 := in_u ((in_c 160 rfl)); have oc := oc_369_109; by omega))]; have hp : bs s + ((y167_6).toInt - (u_109_19).toInt).toNat = y167_6.toNatClampNeg := (by show (s.2.2.1 109 19).toInt.toNat + _ = y167_6.toInt.toNat; rw [← e_109_19]; exact (have a0 := in_u j167_3; have a1 := in_u j167_2; have a2 := in_u j115_1; have a3 := in_u ro_109_20; have a4 := in_u ro_109_19; have a5 := in_u i177; have a6 := in_u i250; have a7 := t_add e250 i177 (in_c 1 rfl) rfl; have a8 := in_u ((in_c 1 rfl)); have a9 := tx_i2l e221; have a10 := in_u i221; have a11 := in_u i176; have a12 := t_add e176 ro_109_19 (in_c 160 rfl) rfl; have a13 := in_u ((in_c 160 rfl)); have oc := oc_369_109; by omega)); have ha : ((y167_6).toInt - (u_109_19).toInt).toNat < 160 := (by exact (have a0 := in_u j167_3; have a1 := in_u j167_2; have a2 := in_u j115_1; have a3 := in_u ro_109_20; have a4 := in_u ro_109_19; have a5 := in_u i177; have a6 := in_u i250; have a7 := t_add e250 i177 (in_c 1 rfl) rfl; have a8 := in_u ((in_c 1 rfl)); have a9 := tx_i2l e221; have a10 := in_u i221; have a11 := in_u i176; have a12 := t_add e176 ro_109_19 (in_c 160 rfl) rfl; have a13 := in_u ((in_c 160 rfl)); have oc := oc_369_109; by omega)); have rt := (show z186 = s.1 112 (bs s + ((y167_6).toInt - (u_109_19).toInt).toNat) from (by rw [hp, ← hFc167.1 112 rfl]; exact e186)); have rf := (show z200 = s.1 113 (bs s + ((y167_6).toInt - (u_109_19).toInt).toNat) from (by rw [hp, ← hFc167.1 113 rfl]; exact e200)); have rr := (show z236 = s.1 114 (bs s + ((y167_6).toInt - (u_109_19).toInt).toNat) from (by rw [hp, ← hFc167.1 114 rfl]; exact e236)); have th : (s.1 112 (bs s + ((y167_6).toInt - (u_109_19).toInt).toNat)).toInt ≠ 0 := (by rw [← rt]; exact (have a0 := in_u j167_3; have a1 := in_u j167_2; have a2 := in_u j115_1; have a3 := in_u ro_109_20; have a4 := in_u ro_109_19; have a5 := in_u i177; have a6 := in_u i250; have a7 := t_add e250 i177 (in_c 1 rfl) rfl; have a8 := in_u ((in_c 1 rfl)); have a9 := tx_i2l e221; have a10 := in_u i221; have a11 := in_u i176; have a12 := t_add e176 ro_109_19 (in_c 160 rfl) rfl; have a13 := in_u ((in_c 160 rfl)); have oc := oc_369_109; by omega)); have fn := arn1 hI ha th rf; have az := arz_y hI ha rt (by exact (have a0 := in_u j167_3; have a1 := in_u j167_2; have a2 := in_u j115_1; have a3 := in_u ro_109_20; have a4 := in_u ro_109_19; have a5 := in_u i177; have a6 := in_u i250; have a7 := t_add e250 i177 (in_c 1 rfl) rfl; have a8 := in_u ((in_c 1 rfl)); have a9 := tx_i2l e221; have a10 := in_u i221; have a11 := in_u i176; have a12 := t_add e176 ro_109_19 (in_c 160 rfl) rfl; have a13 := in_u ((in_c 160 rfl)); have oc := oc_369_109; by omega)); have zs : (z223).toInt = shr (ARE (gvZ s) 0) (RK (ARE (gvZ s) 0) (ARE (gvZ s) 1) (s.2.2.1 109 20).toInt.toNat (y115_3).toInt.toNat) (z200).toNatClampNeg := shr_v (o := (z220).toInt) (urg_b (urg_k (ndx_q (ndq_z hI) (show (((s.2.2.1 109 20).toInt.toNat : Nat) : Int) = (gvZ s).2.2.2.2.2.2.1 from (by rw [gvz_n hI]; exact n20 hI))) (show 0 < (s.2.2.1 109 20).toInt.toNat from (by have h9 := n20 hI; rw [← e_109_20] at h9 ⊢; exact (have a0 := in_u j167_3; have a1 := in_u j167_2; have a2 := in_u j115_1; have a3 := in_u ro_109_20; have a4 := in_u ro_109_19; have a5 := in_u i177; have a6 := in_u i250; have a7 := t_add e250 i177 (in_c 1 rfl) rfl; have a8 := in_u ((in_c 1 rfl)); have a9 := tx_i2l e221; have a10 := in_u i221; have a11 := in_u i176; have a12 := t_add e176 ro_109_19 (in_c 160 rfl) rfl; have a13 := in_u ((in_c 160 rfl)); have oc := oc_369_109; by omega))) (y115_3).toInt.toNat) fn (show (s.2.2.1 109 20).toInt.toNat ≤ 32 from (by have h9 := inv_F hI (z := s.2.2.1 109 20) 0 32 rfl rfl; unfold In at h9; omega))) (by rw [e201]; exact g167_3 _ fn) (by rw [e220]; exact g167_4 _ fn) (by have h9 := i221; unfold In at h9; omega) (u_i2l e221) e205 e222 e223; have ra := rra_s (ndx_q (ndq_z hI) (show (((s.2.2.1 109 20).toInt.toNat : Nat) : Int) = (gvZ s).2.2.2.2.2.2.1 from (by rw [gvz_n hI]; exact n20 hI))) (urg_k (ndx_q (ndq_z hI) (show (((s.2.2.1 109 20).toInt.toNat : Nat) : Int) = (gvZ s).2.2.2.2.2.2.1 from (by rw [gvz_n hI]; exact n20 hI))) (show 0 < (s.2.2.1 109 20).toInt.toNat from (by have h9 := n20 hI; rw [← e_109_20] at h9 ⊢; exact (have a0 := in_u j167_3; have a1 := in_u j167_2; have a2 := in_u j115_1; have a3 := in_u ro_109_20; have a4 := in_u ro_109_19; have a5 := in_u i177; have a6 := in_u i250; have a7 := t_add e250 i177 (in_c 1 rfl) rfl; have a8 := in_u ((in_c 1 rfl)); have a9 := tx_i2l e221; have a10 := in_u i221; have a11 := in_u i176; have a12 := t_add e176 ro_109_19 (in_c 160 rfl) rfl; have a13 := in_u ((in_c 160 rfl)); have oc := oc_369_109; by omega))) (y115_3).toInt.toNat) (show (s.2.2.1 109 20).toInt.toNat ≤ 32 from (by have h9 := inv_F hI (z := s.2.2.1 109 20) 0 32 rfl rfl; unfold In at h9; omega)) ha g167_1 (az.1.trans (by rw [← rf]; exact clx i200.1)) (az.2.trans (by rw [← rr]; exact clx i236.1)) i200 i236 e238 zs e241 g167_2 e247; rw [sL_q]; exact ra.1
              have n167g : ((z247).toInt = sm (RK (ARE (gvZ s) 0) (ARE (gvZ s) 1) (s.2.2.1 109 20).toInt.toNat (y115_3).toInt.toNat) (s.2.2.1 109 20).toInt.toNat - snp (ARE (gvZ s) 0) (RK (ARE (gvZ s) 0) (ARE (gvZ s) 1) (s.2.2.1 109 20).toInt.toNat (y115_3).toInt.toNat) ((z250).toInt - (u_109_19).toInt).toNat) := by rw [show ((z250).toInt - (u_109_19).toInt).toNat = ((y167_6).toInt - (u_109_19).toInt).toNat + 1 from (by exact (have a0 := in_u j167_3; have a1 := in_u j167_2; have a2 := in_u j115_1; have a3 := in_u ro_109_20; have a4 := in_u ro_109_19; have a5 := in_u i177; have a6 := in_u i250; have a7 := t_add e250 i177 (in_c 1 rfl) rfl; have a8 := in_u ((in_c 1 rfl)); have a9 := tx_i2l e221; have a10 := in_u i221; have a11 := in_u i176; have a12 := t_add e176 ro_109_19 (in_c 160 rfl) rfl; have a13 := in_u ((in_c 160 rfl)); have oc := oc_369_109; by omega))]; have hp : bs s + ((y167_6).toInt - (u_109_19).toInt).toNat = y167_6.toNatClampNeg := (by show (s.2.2.1 109 19).toInt.toNat + _ = y167_6.toInt.toNat; rw [← e_109_19]; exact (have a0 := in_u j167_3; have a1 := in_u j167_2; have a2 := in_u j115_1; have a3 := in_u ro_109_20; have a4 := in_u ro_109_19; have a5 := in_u i177; have a6 := in_u i250; have a7 := t_add e250 i177 (in_c 1 rfl) rfl; have a8 := in_u ((in_c 1 rfl)); have a9 := tx_i2l e221; have a10 := in_u i221; have a11 := in_u i176; have a12 := t_add e176 ro_109_19 (in_c 160 rfl) rfl; have a13 := in_u ((in_c 160 rfl)); have oc := oc_369_109; by omega)); have ha : ((y167_6).toInt - (u_109_19).toInt).toNat < 160 := (by exact (have a0 := in_u j167_3; have a1 := in_u j167_2; have a2 := in_u j115_1; have a3 := in_u ro_109_20; have a4 := in_u ro_109_19; have a5 := in_u i177; have a6 := in_u i250; have a7 := t_add e250 i177 (in_c 1 rfl) rfl; have a8 := in_u ((in_c 1 rfl)); have a9 := tx_i2l e221; have a10 := in_u i221; have a11 := in_u i176; have a12 := t_add e176 ro_109_19 (in_c 160 rfl) rfl; have a13 := in_u ((in_c 160 rfl)); have oc := oc_369_109; by omega)); have rt := (show z186 = s.1 112 (bs s + ((y167_6).toInt - (u_109_19).toInt).toNat) from (by rw [hp, ← hFc167.1 112 rfl]; exact e186)); have rf := (show z200 = s.1 113 (bs s + ((y167_6).toInt - (u_109_19).toInt).toNat) from (by rw [hp, ← hFc167.1 113 rfl]; exact e200)); have rr := (show z236 = s.1 114 (bs s + ((y167_6).toInt - (u_109_19).toInt).toNat) from (by rw [hp, ← hFc167.1 114 rfl]; exact e236)); have th : (s.1 112 (bs s + ((y167_6).toInt - (u_109_19).toInt).toNat)).toInt ≠ 0 := (by rw [← rt]; exact (have a0 := in_u j167_3; have a1 := in_u j167_2; have a2 := in_u j115_1; have a3 := in_u ro_109_20; have a4 := in_u ro_109_19; have a5 := in_u i177; have a6 := in_u i250; have a7 := t_add e250 i177 (in_c 1 rfl) rfl; have a8 := in_u ((in_c 1 rfl)); have a9 := tx_i2l e221; have a10 := in_u i221; have a11 := in_u i176; have a12 := t_add e176 ro_109_19 (in_c 160 rfl) rfl; have a13 := in_u ((in_c 160 rfl)); have oc := oc_369_109; by omega)); have fn := arn1 hI ha th rf; have az := arz_y hI ha rt (by exact (have a0 := in_u j167_3; have a1 := in_u j167_2; have a2 := in_u j115_1; have a3 := in_u ro_109_20; have a4 := in_u ro_109_19; have a5 := in_u i177; have a6 := in_u i250; have a7 := t_add e250 i177 (in_c 1 rfl) rfl; have a8 := in_u ((in_c 1 rfl)); have a9 := tx_i2l e221; have a10 := in_u i221; have a11 := in_u i176; have a12 := t_add e176 ro_109_19 (in_c 160 rfl) rfl; have a13 := in_u ((in_c 160 rfl)); have oc := oc_369_109; by omega)); have zs : (z223).toInt = shr (ARE (gvZ s) 0) (RK (ARE (gvZ s) 0) (ARE (gvZ s) 1) (s.2.2.1 109 20).toInt.toNat (y115_3).toInt.toNat) (z200).toNatClampNeg := shr_v (o := (z220).toInt) (urg_b (urg_k (ndx_q (ndq_z hI) (show (((s.2.2.1 109 20).toInt.toNat : Nat) : Int) = (gvZ s).2.2.2.2.2.2.1 from (by rw [gvz_n hI]; exact n20 hI))) (show 0 < (s.2.2.1 109 20).toInt.toNat from (by have h9 := n20 hI; rw [← e_109_20] at h9 ⊢; exact (have a0 := in_u j167_3; have a1 := in_u j167_2; have a2 := in_u j115_1; have a3 := in_u ro_109_20; have a4 := in_u ro_109_19; have a5 := in_u i177; have a6 := in_u i250; have a7 := t_add e250 i177 (in_c 1 rfl) rfl; have a8 := in_u ((in_c 1 rfl)); have a9 := tx_i2l e221; have a10 := in_u i221; have a11 := in_u i176; have a12 := t_add e176 ro_109_19 (in_c 160 rfl) rfl; have a13 := in_u ((in_c 160 rfl)); have oc := oc_369_109; by omega))) (y115_3).toInt.toNat) fn (show (s.2.2.1 109 20).toInt.toNat ≤ 32 from (by have h9 := inv_F hI (z := s.2.2.1 109 20) 0 32 rfl rfl; unfold In at h9; omega))) (by rw [e201]; exact g167_3 _ fn) (by rw [e220]; exact g167_4 _ fn) (by have h9 := i221; unfold In at h9; omega) (u_i2l e221) e205 e222 e223; have ra := rra_s (ndx_q (ndq_z hI) (show (((s.2.2.1 109 20).toInt.toNat : Nat) : Int) = (gvZ s).2.2.2.2.2.2.1 from (by rw [gvz_n hI]; exact n20 hI))) (urg_k (ndx_q (ndq_z hI) (show (((s.2.2.1 109 20).toInt.toNat : Nat) : Int) = (gvZ s).2.2.2.2.2.2.1 from (by rw [gvz_n hI]; exact n20 hI))) (show 0 < (s.2.2.1 109 20).toInt.toNat from (by have h9 := n20 hI; rw [← e_109_20] at h9 ⊢; exact (have a0 := in_u j167_3; have a1 := in_u j167_2; have a2 := in_u j115_1; have a3 := in_u ro_109_20; have a4 := in_u ro_109_19; have a5 := in_u i177; have a6 := in_u i250; have a7 := t_add e250 i177 (in_c 1 rfl) rfl; have a8 := in_u ((in_c 1 rfl)); have a9 := tx_i2l e221; have a10 := in_u i221; have a11 := in_u i176; have a12 := t_add e176 ro_109_19 (in_c 160 rfl) rfl; have a13 := in_u ((in_c 160 rfl)); have oc := oc_369_109; by omega))) (y115_3).toInt.toNat) (show (s.2.2.1 109 20).toInt.toNat ≤ 32 from (by have h9 := inv_F hI (z := s.2.2.1 109 20) 0 32 rfl rfl; unfold In at h9; omega)) ha g167_1 (az.1.trans (by rw [← rf]; exact clx i200.1)) (az.2.trans (by rw [← rr]; exact clx i236.1)) i200 i236 e238 zs e241 g167_2 e247; exact ra.2
              have n167h : (∀ v : Nat, v < (s.2.2.1 109 20).toInt.toNat → (((sL sc167 163 z236.toNatClampNeg z241)).2.1 162 v).toInt = RK (ARE (gvZ s) 0) (ARE (gvZ s) 1) (s.2.2.1 109 20).toInt.toNat (y115_3).toInt.toNat v) := by exact g167_3
              have n167i : (∀ u : Nat, u < (s.2.2.1 109 20).toInt.toNat → (((sL sc167 163 z236.toNatClampNeg z241)).1 164 u).toInt = cn (ARE (gvZ s) 0) (u : Int) 160) := by exact g167_4
              have n167j : (((sL sc167 163 z236.toNatClampNeg z241)).2.2.1 109 0).toInt = 0 := by exact g167_5
              exact gg_w (by first | exact Nat.le_add_right _ _ | exact gw2 | exact gw3 | exact gwe rfl | exact gwf rfl | exact gwg rfl | exact gwh rfl | omega) (gg_f (gf_cons rfl (gf_cons rfl (gf_cons rfl (gf_cons rfl (gf_cons rfl (gf_cons rfl gf_nil)))))) (ih167 (sL sc167 163 z236.toNatClampNeg z241) z247 z250 hI242 (fr_sL rfl hFc167) (in_w 1 40 j167_2 rfl) (in_w 0 40 j167_3 rfl) (in_w 0 400 i250 rfl) n167 n167a n167b n167c n167d n167e n167f n167g n167h n167i n167j (m_up mm167 (t_add e250 i177 (in_c 1 rfl) rfl) (in_w 1 1 (in_c 1 rfl) rfl))))
      have ct126 : ∀ (k126 : Nat) (sc126 : GS) (y126_4 : Int64) (y126_6 : Int32), Inv sc126 → Fr fm_369 s sc126 → (In x2 1 40) → (In y115_3 0 40) → (In y126_6 0 32) → ((x1).toInt < (u_109_20).toInt) → ((y126_6).toInt ≤ (u_109_20).toInt) → ((y115_3).toInt + 1 ≤ (x2).toInt) → (∀ i : Nat, (u_109_19).toInt ≤ (i : Int) → (i : Int) < (u_109_19).toInt + 160 → (s.1 112 i).toInt ≠ 0 → 1 ≤ (sc126.1 164 (s.1 113 i).toNatClampNeg).toInt) → (((y126_4).toInt = sm (RK (ARE (gvZ s) 0) (ARE (gvZ s) 1) (s.2.2.1 109 20).toInt.toNat (y115_3).toInt.toNat) (y126_6).toNatClampNeg)) → ((∀ v : Nat, (v : Int) < (y126_6).toInt → ((sc126).2.1 163 v).toInt = 0)) → ((∀ v : Nat, v < (s.2.2.1 109 20).toInt.toNat → ((sc126).2.1 162 v).toInt = RK (ARE (gvZ s) 0) (ARE (gvZ s) 1) (s.2.2.1 109 20).toInt.toNat (y115_3).toInt.toNat v)) → ((∀ u : Nat, u < (s.2.2.1 109 20).toInt.toNat → ((sc126).1 164 u).toInt = cn (ARE (gvZ s) 0) (u : Int) 160)) → (((sc126).2.2.1 109 0).toInt = 0) → 32 - (y126_6).toInt < (k126 : Int) → GG Z (d - 1) 369 post (gx xp) (1 + k115 * 426603 + 390603 + k126 * 900) 126 (fun j => xlook j [(0, .ref (A 109)), (1, .int x1), (2, .int x2), (3, .int y115_3), (4, .long y126_4), (6, .int y126_6)]) [] (WW Z A sc126 ++ ex) 0 0 := by
        intro k126
        induction k126 with
        | zero => intro sc126 y126_4 y126_6 hIc126 hFc126 j126_2 j126_3 j126_6 n126_0 n126_1 n126_2 g126_0 g126_1 g126_2 g126_3 g126_4 g126_5 mm126; exact m_no mm126 j126_6 rfl
        | succ k126 ih126 =>
          intro sc126 y126_4 y126_6 hIc126 hFc126 j126_2 j126_3 j126_6 n126_0 n126_1 n126_2 g126_0 g126_1 g126_2 g126_3 g126_4 g126_5 mm126
          refine gg_w (M := 1 + k115 * 426603 + 390603 + k126 * 900 + 900) gws ?_
          refine g_iload 128 (gd rfl) rfl rfl ?_
          refine g_aload_n 129 (gd rfl) rfl rfl ?_
          refine g_getI 132 (gd rfl) rfl rfl rfl (fun z129 e129 => ?_)
          have q129 : u_109_20 = z129 := (fr_F e_109_20 hFc126 rfl).trans e129.symm
          subst q129
          refine g_cmp_ge 135 161 (gd rfl) rfl rfl (fun c132 => ?_) (fun c132 => ?_)
          · skip
            refine g_aload_n 162 (gd rfl) rfl rfl ?_
            refine g_getI 165 (gd rfl) rfl rfl rfl (fun z162 e162 => ?_)
            have q162 : u_109_19 = z162 := (fr_F e_109_19 hFc126 rfl).trans e162.symm
            subst q162
            refine g_istore 167 (gd rfl) rfl (Nat.le_of_ble_eq_true rfl) ?_
            have n167 : (u_109_19).toInt ≤ (u_109_19).toInt := by exact (have a0 := in_u j126_3; have a1 := in_u j126_2; have a2 := in_u j115_1; have a3 := in_u ro_109_20; have a4 := in_u ro_109_19; have a5 := in_u j126_6; have oc := oc_369_109; by omega)
            have n167a : (x1).toInt < (u_109_20).toInt := by first | exact n115_0 | (exact (have a0 := in_u j126_3; have a1 := in_u j126_2; have a2 := in_u j115_1; have a3 := in_u ro_109_20; have a4 := in_u ro_109_19; have a5 := in_u j126_6; have oc := oc_369_109; by omega))
            have n167b : (u_109_19).toInt ≤ (u_109_19).toInt := by exact (have a0 := in_u j126_3; have a1 := in_u j126_2; have a2 := in_u j115_1; have a3 := in_u ro_109_20; have a4 := in_u ro_109_19; have a5 := in_u j126_6; have oc := oc_369_109; by omega)
            have n167c : (u_109_19).toInt ≤ (u_109_19).toInt + 160 := by exact (have a0 := in_u j126_3; have a1 := in_u j126_2; have a2 := in_u j115_1; have a3 := in_u ro_109_20; have a4 := in_u ro_109_19; have a5 := in_u j126_6; have oc := oc_369_109; by omega)
            have n167d : (y115_3).toInt + 1 ≤ (x2).toInt := by first | exact n126_2 | (exact (have a0 := in_u j126_3; have a1 := in_u j126_2; have a2 := in_u j115_1; have a3 := in_u ro_109_20; have a4 := in_u ro_109_19; have a5 := in_u j126_6; have oc := oc_369_109; by omega))
            have n167e : ∀ i : Nat, (u_109_19).toInt ≤ (i : Int) → (i : Int) < (u_109_19).toInt + 160 → (s.1 112 i).toInt ≠ 0 → 1 ≤ (sc126.1 164 (s.1 113 i).toNatClampNeg).toInt := by first | exact g126_0 | exact g167_0
            have n167f : RRA (ARE (gvZ s) 0) (ARE (gvZ s) 1) (RK (ARE (gvZ s) 0) (ARE (gvZ s) 1) (s.2.2.1 109 20).toInt.toNat (y115_3).toInt.toNat) ((u_109_19).toInt - (u_109_19).toInt).toNat ((sc126).2.1 163) (s.2.2.1 109 20).toInt.toNat := by have z0 : ((u_109_19).toInt - (u_109_19).toInt).toNat = 0 := (by omega); rw [z0]; intro v hv; exact g126_2 v (by have h9 := n20 hI; rw [← e_109_20] at h9 hv; exact (have a0 := in_u j126_3; have a1 := in_u j126_2; have a2 := in_u j115_1; have a3 := in_u ro_109_20; have a4 := in_u ro_109_19; have a5 := in_u j126_6; have oc := oc_369_109; by omega))
            have n167g : ((y126_4).toInt = sm (RK (ARE (gvZ s) 0) (ARE (gvZ s) 1) (s.2.2.1 109 20).toInt.toNat (y115_3).toInt.toNat) (s.2.2.1 109 20).toInt.toNat - snp (ARE (gvZ s) 0) (RK (ARE (gvZ s) 0) (ARE (gvZ s) 1) (s.2.2.1 109 20).toInt.toNat (y115_3).toInt.toNat) ((u_109_19).toInt - (u_109_19).toInt).toNat) := by have z0 : ((u_109_19).toInt - (u_109_19).toInt).toNat = 0 := (by omega); have h9 := g126_1; rw [show (y126_6).toNatClampNeg = (s.2.2.1 109 20).toInt.toNat from (by show (y126_6).toInt.toNat = _; rw [← e_109_20]; exact (have a0 := in_u j126_3; have a1 := in_u j126_2; have a2 := in_u j115_1; have a3 := in_u ro_109_20; have a4 := in_u ro_109_19; have a5 := in_u j126_6; have oc := oc_369_109; by omega))] at h9; rw [z0, h9]; show _ = _ - (0 : Int); omega
            have n167h : (∀ v : Nat, v < (s.2.2.1 109 20).toInt.toNat → ((sc126).2.1 162 v).toInt = RK (ARE (gvZ s) 0) (ARE (gvZ s) 1) (s.2.2.1 109 20).toInt.toNat (y115_3).toInt.toNat v) := by exact g126_3
            have n167i : (∀ u : Nat, u < (s.2.2.1 109 20).toInt.toNat → ((sc126).1 164 u).toInt = cn (ARE (gvZ s) 0) (u : Int) 160) := by exact g126_4
            have n167j : ((sc126).2.2.1 109 0).toInt = 0 := by exact g126_5
            exact gg_w (by first | exact Nat.le_add_right _ _ | exact gw2 | exact gw3 | exact gwe rfl | exact gwf rfl | exact gwg rfl | exact gwh rfl | omega) (gg_f (gf_cons rfl (gf_cons rfl (gf_cons rfl (gf_cons rfl (gf_cons rfl (gf_cons rfl gf_nil)))))) (ct167 401 sc126 y126_4 u_109_19 hIc126 hFc126 (in_w 1 40 j126_2 rfl) (in_w 0 40 j126_3 rfl) (in_w 0 400 ro_109_19 rfl) n167 n167a n167b n167c n167d n167e n167f n167g n167h n167i n167j (m_in 401 (in_w 0 400 ro_109_19 rfl) rfl)))
          · skip
            have i132 := r_lt1 0 31 c132 j126_6 ro_109_20 rfl
            have i132a := r_lt2 1 32 c132 j126_6 ro_109_20 rfl
            refine g_lload 137 (gd rfl) rfl rfl ?_
            refine g_aload_n 138 (gd rfl) rfl rfl ?_
            refine g_getA (q2 := 162) 141 (gd rfl) rfl rfl rfl rfl ?_
            refine g_iload 143 (gd rfl) rfl rfl ?_
            refine g_laload 144 (gd rfl) rfl (n := 32) rfl (in_ix i132 rfl) (fun z143 e143 => ?_)
            refine g_ladd 145 (gd rfl) rfl (fun z144 e144 => ?_)
            refine g_lstore 147 (gd rfl) rfl (Nat.le_of_ble_eq_true rfl) ?_
            refine g_aload_n 148 (gd rfl) rfl rfl ?_
            refine g_getA (q2 := 163) 151 (gd rfl) rfl rfl rfl rfl ?_
            refine g_iload 153 (gd rfl) rfl rfl ?_
            refine g_lconst 0 154 (gd rfl) rfl rfl ?_
            refine g_lastore 155 (gd rfl) rfl (n := 32) rfl (in_ix i132 rfl) ?_
            have hI154 := inv_sL (q := 163) (j := y126_6.toNatClampNeg) (x := (Int64.ofInt 0)) hIc126 rfl (l_rng (Int64.ofInt 0))
            refine g_iinc 158 (gd rfl) rfl rfl (Nat.le_of_ble_eq_true rfl) (fun z155 e155 => ?_)
            have i155 := in_add 1 32 e155 i132 (in_c 1 rfl) rfl rfl
            refine g_goto 126 (gd rfl) rfl ?_
            have n126 : (x1).toInt < (u_109_20).toInt := by first | exact n115_0 | (exact (have a0 := in_u j126_3; have a1 := in_u j126_2; have a2 := in_u j115_1; have a3 := in_u i132a; have a4 := in_u ro_109_19; have a5 := in_u i132; have a6 := in_u i155; have a7 := t_add e155 i132 (in_c 1 rfl) rfl; have a8 := in_u ((in_c 1 rfl)); have oc := oc_369_109; by omega))
            have n126a : (z155).toInt ≤ (u_109_20).toInt := by exact (have a0 := in_u j126_3; have a1 := in_u j126_2; have a2 := in_u j115_1; have a3 := in_u i132a; have a4 := in_u ro_109_19; have a5 := in_u i132; have a6 := in_u i155; have a7 := t_add e155 i132 (in_c 1 rfl) rfl; have a8 := in_u ((in_c 1 rfl)); have oc := oc_369_109; by omega)
            have n126b : (y115_3).toInt + 1 ≤ (x2).toInt := by first | exact n126_2 | (exact (have a0 := in_u j126_3; have a1 := in_u j126_2; have a2 := in_u j115_1; have a3 := in_u i132a; have a4 := in_u ro_109_19; have a5 := in_u i132; have a6 := in_u i155; have a7 := t_add e155 i132 (in_c 1 rfl) rfl; have a8 := in_u ((in_c 1 rfl)); have oc := oc_369_109; by omega))
            have n126c : ∀ i : Nat, (u_109_19).toInt ≤ (i : Int) → (i : Int) < (u_109_19).toInt + 160 → (s.1 112 i).toInt ≠ 0 → 1 ≤ ((sL sc126 163 y126_6.toNatClampNeg (Int64.ofInt 0)).1 164 (s.1 113 i).toNatClampNeg).toInt := by first | exact g115_0 | exact g126_0
            have n126d : ((z144).toInt = sm (RK (ARE (gvZ s) 0) (ARE (gvZ s) 1) (s.2.2.1 109 20).toInt.toNat (y115_3).toInt.toNat) (z155).toNatClampNeg) := by have yn : (y126_6).toNatClampNeg < (s.2.2.1 109 20).toInt.toNat := (by show (y126_6).toInt.toNat < _; rw [← e_109_20]; exact (have a0 := in_u j126_3; have a1 := in_u j126_2; have a2 := in_u j115_1; have a3 := in_u i132a; have a4 := in_u ro_109_19; have a5 := in_u i132; have a6 := in_u i155; have a7 := t_add e155 i132 (in_c 1 rfl) rfl; have a8 := in_u ((in_c 1 rfl)); have oc := oc_369_109; by omega)); rw [show (z155).toNatClampNeg = (y126_6).toNatClampNeg + 1 from (by show (z155).toInt.toNat = (y126_6).toInt.toNat + 1; exact (have a0 := in_u j126_3; have a1 := in_u j126_2; have a2 := in_u j115_1; have a3 := in_u i132a; have a4 := in_u ro_109_19; have a5 := in_u i132; have a6 := in_u i155; have a7 := t_add e155 i132 (in_c 1 rfl) rfl; have a8 := in_u ((in_c 1 rfl)); have oc := oc_369_109; by omega))]; exact sum_s (urg_k (ndx_q (ndq_z hI) (show (((s.2.2.1 109 20).toInt.toNat : Nat) : Int) = (gvZ s).2.2.2.2.2.2.1 from (by rw [gvz_n hI]; exact n20 hI))) (show 0 < (s.2.2.1 109 20).toInt.toNat from (by have h9 := n20 hI; rw [← e_109_20] at h9 ⊢; exact (have a0 := in_u j126_3; have a1 := in_u j126_2; have a2 := in_u j115_1; have a3 := in_u i132a; have a4 := in_u ro_109_19; have a5 := in_u i132; have a6 := in_u i155; have a7 := t_add e155 i132 (in_c 1 rfl) rfl; have a8 := in_u ((in_c 1 rfl)); have oc := oc_369_109; by omega))) (y115_3).toInt.toNat) (show (s.2.2.1 109 20).toInt.toNat ≤ 32 from (by have h9 := inv_F hI (z := s.2.2.1 109 20) 0 32 rfl rfl; unfold In at h9; omega)) yn g126_1 (by rw [e143]; exact g126_3 _ yn) e144
            have n126e : (∀ v : Nat, (v : Int) < (z155).toInt → (((sL sc126 163 y126_6.toNatClampNeg (Int64.ofInt 0))).2.1 163 v).toInt = 0) := by intro v hv; rw [sL_q]; by_cases c : v = (y126_6).toNatClampNeg; (rw [c, ul_eq]; rfl); (rw [ul_ne c]; exact g126_2 v (by have e5 : (y126_6).toNatClampNeg = (y126_6).toInt.toNat := rfl; exact (have a0 := in_u j126_3; have a1 := in_u j126_2; have a2 := in_u j115_1; have a3 := in_u i132a; have a4 := in_u ro_109_19; have a5 := in_u i132; have a6 := in_u i155; have a7 := t_add e155 i132 (in_c 1 rfl) rfl; have a8 := in_u ((in_c 1 rfl)); have oc := oc_369_109; by omega)))
            have n126f : (∀ v : Nat, v < (s.2.2.1 109 20).toInt.toNat → (((sL sc126 163 y126_6.toNatClampNeg (Int64.ofInt 0))).2.1 162 v).toInt = RK (ARE (gvZ s) 0) (ARE (gvZ s) 1) (s.2.2.1 109 20).toInt.toNat (y115_3).toInt.toNat v) := by exact g126_3
            have n126g : (∀ u : Nat, u < (s.2.2.1 109 20).toInt.toNat → (((sL sc126 163 y126_6.toNatClampNeg (Int64.ofInt 0))).1 164 u).toInt = cn (ARE (gvZ s) 0) (u : Int) 160) := by exact g126_4
            have n126h : (((sL sc126 163 y126_6.toNatClampNeg (Int64.ofInt 0))).2.2.1 109 0).toInt = 0 := by exact g126_5
            exact gg_w (by first | exact Nat.le_add_right _ _ | exact gw2 | exact gw3 | exact gwe rfl | exact gwf rfl | exact gwg rfl | exact gwh rfl | omega) (gg_f (gf_cons rfl (gf_cons rfl (gf_cons rfl (gf_cons rfl (gf_cons rfl (gf_cons rfl gf_nil)))))) (ih126 (sL sc126 163 y126_6.toNatClampNeg (Int64.ofInt 0)) z144 z155 hI154 (fr_sL rfl hFc126) (in_w 1 40 j126_2 rfl) (in_w 0 40 j126_3 rfl) (in_w 0 32 i155 rfl) n126 n126a n126b n126c n126d n126e n126f n126g n126h (m_up mm126 (t_add e155 i132 (in_c 1 rfl) rfl) (in_w 1 1 (in_c 1 rfl) rfl))))
      refine g_iload_n 116 (gd rfl) rfl rfl ?_
      refine g_iload_n 117 (gd rfl) rfl rfl ?_
      refine g_cmp_ge 120 324 (gd rfl) rfl rfl (fun c117 => ?_) (fun c117 => ?_)
      · skip
        refine g_aload_n 325 (gd rfl) rfl rfl ?_
        refine g_getA (q2 := 162) 328 (gd rfl) rfl rfl rfl rfl ?_
        refine g_iload_n 329 (gd rfl) rfl rfl ?_
        refine g_laload 330 (gd rfl) rfl (n := 32) rfl (in_ix j115_1 rfl) (fun z329 e329 => ?_)
        have n330 : RKR s sc115 x1 x2 z329 := by exact Or.inr ⟨g115_3, ⟨⟨by exact (have a0 := in_u j115_2; have a1 := in_u j115_1; have a2 := in_u ro_109_20; have a3 := in_u ro_109_19; have a4 := in_u j115_3; have oc := oc_369_109; by omega), by rw [← e_109_20]; exact (have a0 := in_u j115_2; have a1 := in_u j115_1; have a2 := in_u ro_109_20; have a3 := in_u ro_109_19; have a4 := in_u j115_3; have oc := oc_369_109; by omega)⟩, ⟨by exact (have a0 := in_u j115_2; have a1 := in_u j115_1; have a2 := in_u ro_109_20; have a3 := in_u ro_109_19; have a4 := in_u j115_3; have oc := oc_369_109; by omega), by exact (have a0 := in_u j115_2; have a1 := in_u j115_1; have a2 := in_u ro_109_20; have a3 := in_u ro_109_19; have a4 := in_u j115_3; have oc := oc_369_109; by omega)⟩⟩, by show _ = RK (ARE (gvZ s) 0) (ARE (gvZ s) 1) (gvZ s).2.2.2.2.2.2.1.toNat _ _; rw [gvz_n hI, e329, g115_1 (x1).toNatClampNeg (by show (x1).toInt.toNat < _; rw [← e_109_20]; exact (have a0 := in_u j115_2; have a1 := in_u j115_1; have a2 := in_u ro_109_20; have a3 := in_u ro_109_19; have a4 := in_u j115_3; have oc := oc_369_109; by omega)), show (y115_3).toInt.toNat = (x2).toInt.toNat from (by exact (have a0 := in_u j115_2; have a1 := in_u j115_1; have a2 := in_u ro_109_20; have a3 := in_u ro_109_19; have a4 := in_u j115_3; have oc := oc_369_109; by omega))]⟩
        exact g_lreturn (gd rfl) rfl (hP _ _ ⟨sc115, hIc115, hFc115, z329, rfl, rfl, n330⟩)
      · skip
        have i117 := r_lt1 0 39 c117 j115_3 j115_2 rfl
        have i117a := r_lt2 1 40 c117 j115_3 j115_2 rfl
        refine g_lconst 0 121 (gd rfl) rfl rfl ?_
        refine g_lstore 123 (gd rfl) rfl (Nat.le_of_ble_eq_true rfl) ?_
        refine g_iconst 0 124 (gd rfl) rfl rfl ?_
        refine g_istore 126 (gd rfl) rfl (Nat.le_of_ble_eq_true rfl) ?_
        have n126 : (x1).toInt < (u_109_20).toInt := by first | exact n115_0 | (exact (have a0 := in_u i117a; have a1 := in_u j115_1; have a2 := in_u ro_109_20; have a3 := in_u ro_109_19; have a4 := in_u i117; have a5 := in_u ((in_c 0 rfl)); have oc := oc_369_109; by omega))
        have n126a : ((Int32.ofInt 0)).toInt ≤ (u_109_20).toInt := by exact (have a0 := in_u i117a; have a1 := in_u j115_1; have a2 := in_u ro_109_20; have a3 := in_u ro_109_19; have a4 := in_u i117; have a5 := in_u ((in_c 0 rfl)); have oc := oc_369_109; by omega)
        have n126b : (y115_3).toInt + 1 ≤ (x2).toInt := by exact (have a0 := in_u i117a; have a1 := in_u j115_1; have a2 := in_u ro_109_20; have a3 := in_u ro_109_19; have a4 := in_u i117; have a5 := in_u ((in_c 0 rfl)); have oc := oc_369_109; by omega)
        have n126c : ∀ i : Nat, (u_109_19).toInt ≤ (i : Int) → (i : Int) < (u_109_19).toInt + 160 → (s.1 112 i).toInt ≠ 0 → 1 ≤ (sc115.1 164 (s.1 113 i).toNatClampNeg).toInt := by first | exact g115_0 | exact g126_0
        have n126d : (((Int64.ofInt 0)).toInt = sm (RK (ARE (gvZ s) 0) (ARE (gvZ s) 1) (s.2.2.1 109 20).toInt.toNat (y115_3).toInt.toNat) ((Int32.ofInt 0)).toNatClampNeg) := by exact (show (Int64.ofInt 0).toInt = sm (RK (ARE (gvZ s) 0) (ARE (gvZ s) 1) (s.2.2.1 109 20).toInt.toNat (y115_3).toInt.toNat) 0 from rfl)
        have n126e : (∀ v : Nat, (v : Int) < ((Int32.ofInt 0)).toInt → ((sc115).2.1 163 v).toInt = 0) := by intro v hv; exfalso; have h0 : (Int32.ofInt 0).toInt = 0 := rfl; omega
        have n126f : (∀ v : Nat, v < (s.2.2.1 109 20).toInt.toNat → ((sc115).2.1 162 v).toInt = RK (ARE (gvZ s) 0) (ARE (gvZ s) 1) (s.2.2.1 109 20).toInt.toNat (y115_3).toInt.toNat v) := by exact g115_1
        have n126g : (∀ u : Nat, u < (s.2.2.1 109 20).toInt.toNat → ((sc115).1 164 u).toInt = cn (ARE (gvZ s) 0) (u : Int) 160) := by exact g115_2
        have n126h : ((sc115).2.2.1 109 0).toInt = 0 := by exact g115_3
        exact gg_w (by first | exact Nat.le_add_right _ _ | exact gw2 | exact gw3 | exact gwe rfl | exact gwf rfl | exact gwg rfl | exact gwh rfl | omega) (gg_f (gf_cons rfl (gf_cons rfl (gf_cons rfl (gf_cons rfl (gf_cons rfl (gf_cons rfl gf_nil)))))) (ct126 33 sc115 (Int64.ofInt 0) (Int32.ofInt 0) hIc115 hFc115 (in_w 1 40 i117a rfl) (in_w 0 40 i117 rfl) (in_w 0 32 (in_c 0 rfl) rfl) n126 n126a n126b n126c n126d n126e n126f n126g n126h (m_in 33 (in_w 0 32 (in_c 0 rfl) rfl) rfl)))
  have ct71 : ∀ (k71 : Nat) (sc71 : GS) (y71_3 : Int32), Inv sc71 → Fr fm_369 s sc71 → (In x1 0 31) → (In x2 0 40) → (In y71_3 0 400) → ((u_109_19).toInt ≤ (y71_3).toInt) → ((y71_3).toInt ≤ (u_109_19).toInt + 160) → ((x1).toInt < (u_109_20).toInt) → ((u_109_19).toInt ≤ (y71_3).toInt) → ((y71_3).toInt ≤ (u_109_19).toInt + 160) → (∀ j : Nat, (j : Int) < (u_109_20).toInt → (sc71.1 164 j).toInt ≤ (y71_3).toInt - (u_109_19).toInt) → (∀ i : Nat, (u_109_19).toInt ≤ (i : Int) → (i : Int) < (y71_3).toInt → (s.1 112 i).toInt ≠ 0 → 1 ≤ (sc71.1 164 (s.1 113 i).toNatClampNeg).toInt) → ((∀ u : Nat, u < (s.2.2.1 109 20).toInt.toNat → ((sc71).1 164 u).toInt = cn (ARE (gvZ s) 0) (u : Int) ((y71_3).toInt - (u_109_19).toInt).toNat)) → ((∀ v : Nat, v < (s.2.2.1 109 20).toInt.toNat → ((sc71).2.1 162 v).toInt = RK (ARE (gvZ s) 0) (ARE (gvZ s) 1) (s.2.2.1 109 20).toInt.toNat 0 v)) → (((sc71).2.2.1 109 0).toInt = 0) → 400 - (y71_3).toInt < (k71 : Int) → GG Z (d - 1) 369 post (gx xp) (26022785 + k71 * 900) 71 (fun j => xlook j [(0, .ref (A 109)), (1, .int x1), (2, .int x2), (3, .int y71_3)]) [] (WW Z A sc71 ++ ex) 0 0 := by
    intro k71
    induction k71 with
    | zero => intro sc71 y71_3 hIc71 hFc71 j71_1 j71_2 j71_3 n71_0 n71_1 n71_2 n71_3 n71_4 g71_0 g71_1 g71_2 g71_3 g71_4 mm71; exact m_no mm71 j71_3 rfl
    | succ k71 ih71 =>
      intro sc71 y71_3 hIc71 hFc71 j71_1 j71_2 j71_3 n71_0 n71_1 n71_2 n71_3 n71_4 g71_0 g71_1 g71_2 g71_3 g71_4 mm71
      refine gg_w (M := 26022785 + k71 * 900 + 900) gws ?_
      refine g_iload_n 72 (gd rfl) rfl rfl ?_
      refine g_aload_n 73 (gd rfl) rfl rfl ?_
      refine g_getI 76 (gd rfl) rfl rfl rfl (fun z73 e73 => ?_)
      have q73 : u_109_19 = z73 := (fr_F e_109_19 hFc71 rfl).trans e73.symm
      subst q73
      refine g_sipush 160 79 (gd rfl) rfl rfl ?_
      refine g_iadd 80 (gd rfl) rfl (fun z79 e79 => ?_)
      have i79 := in_add 160 320 e79 ro_109_19 (in_c 160 rfl) rfl rfl
      refine g_cmp_ge 83 113 (gd rfl) rfl rfl (fun c80 => ?_) (fun c80 => ?_)
      · skip
        have i80 := r_le2 160 400 c80 i79 j71_3 rfl
        refine g_iconst 0 114 (gd rfl) rfl rfl ?_
        refine g_istore_n 115 (gd rfl) rfl (Nat.le_of_ble_eq_true rfl) ?_
        have n115 : (x1).toInt < (u_109_20).toInt := by first | exact n71_2 | (exact (have a0 := in_u j71_2; have a1 := in_u j71_1; have a2 := in_u ro_109_20; have a3 := in_u ro_109_19; have a4 := in_u i80; have a5 := in_u ((in_c 0 rfl)); have a6 := in_u i79; have a7 := t_add e79 ro_109_19 (in_c 160 rfl) rfl; have a8 := in_u ((in_c 160 rfl)); have oc := oc_369_109; by omega))
        have n115a : ((Int32.ofInt 0)).toInt ≤ (x2).toInt := by exact (have a0 := in_u j71_2; have a1 := in_u j71_1; have a2 := in_u ro_109_20; have a3 := in_u ro_109_19; have a4 := in_u i80; have a5 := in_u ((in_c 0 rfl)); have a6 := in_u i79; have a7 := t_add e79 ro_109_19 (in_c 160 rfl) rfl; have a8 := in_u ((in_c 160 rfl)); have oc := oc_369_109; by omega)
        have n115b : ∀ i : Nat, (u_109_19).toInt ≤ (i : Int) → (i : Int) < (u_109_19).toInt + 160 → (s.1 112 i).toInt ≠ 0 → 1 ≤ (sc71.1 164 (s.1 113 i).toNatClampNeg).toInt := by first | (intro i h1 h2; exact g71_1 i h1 (by exact (have a0 := in_u j71_2; have a1 := in_u j71_1; have a2 := in_u ro_109_20; have a3 := in_u ro_109_19; have a4 := in_u i80; have a5 := in_u ((in_c 0 rfl)); have a6 := in_u i79; have a7 := t_add e79 ro_109_19 (in_c 160 rfl) rfl; have a8 := in_u ((in_c 160 rfl)); have oc := oc_369_109; by omega))) | exact g259_0
        have n115c : (∀ v : Nat, v < (s.2.2.1 109 20).toInt.toNat → ((sc71).2.1 162 v).toInt = RK (ARE (gvZ s) 0) (ARE (gvZ s) 1) (s.2.2.1 109 20).toInt.toNat ((Int32.ofInt 0)).toInt.toNat v) := by exact g71_3
        have n115d : (∀ u : Nat, u < (s.2.2.1 109 20).toInt.toNat → ((sc71).1 164 u).toInt = cn (ARE (gvZ s) 0) (u : Int) 160) := by have h9 := g71_2; rw [show ((y71_3).toInt - (u_109_19).toInt).toNat = 160 from (by exact (have a0 := in_u j71_2; have a1 := in_u j71_1; have a2 := in_u ro_109_20; have a3 := in_u ro_109_19; have a4 := in_u i80; have a5 := in_u ((in_c 0 rfl)); have a6 := in_u i79; have a7 := t_add e79 ro_109_19 (in_c 160 rfl) rfl; have a8 := in_u ((in_c 160 rfl)); have oc := oc_369_109; by omega))] at h9; exact h9
        have n115e : ((sc71).2.2.1 109 0).toInt = 0 := by exact g71_4
        exact gg_w (by first | exact Nat.le_add_right _ _ | exact gw2 | exact gw3 | exact gwe rfl | exact gwf rfl | exact gwg rfl | exact gwh rfl | omega) (gg_f (gf_cons rfl (gf_cons rfl (gf_cons rfl (gf_cons rfl gf_nil)))) (ct115 61 sc71 (Int32.ofInt 0) hIc71 hFc71 (in_w 0 31 j71_1 rfl) (in_w 0 40 j71_2 rfl) (in_w 0 60 (in_c 0 rfl) rfl) n115 n115a n115b n115c n115d n115e (m_in 61 (in_w 0 60 (in_c 0 rfl) rfl) rfl)))
      · skip
        have i80 := r_lt1 0 319 c80 j71_3 i79 rfl
        refine g_aload_n 84 (gd rfl) rfl rfl ?_
        refine g_getA (q2 := 112) 87 (gd rfl) rfl rfl rfl rfl ?_
        refine g_iload_n 88 (gd rfl) rfl rfl ?_
        refine g_baload 89 (gd rfl) rfl (n := 480) rfl (in_ix i80 rfl) (fun z88 e88 => ?_)
        have i88 := inv_I hIc71 (n := 480) (t := 3) 0 1 rfl (in_ix i80 rfl) rfl e88
        refine g_if_eq 92 107 (gd rfl) rfl rfl (fun c89 => ?_) (fun c89 => ?_)
        · skip
          have i89 := z_eq 0 0 c89 i88 rfl
          refine g_iinc 110 (gd rfl) rfl rfl (Nat.le_of_ble_eq_true rfl) (fun z107 e107 => ?_)
          have i107 := in_add 1 320 e107 i80 (in_c 1 rfl) rfl rfl
          refine g_goto 71 (gd rfl) rfl ?_
          have n71 : (u_109_19).toInt ≤ (z107).toInt := by exact (have a0 := in_u j71_2; have a1 := in_u j71_1; have a2 := in_u ro_109_20; have a3 := in_u ro_109_19; have a4 := in_u i80; have a5 := in_u i107; have a6 := t_add e107 i80 (in_c 1 rfl) rfl; have a7 := in_u ((in_c 1 rfl)); have a8 := in_u i79; have a9 := t_add e79 ro_109_19 (in_c 160 rfl) rfl; have a10 := in_u ((in_c 160 rfl)); have oc := oc_369_109; by omega)
          have n71a : (z107).toInt ≤ (u_109_19).toInt + 160 := by exact (have a0 := in_u j71_2; have a1 := in_u j71_1; have a2 := in_u ro_109_20; have a3 := in_u ro_109_19; have a4 := in_u i80; have a5 := in_u i107; have a6 := t_add e107 i80 (in_c 1 rfl) rfl; have a7 := in_u ((in_c 1 rfl)); have a8 := in_u i79; have a9 := t_add e79 ro_109_19 (in_c 160 rfl) rfl; have a10 := in_u ((in_c 160 rfl)); have oc := oc_369_109; by omega)
          have n71b : (x1).toInt < (u_109_20).toInt := by first | exact n71_2 | (exact (have a0 := in_u j71_2; have a1 := in_u j71_1; have a2 := in_u ro_109_20; have a3 := in_u ro_109_19; have a4 := in_u i80; have a5 := in_u i107; have a6 := t_add e107 i80 (in_c 1 rfl) rfl; have a7 := in_u ((in_c 1 rfl)); have a8 := in_u i79; have a9 := t_add e79 ro_109_19 (in_c 160 rfl) rfl; have a10 := in_u ((in_c 160 rfl)); have oc := oc_369_109; by omega))
          have n71c : (u_109_19).toInt ≤ (z107).toInt := by exact (have a0 := in_u j71_2; have a1 := in_u j71_1; have a2 := in_u ro_109_20; have a3 := in_u ro_109_19; have a4 := in_u i80; have a5 := in_u i107; have a6 := t_add e107 i80 (in_c 1 rfl) rfl; have a7 := in_u ((in_c 1 rfl)); have a8 := in_u i79; have a9 := t_add e79 ro_109_19 (in_c 160 rfl) rfl; have a10 := in_u ((in_c 160 rfl)); have oc := oc_369_109; by omega)
          have n71d : (z107).toInt ≤ (u_109_19).toInt + 160 := by exact (have a0 := in_u j71_2; have a1 := in_u j71_1; have a2 := in_u ro_109_20; have a3 := in_u ro_109_19; have a4 := in_u i80; have a5 := in_u i107; have a6 := t_add e107 i80 (in_c 1 rfl) rfl; have a7 := in_u ((in_c 1 rfl)); have a8 := in_u i79; have a9 := t_add e79 ro_109_19 (in_c 160 rfl) rfl; have a10 := in_u ((in_c 160 rfl)); have oc := oc_369_109; by omega)
          have n71e : ∀ j : Nat, (j : Int) < (u_109_20).toInt → (sc71.1 164 j).toInt ≤ (z107).toInt - (u_109_19).toInt := by first | (intro j hj; have h := g36_0 j (by exact (have a0 := in_u j71_2; have a1 := in_u j71_1; have a2 := in_u ro_109_20; have a3 := in_u ro_109_19; have a4 := in_u i80; have a5 := in_u i107; have a6 := t_add e107 i80 (in_c 1 rfl) rfl; have a7 := in_u ((in_c 1 rfl)); have a8 := in_u i79; have a9 := t_add e79 ro_109_19 (in_c 160 rfl) rfl; have a10 := in_u ((in_c 160 rfl)); have oc := oc_369_109; by omega)); omega) | (intro j hj; have h := g71_0 j hj; exact (have a0 := in_u j71_2; have a1 := in_u j71_1; have a2 := in_u ro_109_20; have a3 := in_u ro_109_19; have a4 := in_u i80; have a5 := in_u i107; have a6 := t_add e107 i80 (in_c 1 rfl) rfl; have a7 := in_u ((in_c 1 rfl)); have a8 := in_u i79; have a9 := t_add e79 ro_109_19 (in_c 160 rfl) rfl; have a10 := in_u ((in_c 160 rfl)); have oc := oc_369_109; by omega)) | (intro j hj; rw [sI_q]; unfold upd; have h := g71_0 j hj; have e5 : z101.toNatClampNeg = z101.toInt.toNat := rfl; by_cases c : j = z101.toNatClampNeg; (rw [if_pos c]; rw [c, ← e103] at h; exact (have a0 := in_u j71_2; have a1 := in_u j71_1; have a2 := in_u ro_109_20; have a3 := in_u ro_109_19; have a4 := in_u i80; have a5 := in_u i107; have a6 := t_add e107 i80 (in_c 1 rfl) rfl; have a7 := in_u ((in_c 1 rfl)); have a8 := in_u i79; have a9 := t_add e79 ro_109_19 (in_c 160 rfl) rfl; have a10 := in_u ((in_c 160 rfl)); have oc := oc_369_109; by omega)); (rw [if_neg c]; exact (have a0 := in_u j71_2; have a1 := in_u j71_1; have a2 := in_u ro_109_20; have a3 := in_u ro_109_19; have a4 := in_u i80; have a5 := in_u i107; have a6 := t_add e107 i80 (in_c 1 rfl) rfl; have a7 := in_u ((in_c 1 rfl)); have a8 := in_u i79; have a9 := t_add e79 ro_109_19 (in_c 160 rfl) rfl; have a10 := in_u ((in_c 160 rfl)); have oc := oc_369_109; by omega)))
          have n71f : ∀ i : Nat, (u_109_19).toInt ≤ (i : Int) → (i : Int) < (z107).toInt → (s.1 112 i).toInt ≠ 0 → 1 ≤ (sc71.1 164 (s.1 113 i).toNatClampNeg).toInt := by first | (intro i h1 h2; exfalso; omega) | (intro i h1 h2 ht; by_cases c : (i : Int) < y71_3.toInt; exact g71_1 i h1 c ht; (exfalso; apply ht; have h3 := (hFc71.1 112 rfl); have h4 := (hFc71.1 113 rfl); have e8 : z88 = s.1 112 y71_3.toNatClampNeg := (by rw [e88, h3]); have ei : i = y71_3.toNatClampNeg := (by show i = y71_3.toInt.toNat; exact (have a0 := in_u j71_2; have a1 := in_u j71_1; have a2 := in_u ro_109_20; have a3 := in_u ro_109_19; have a4 := in_u i80; have a5 := in_u i107; have a6 := t_add e107 i80 (in_c 1 rfl) rfl; have a7 := in_u ((in_c 1 rfl)); have a8 := in_u i79; have a9 := t_add e79 ro_109_19 (in_c 160 rfl) rfl; have a10 := in_u ((in_c 160 rfl)); have oc := oc_369_109; by omega)); rw [ei, ← e8]; have hz := i89; unfold In at hz; omega)) | (intro i h1 h2 ht; rw [sI_q]; unfold upd; by_cases c2 : (s.1 113 i).toNatClampNeg = z101.toNatClampNeg; (rw [if_pos c2]; have ha := i104; unfold In at ha; exact (have a0 := in_u j71_2; have a1 := in_u j71_1; have a2 := in_u ro_109_20; have a3 := in_u ro_109_19; have a4 := in_u i80; have a5 := in_u i107; have a6 := t_add e107 i80 (in_c 1 rfl) rfl; have a7 := in_u ((in_c 1 rfl)); have a8 := in_u i79; have a9 := t_add e79 ro_109_19 (in_c 160 rfl) rfl; have a10 := in_u ((in_c 160 rfl)); have oc := oc_369_109; by omega)); (rw [if_neg c2]; by_cases c : (i : Int) < y71_3.toInt; exact g71_1 i h1 c ht; (exfalso; apply c2; have ei : i = y71_3.toNatClampNeg := (by show i = y71_3.toInt.toNat; exact (have a0 := in_u j71_2; have a1 := in_u j71_1; have a2 := in_u ro_109_20; have a3 := in_u ro_109_19; have a4 := in_u i80; have a5 := in_u i107; have a6 := t_add e107 i80 (in_c 1 rfl) rfl; have a7 := in_u ((in_c 1 rfl)); have a8 := in_u i79; have a9 := t_add e79 ro_109_19 (in_c 160 rfl) rfl; have a10 := in_u ((in_c 160 rfl)); have oc := oc_369_109; by omega)); rw [ei, e101, hFc71.1 113 rfl])))
          have n71g : (∀ u : Nat, u < (s.2.2.1 109 20).toInt.toNat → ((sc71).1 164 u).toInt = cn (ARE (gvZ s) 0) (u : Int) ((z107).toInt - (u_109_19).toInt).toNat) := by rw [show ((z107).toInt - (u_109_19).toInt).toNat = ((y71_3).toInt - (u_109_19).toInt).toNat + 1 from (by exact (have a0 := in_u j71_2; have a1 := in_u j71_1; have a2 := in_u ro_109_20; have a3 := in_u ro_109_19; have a4 := in_u i80; have a5 := in_u i107; have a6 := t_add e107 i80 (in_c 1 rfl) rfl; have a7 := in_u ((in_c 1 rfl)); have a8 := in_u i79; have a9 := t_add e79 ro_109_19 (in_c 160 rfl) rfl; have a10 := in_u ((in_c 160 rfl)); have oc := oc_369_109; by omega))]; have hp : bs s + ((y71_3).toInt - (u_109_19).toInt).toNat = y71_3.toNatClampNeg := (by show (s.2.2.1 109 19).toInt.toNat + _ = y71_3.toInt.toNat; rw [← e_109_19]; exact (have a0 := in_u j71_2; have a1 := in_u j71_1; have a2 := in_u ro_109_20; have a3 := in_u ro_109_19; have a4 := in_u i80; have a5 := in_u i107; have a6 := t_add e107 i80 (in_c 1 rfl) rfl; have a7 := in_u ((in_c 1 rfl)); have a8 := in_u i79; have a9 := t_add e79 ro_109_19 (in_c 160 rfl) rfl; have a10 := in_u ((in_c 160 rfl)); have oc := oc_369_109; by omega)); have ha : ((y71_3).toInt - (u_109_19).toInt).toNat < 160 := (by exact (have a0 := in_u j71_2; have a1 := in_u j71_1; have a2 := in_u ro_109_20; have a3 := in_u ro_109_19; have a4 := in_u i80; have a5 := in_u i107; have a6 := t_add e107 i80 (in_c 1 rfl) rfl; have a7 := in_u ((in_c 1 rfl)); have a8 := in_u i79; have a9 := t_add e79 ro_109_19 (in_c 160 rfl) rfl; have a10 := in_u ((in_c 160 rfl)); have oc := oc_369_109; by omega)); have rt := (show z88 = s.1 112 (bs s + ((y71_3).toInt - (u_109_19).toInt).toNat) from (by rw [hp, ← hFc71.1 112 rfl]; exact e88)); exact oin_n g71_2 (arz_n hI rt (by exact (have a0 := in_u j71_2; have a1 := in_u j71_1; have a2 := in_u ro_109_20; have a3 := in_u ro_109_19; have a4 := in_u i80; have a5 := in_u i107; have a6 := t_add e107 i80 (in_c 1 rfl) rfl; have a7 := in_u ((in_c 1 rfl)); have a8 := in_u i79; have a9 := t_add e79 ro_109_19 (in_c 160 rfl) rfl; have a10 := in_u ((in_c 160 rfl)); have oc := oc_369_109; by omega)))
          have n71h : (∀ v : Nat, v < (s.2.2.1 109 20).toInt.toNat → ((sc71).2.1 162 v).toInt = RK (ARE (gvZ s) 0) (ARE (gvZ s) 1) (s.2.2.1 109 20).toInt.toNat 0 v) := by exact g71_3
          have n71i : ((sc71).2.2.1 109 0).toInt = 0 := by exact g71_4
          exact gg_w (by first | exact Nat.le_add_right _ _ | exact gw2 | exact gw3 | exact gwe rfl | exact gwf rfl | exact gwg rfl | exact gwh rfl | omega) (gg_f (gf_cons rfl (gf_cons rfl (gf_cons rfl (gf_cons rfl gf_nil)))) (ih71 sc71 z107 hIc71 hFc71 (in_w 0 31 j71_1 rfl) (in_w 0 40 j71_2 rfl) (in_w 0 400 i107 rfl) n71 n71a n71b n71c n71d n71e n71f n71g n71h n71i (m_up mm71 (t_add e107 i80 (in_c 1 rfl) rfl) (in_w 1 1 (in_c 1 rfl) rfl))))
        · skip
          have i89 := z_ne 1 1 c89 i88 rfl
          refine g_aload_n 93 (gd rfl) rfl rfl ?_
          refine g_getA (q2 := 164) 96 (gd rfl) rfl rfl rfl rfl ?_
          refine g_aload_n 97 (gd rfl) rfl rfl ?_
          refine g_getA (q2 := 113) 100 (gd rfl) rfl rfl rfl rfl ?_
          refine g_iload_n 101 (gd rfl) rfl rfl ?_
          refine g_iaload 102 (gd rfl) rfl (n := 480) rfl (in_ix i80 rfl) (fun z101 e101 => ?_)
          have i101 := inv_I hIc71 (n := 480) (t := 0) 0 31 rfl (in_ix i80 rfl) rfl e101
          refine g_dup2 103 (gd rfl) rfl rfl rfl ?_
          refine g_iaload 104 (gd rfl) rfl (n := 32) rfl (in_ix i101 rfl) (fun z103 e103 => ?_)
          have i103 := inv_I hIc71 (n := 32) (t := 0) 0 160 rfl (in_ix i101 rfl) rfl e103
          have i104 : In z103 0 159 := by have h3 := (hFc71.1 112 rfl); have h4 := (hFc71.1 113 rfl); have e8 : z88 = s.1 112 y71_3.toNatClampNeg := (by rw [e88, h3]); have hz : (s.1 112 y71_3.toNatClampNeg).toInt ≠ 0 := (by rw [← e8]; have hz := i89; unfold In at hz; omega); have hk := ke_n hI (i := y71_3.toNatClampNeg) (by rw [← e_109_19]; show _ ≤ ((y71_3.toInt.toNat : Nat) : Int); exact (have a0 := in_u j71_2; have a1 := in_u j71_1; have a2 := in_u ro_109_20; have a3 := in_u ro_109_19; have a4 := in_u i80; have a5 := in_u i79; have a6 := t_add e79 ro_109_19 (in_c 160 rfl) rfl; have a7 := in_u ((in_c 160 rfl)); have oc := oc_369_109; by omega)) (by rw [← e_109_19]; show ((y71_3.toInt.toNat : Nat) : Int) < _; exact (have a0 := in_u j71_2; have a1 := in_u j71_1; have a2 := in_u ro_109_20; have a3 := in_u ro_109_19; have a4 := in_u i80; have a5 := in_u i79; have a6 := t_add e79 ro_109_19 (in_c 160 rfl) rfl; have a7 := in_u ((in_c 160 rfl)); have oc := oc_369_109; by omega)) hz; rw [← e_109_20, ← h4, ← e101] at hk; have h1 := g71_0 z101.toNatClampNeg (by show ((z101.toInt.toNat : Nat) : Int) < _; have h := i101; unfold In at h; omega); rw [← e103] at h1; exact ⟨i103.1, by exact (have a0 := in_u j71_2; have a1 := in_u j71_1; have a2 := in_u ro_109_20; have a3 := in_u ro_109_19; have a4 := in_u i80; have a5 := in_u i79; have a6 := t_add e79 ro_109_19 (in_c 160 rfl) rfl; have a7 := in_u ((in_c 160 rfl)); have oc := oc_369_109; by omega)⟩
          refine g_iconst 1 105 (gd rfl) rfl rfl ?_
          refine g_iadd 106 (gd rfl) rfl (fun z105 e105 => ?_)
          have i105 := in_add 1 160 e105 i104 (in_c 1 rfl) rfl rfl
          refine g_iastore 107 (gd rfl) rfl (n := 32) rfl (in_ix i101 rfl) ?_
          have hI106 := inv_sI (q := 164) (j := z101.toNatClampNeg) hIc71 rfl (in_w 0 160 i105 rfl)
          refine g_iinc 110 (gd rfl) rfl rfl (Nat.le_of_ble_eq_true rfl) (fun z107 e107 => ?_)
          have i107 := in_add 1 320 e107 i80 (in_c 1 rfl) rfl rfl
          refine g_goto 71 (gd rfl) rfl ?_
          have n71 : (u_109_19).toInt ≤ (z107).toInt := by exact (have a0 := in_u j71_2; have a1 := in_u j71_1; have a2 := in_u ro_109_20; have a3 := in_u ro_109_19; have a4 := in_u i80; have a5 := in_u i107; have a6 := t_add e107 i80 (in_c 1 rfl) rfl; have a7 := in_u ((in_c 1 rfl)); have a8 := in_u i105; have a9 := t_add e105 i104 (in_c 1 rfl) rfl; have a10 := in_u i104; have a11 := in_u i79; have a12 := t_add e79 ro_109_19 (in_c 160 rfl) rfl; have a13 := in_u ((in_c 160 rfl)); have oc := oc_369_109; by omega)
          have n71a : (z107).toInt ≤ (u_109_19).toInt + 160 := by exact (have a0 := in_u j71_2; have a1 := in_u j71_1; have a2 := in_u ro_109_20; have a3 := in_u ro_109_19; have a4 := in_u i80; have a5 := in_u i107; have a6 := t_add e107 i80 (in_c 1 rfl) rfl; have a7 := in_u ((in_c 1 rfl)); have a8 := in_u i105; have a9 := t_add e105 i104 (in_c 1 rfl) rfl; have a10 := in_u i104; have a11 := in_u i79; have a12 := t_add e79 ro_109_19 (in_c 160 rfl) rfl; have a13 := in_u ((in_c 160 rfl)); have oc := oc_369_109; by omega)
          have n71b : (x1).toInt < (u_109_20).toInt := by first | exact n71_2 | (exact (have a0 := in_u j71_2; have a1 := in_u j71_1; have a2 := in_u ro_109_20; have a3 := in_u ro_109_19; have a4 := in_u i80; have a5 := in_u i107; have a6 := t_add e107 i80 (in_c 1 rfl) rfl; have a7 := in_u ((in_c 1 rfl)); have a8 := in_u i105; have a9 := t_add e105 i104 (in_c 1 rfl) rfl; have a10 := in_u i104; have a11 := in_u i79; have a12 := t_add e79 ro_109_19 (in_c 160 rfl) rfl; have a13 := in_u ((in_c 160 rfl)); have oc := oc_369_109; by omega))
          have n71c : (u_109_19).toInt ≤ (z107).toInt := by exact (have a0 := in_u j71_2; have a1 := in_u j71_1; have a2 := in_u ro_109_20; have a3 := in_u ro_109_19; have a4 := in_u i80; have a5 := in_u i107; have a6 := t_add e107 i80 (in_c 1 rfl) rfl; have a7 := in_u ((in_c 1 rfl)); have a8 := in_u i105; have a9 := t_add e105 i104 (in_c 1 rfl) rfl; have a10 := in_u i104; have a11 := in_u i79; have a12 := t_add e79 ro_109_19 (in_c 160 rfl) rfl; have a13 := in_u ((in_c 160 rfl)); have oc := oc_369_109; by omega)
          have n71d : (z107).toInt ≤ (u_109_19).toInt + 160 := by exact (have a0 := in_u j71_2; have a1 := in_u j71_1; have a2 := in_u ro_109_20; have a3 := in_u ro_109_19; have a4 := in_u i80; have a5 := in_u i107; have a6 := t_add e107 i80 (in_c 1 rfl) rfl; have a7 := in_u ((in_c 1 rfl)); have a8 := in_u i105; have a9 := t_add e105 i104 (in_c 1 rfl) rfl; have a10 := in_u i104; have a11 := in_u i79; have a12 := t_add e79 ro_109_19 (in_c 160 rfl) rfl; have a13 := in_u ((in_c 160 rfl)); have oc := oc_369_109; by omega)
          have n71e : ∀ j : Nat, (j : Int) < (u_109_20).toInt → ((sI sc71 164 z101.toNatClampNeg z105).1 164 j).toInt ≤ (z107).toInt - (u_109_19).toInt := by first | (intro j hj; have h := g36_0 j (by exact (have a0 := in_u j71_2; have a1 := in_u j71_1; have a2 := in_u ro_109_20; have a3 := in_u ro_109_19; have a4 := in_u i80; have a5 := in_u i107; have a6 := t_add e107 i80 (in_c 1 rfl) rfl; have a7 := in_u ((in_c 1 rfl)); have a8 := in_u i105; have a9 := t_add e105 i104 (in_c 1 rfl) rfl; have a10 := in_u i104; have a11 := in_u i79; have a12 := t_add e79 ro_109_19 (in_c 160 rfl) rfl; have a13 := in_u ((in_c 160 rfl)); have oc := oc_369_109; by omega)); omega) | (intro j hj; have h := g71_0 j hj; exact (have a0 := in_u j71_2; have a1 := in_u j71_1; have a2 := in_u ro_109_20; have a3 := in_u ro_109_19; have a4 := in_u i80; have a5 := in_u i107; have a6 := t_add e107 i80 (in_c 1 rfl) rfl; have a7 := in_u ((in_c 1 rfl)); have a8 := in_u i105; have a9 := t_add e105 i104 (in_c 1 rfl) rfl; have a10 := in_u i104; have a11 := in_u i79; have a12 := t_add e79 ro_109_19 (in_c 160 rfl) rfl; have a13 := in_u ((in_c 160 rfl)); have oc := oc_369_109; by omega)) | (intro j hj; rw [sI_q]; unfold upd; have h := g71_0 j hj; have e5 : z101.toNatClampNeg = z101.toInt.toNat := rfl; by_cases c : j = z101.toNatClampNeg; (rw [if_pos c]; rw [c, ← e103] at h; exact (have a0 := in_u j71_2; have a1 := in_u j71_1; have a2 := in_u ro_109_20; have a3 := in_u ro_109_19; have a4 := in_u i80; have a5 := in_u i107; have a6 := t_add e107 i80 (in_c 1 rfl) rfl; have a7 := in_u ((in_c 1 rfl)); have a8 := in_u i105; have a9 := t_add e105 i104 (in_c 1 rfl) rfl; have a10 := in_u i104; have a11 := in_u i79; have a12 := t_add e79 ro_109_19 (in_c 160 rfl) rfl; have a13 := in_u ((in_c 160 rfl)); have oc := oc_369_109; by omega)); (rw [if_neg c]; exact (have a0 := in_u j71_2; have a1 := in_u j71_1; have a2 := in_u ro_109_20; have a3 := in_u ro_109_19; have a4 := in_u i80; have a5 := in_u i107; have a6 := t_add e107 i80 (in_c 1 rfl) rfl; have a7 := in_u ((in_c 1 rfl)); have a8 := in_u i105; have a9 := t_add e105 i104 (in_c 1 rfl) rfl; have a10 := in_u i104; have a11 := in_u i79; have a12 := t_add e79 ro_109_19 (in_c 160 rfl) rfl; have a13 := in_u ((in_c 160 rfl)); have oc := oc_369_109; by omega)))
          have n71f : ∀ i : Nat, (u_109_19).toInt ≤ (i : Int) → (i : Int) < (z107).toInt → (s.1 112 i).toInt ≠ 0 → 1 ≤ ((sI sc71 164 z101.toNatClampNeg z105).1 164 (s.1 113 i).toNatClampNeg).toInt := by first | (intro i h1 h2; exfalso; omega) | (intro i h1 h2 ht; by_cases c : (i : Int) < y71_3.toInt; exact g71_1 i h1 c ht; (exfalso; apply ht; have h3 := (hFc71.1 112 rfl); have h4 := (hFc71.1 113 rfl); have e8 : z88 = s.1 112 y71_3.toNatClampNeg := (by rw [e88, h3]); have ei : i = y71_3.toNatClampNeg := (by show i = y71_3.toInt.toNat; exact (have a0 := in_u j71_2; have a1 := in_u j71_1; have a2 := in_u ro_109_20; have a3 := in_u ro_109_19; have a4 := in_u i80; have a5 := in_u i107; have a6 := t_add e107 i80 (in_c 1 rfl) rfl; have a7 := in_u ((in_c 1 rfl)); have a8 := in_u i105; have a9 := t_add e105 i104 (in_c 1 rfl) rfl; have a10 := in_u i104; have a11 := in_u i79; have a12 := t_add e79 ro_109_19 (in_c 160 rfl) rfl; have a13 := in_u ((in_c 160 rfl)); have oc := oc_369_109; by omega)); rw [ei, ← e8]; have hz := i89; unfold In at hz; omega)) | (intro i h1 h2 ht; rw [sI_q]; unfold upd; by_cases c2 : (s.1 113 i).toNatClampNeg = z101.toNatClampNeg; (rw [if_pos c2]; have ha := i104; unfold In at ha; exact (have a0 := in_u j71_2; have a1 := in_u j71_1; have a2 := in_u ro_109_20; have a3 := in_u ro_109_19; have a4 := in_u i80; have a5 := in_u i107; have a6 := t_add e107 i80 (in_c 1 rfl) rfl; have a7 := in_u ((in_c 1 rfl)); have a8 := in_u i105; have a9 := t_add e105 i104 (in_c 1 rfl) rfl; have a10 := in_u i104; have a11 := in_u i79; have a12 := t_add e79 ro_109_19 (in_c 160 rfl) rfl; have a13 := in_u ((in_c 160 rfl)); have oc := oc_369_109; by omega)); (rw [if_neg c2]; by_cases c : (i : Int) < y71_3.toInt; exact g71_1 i h1 c ht; (exfalso; apply c2; have ei : i = y71_3.toNatClampNeg := (by show i = y71_3.toInt.toNat; exact (have a0 := in_u j71_2; have a1 := in_u j71_1; have a2 := in_u ro_109_20; have a3 := in_u ro_109_19; have a4 := in_u i80; have a5 := in_u i107; have a6 := t_add e107 i80 (in_c 1 rfl) rfl; have a7 := in_u ((in_c 1 rfl)); have a8 := in_u i105; have a9 := t_add e105 i104 (in_c 1 rfl) rfl; have a10 := in_u i104; have a11 := in_u i79; have a12 := t_add e79 ro_109_19 (in_c 160 rfl) rfl; have a13 := in_u ((in_c 160 rfl)); have oc := oc_369_109; by omega)); rw [ei, e101, hFc71.1 113 rfl])))
          have n71g : (∀ u : Nat, u < (s.2.2.1 109 20).toInt.toNat → (((sI sc71 164 z101.toNatClampNeg z105)).1 164 u).toInt = cn (ARE (gvZ s) 0) (u : Int) ((z107).toInt - (u_109_19).toInt).toNat) := by rw [show ((z107).toInt - (u_109_19).toInt).toNat = ((y71_3).toInt - (u_109_19).toInt).toNat + 1 from (by exact (have a0 := in_u j71_2; have a1 := in_u j71_1; have a2 := in_u ro_109_20; have a3 := in_u ro_109_19; have a4 := in_u i80; have a5 := in_u i107; have a6 := t_add e107 i80 (in_c 1 rfl) rfl; have a7 := in_u ((in_c 1 rfl)); have a8 := in_u i105; have a9 := t_add e105 i104 (in_c 1 rfl) rfl; have a10 := in_u i104; have a11 := in_u i79; have a12 := t_add e79 ro_109_19 (in_c 160 rfl) rfl; have a13 := in_u ((in_c 160 rfl)); have oc := oc_369_109; by omega))]; have hp : bs s + ((y71_3).toInt - (u_109_19).toInt).toNat = y71_3.toNatClampNeg := (by show (s.2.2.1 109 19).toInt.toNat + _ = y71_3.toInt.toNat; rw [← e_109_19]; exact (have a0 := in_u j71_2; have a1 := in_u j71_1; have a2 := in_u ro_109_20; have a3 := in_u ro_109_19; have a4 := in_u i80; have a5 := in_u i107; have a6 := t_add e107 i80 (in_c 1 rfl) rfl; have a7 := in_u ((in_c 1 rfl)); have a8 := in_u i105; have a9 := t_add e105 i104 (in_c 1 rfl) rfl; have a10 := in_u i104; have a11 := in_u i79; have a12 := t_add e79 ro_109_19 (in_c 160 rfl) rfl; have a13 := in_u ((in_c 160 rfl)); have oc := oc_369_109; by omega)); have ha : ((y71_3).toInt - (u_109_19).toInt).toNat < 160 := (by exact (have a0 := in_u j71_2; have a1 := in_u j71_1; have a2 := in_u ro_109_20; have a3 := in_u ro_109_19; have a4 := in_u i80; have a5 := in_u i107; have a6 := t_add e107 i80 (in_c 1 rfl) rfl; have a7 := in_u ((in_c 1 rfl)); have a8 := in_u i105; have a9 := t_add e105 i104 (in_c 1 rfl) rfl; have a10 := in_u i104; have a11 := in_u i79; have a12 := t_add e79 ro_109_19 (in_c 160 rfl) rfl; have a13 := in_u ((in_c 160 rfl)); have oc := oc_369_109; by omega)); have rt := (show z88 = s.1 112 (bs s + ((y71_3).toInt - (u_109_19).toInt).toNat) from (by rw [hp, ← hFc71.1 112 rfl]; exact e88)); have rf := (show z101 = s.1 113 (bs s + ((y71_3).toInt - (u_109_19).toInt).toNat) from (by rw [hp, ← hFc71.1 113 rfl]; exact e101)); rw [sI_q]; exact oin_s g71_2 ((arz_y hI ha rt (by exact (have a0 := in_u j71_2; have a1 := in_u j71_1; have a2 := in_u ro_109_20; have a3 := in_u ro_109_19; have a4 := in_u i80; have a5 := in_u i107; have a6 := t_add e107 i80 (in_c 1 rfl) rfl; have a7 := in_u ((in_c 1 rfl)); have a8 := in_u i105; have a9 := t_add e105 i104 (in_c 1 rfl) rfl; have a10 := in_u i104; have a11 := in_u i79; have a12 := t_add e79 ro_109_19 (in_c 160 rfl) rfl; have a13 := in_u ((in_c 160 rfl)); have oc := oc_369_109; by omega))).1.trans (by rw [← rf]; exact clx i101.1)) i101 e103 (by exact (have a0 := in_u j71_2; have a1 := in_u j71_1; have a2 := in_u ro_109_20; have a3 := in_u ro_109_19; have a4 := in_u i80; have a5 := in_u i107; have a6 := t_add e107 i80 (in_c 1 rfl) rfl; have a7 := in_u ((in_c 1 rfl)); have a8 := in_u i105; have a9 := t_add e105 i104 (in_c 1 rfl) rfl; have a10 := in_u i104; have a11 := in_u i79; have a12 := t_add e79 ro_109_19 (in_c 160 rfl) rfl; have a13 := in_u ((in_c 160 rfl)); have oc := oc_369_109; by omega))
          have n71h : (∀ v : Nat, v < (s.2.2.1 109 20).toInt.toNat → (((sI sc71 164 z101.toNatClampNeg z105)).2.1 162 v).toInt = RK (ARE (gvZ s) 0) (ARE (gvZ s) 1) (s.2.2.1 109 20).toInt.toNat 0 v) := by exact g71_3
          have n71i : (((sI sc71 164 z101.toNatClampNeg z105)).2.2.1 109 0).toInt = 0 := by exact g71_4
          exact gg_w (by first | exact Nat.le_add_right _ _ | exact gw2 | exact gw3 | exact gwe rfl | exact gwf rfl | exact gwg rfl | exact gwh rfl | omega) (gg_f (gf_cons rfl (gf_cons rfl (gf_cons rfl (gf_cons rfl gf_nil)))) (ih71 (sI sc71 164 z101.toNatClampNeg z105) z107 hI106 (fr_sI rfl hFc71) (in_w 0 31 j71_1 rfl) (in_w 0 40 j71_2 rfl) (in_w 0 400 i107 rfl) n71 n71a n71b n71c n71d n71e n71f n71g n71h n71i (m_up mm71 (t_add e107 i80 (in_c 1 rfl) rfl) (in_w 1 1 (in_c 1 rfl) rfl))))
  have ct36 : ∀ (k36 : Nat) (sc36 : GS) (y36_3 : Int32), Inv sc36 → Fr fm_369 s sc36 → (In x1 0 31) → (In x2 0 40) → (In y36_3 0 32) → ((x1).toInt < (u_109_20).toInt) → (∀ j : Nat, (j : Int) < (y36_3).toInt → (sc36.1 164 j).toInt = 0) → ((∀ v : Nat, (v : Int) < (y36_3).toInt → (sc36).2.1 162 v = Int64.ofInt 1000000000000)) → (((sc36).2.2.1 109 0).toInt = 0) → 32 - (y36_3).toInt < (k36 : Int) → GG Z (d - 1) 369 post (gx xp) (26383686 + k36 * 900) 36 (fun j => xlook j [(0, .ref (A 109)), (1, .int x1), (2, .int x2), (3, .int y36_3)]) [] (WW Z A sc36 ++ ex) 0 0 := by
    intro k36
    induction k36 with
    | zero => intro sc36 y36_3 hIc36 hFc36 j36_1 j36_2 j36_3 n36_0 g36_0 g36_1 g36_2 mm36; exact m_no mm36 j36_3 rfl
    | succ k36 ih36 =>
      intro sc36 y36_3 hIc36 hFc36 j36_1 j36_2 j36_3 n36_0 g36_0 g36_1 g36_2 mm36
      refine gg_w (M := 26383686 + k36 * 900 + 900) gws ?_
      refine g_iload_n 37 (gd rfl) rfl rfl ?_
      refine g_aload_n 38 (gd rfl) rfl rfl ?_
      refine g_getI 41 (gd rfl) rfl rfl rfl (fun z38 e38 => ?_)
      have q38 : u_109_20 = z38 := (fr_F e_109_20 hFc36 rfl).trans e38.symm
      subst q38
      refine g_cmp_ge 44 66 (gd rfl) rfl rfl (fun c41 => ?_) (fun c41 => ?_)
      · skip
        refine g_aload_n 67 (gd rfl) rfl rfl ?_
        refine g_getI 70 (gd rfl) rfl rfl rfl (fun z67 e67 => ?_)
        have q67 : u_109_19 = z67 := (fr_F e_109_19 hFc36 rfl).trans e67.symm
        subst q67
        refine g_istore_n 71 (gd rfl) rfl (Nat.le_of_ble_eq_true rfl) ?_
        have n71 : (u_109_19).toInt ≤ (u_109_19).toInt := by exact (have a0 := in_u j36_2; have a1 := in_u j36_1; have a2 := in_u ro_109_20; have a3 := in_u ro_109_19; have a4 := in_u j36_3; have oc := oc_369_109; by omega)
        have n71a : (u_109_19).toInt ≤ (u_109_19).toInt + 160 := by exact (have a0 := in_u j36_2; have a1 := in_u j36_1; have a2 := in_u ro_109_20; have a3 := in_u ro_109_19; have a4 := in_u j36_3; have oc := oc_369_109; by omega)
        have n71b : (x1).toInt < (u_109_20).toInt := by first | exact n36_0 | (exact (have a0 := in_u j36_2; have a1 := in_u j36_1; have a2 := in_u ro_109_20; have a3 := in_u ro_109_19; have a4 := in_u j36_3; have oc := oc_369_109; by omega))
        have n71c : (u_109_19).toInt ≤ (u_109_19).toInt := by exact (have a0 := in_u j36_2; have a1 := in_u j36_1; have a2 := in_u ro_109_20; have a3 := in_u ro_109_19; have a4 := in_u j36_3; have oc := oc_369_109; by omega)
        have n71d : (u_109_19).toInt ≤ (u_109_19).toInt + 160 := by exact (have a0 := in_u j36_2; have a1 := in_u j36_1; have a2 := in_u ro_109_20; have a3 := in_u ro_109_19; have a4 := in_u j36_3; have oc := oc_369_109; by omega)
        have n71e : ∀ j : Nat, (j : Int) < (u_109_20).toInt → (sc36.1 164 j).toInt ≤ (u_109_19).toInt - (u_109_19).toInt := by first | (intro j hj; have h := g36_0 j (by exact (have a0 := in_u j36_2; have a1 := in_u j36_1; have a2 := in_u ro_109_20; have a3 := in_u ro_109_19; have a4 := in_u j36_3; have oc := oc_369_109; by omega)); omega) | (intro j hj; have h := g71_0 j hj; exact (have a0 := in_u j36_2; have a1 := in_u j36_1; have a2 := in_u ro_109_20; have a3 := in_u ro_109_19; have a4 := in_u j36_3; have oc := oc_369_109; by omega)) | (intro j hj; rw [sI_q]; unfold upd; have h := g71_0 j hj; have e5 : z101.toNatClampNeg = z101.toInt.toNat := rfl; by_cases c : j = z101.toNatClampNeg; (rw [if_pos c]; rw [c, ← e103] at h; exact (have a0 := in_u j36_2; have a1 := in_u j36_1; have a2 := in_u ro_109_20; have a3 := in_u ro_109_19; have a4 := in_u j36_3; have oc := oc_369_109; by omega)); (rw [if_neg c]; exact (have a0 := in_u j36_2; have a1 := in_u j36_1; have a2 := in_u ro_109_20; have a3 := in_u ro_109_19; have a4 := in_u j36_3; have oc := oc_369_109; by omega)))
        have n71f : ∀ i : Nat, (u_109_19).toInt ≤ (i : Int) → (i : Int) < (u_109_19).toInt → (s.1 112 i).toInt ≠ 0 → 1 ≤ (sc36.1 164 (s.1 113 i).toNatClampNeg).toInt := by first | (intro i h1 h2; exfalso; omega) | (intro i h1 h2 ht; by_cases c : (i : Int) < y71_3.toInt; exact g71_1 i h1 c ht; (exfalso; apply ht; have h3 := (hFc71.1 112 rfl); have h4 := (hFc71.1 113 rfl); have e8 : z88 = s.1 112 y71_3.toNatClampNeg := (by rw [e88, h3]); have ei : i = y71_3.toNatClampNeg := (by show i = y71_3.toInt.toNat; exact (have a0 := in_u j36_2; have a1 := in_u j36_1; have a2 := in_u ro_109_20; have a3 := in_u ro_109_19; have a4 := in_u j36_3; have oc := oc_369_109; by omega)); rw [ei, ← e8]; have hz := i89; unfold In at hz; omega)) | (intro i h1 h2 ht; rw [sI_q]; unfold upd; by_cases c2 : (s.1 113 i).toNatClampNeg = z101.toNatClampNeg; (rw [if_pos c2]; have ha := i104; unfold In at ha; exact (have a0 := in_u j36_2; have a1 := in_u j36_1; have a2 := in_u ro_109_20; have a3 := in_u ro_109_19; have a4 := in_u j36_3; have oc := oc_369_109; by omega)); (rw [if_neg c2]; by_cases c : (i : Int) < y71_3.toInt; exact g71_1 i h1 c ht; (exfalso; apply c2; have ei : i = y71_3.toNatClampNeg := (by show i = y71_3.toInt.toNat; exact (have a0 := in_u j36_2; have a1 := in_u j36_1; have a2 := in_u ro_109_20; have a3 := in_u ro_109_19; have a4 := in_u j36_3; have oc := oc_369_109; by omega)); rw [ei, e101, hFc71.1 113 rfl])))
        have n71g : (∀ u : Nat, u < (s.2.2.1 109 20).toInt.toNat → ((sc36).1 164 u).toInt = cn (ARE (gvZ s) 0) (u : Int) ((u_109_19).toInt - (u_109_19).toInt).toNat) := by exact oin_0 (by omega) (fun u hu => g36_0 u (by have h9 := n20 hI; rw [← e_109_20] at h9 hu; exact (have a0 := in_u j36_2; have a1 := in_u j36_1; have a2 := in_u ro_109_20; have a3 := in_u ro_109_19; have a4 := in_u j36_3; have oc := oc_369_109; by omega)))
        have n71h : (∀ v : Nat, v < (s.2.2.1 109 20).toInt.toNat → ((sc36).2.1 162 v).toInt = RK (ARE (gvZ s) 0) (ARE (gvZ s) 1) (s.2.2.1 109 20).toInt.toNat 0 v) := by intro v hv; rw [g36_1 v (by have h9 := n20 hI; rw [← e_109_20] at h9 hv; exact (have a0 := in_u j36_2; have a1 := in_u j36_1; have a2 := in_u ro_109_20; have a3 := in_u ro_109_19; have a4 := in_u j36_3; have oc := oc_369_109; by omega))]; rfl
        have n71i : ((sc36).2.2.1 109 0).toInt = 0 := by exact g36_2
        exact gg_w (by first | exact Nat.le_add_right _ _ | exact gw2 | exact gw3 | exact gwe rfl | exact gwf rfl | exact gwg rfl | exact gwh rfl | omega) (gg_f (gf_cons rfl (gf_cons rfl (gf_cons rfl (gf_cons rfl gf_nil)))) (ct71 401 sc36 u_109_19 hIc36 hFc36 (in_w 0 31 j36_1 rfl) (in_w 0 40 j36_2 rfl) (in_w 0 400 ro_109_19 rfl) n71 n71a n71b n71c n71d n71e n71f n71g n71h n71i (m_in 401 (in_w 0 400 ro_109_19 rfl) rfl)))
      · skip
        have i41 := r_lt1 0 31 c41 j36_3 ro_109_20 rfl
        have i41a := r_lt2 1 32 c41 j36_3 ro_109_20 rfl
        refine g_aload_n 45 (gd rfl) rfl rfl ?_
        refine g_getA (q2 := 162) 48 (gd rfl) rfl rfl rfl rfl ?_
        refine g_iload_n 49 (gd rfl) rfl rfl ?_
        refine g_ldc2_w 1000000000000 52 (gd rfl) rfl rfl ?_
        refine g_lastore 53 (gd rfl) rfl (n := 32) rfl (in_ix i41 rfl) ?_
        have hI52 := inv_sL (q := 162) (j := y36_3.toNatClampNeg) (x := (Int64.ofInt 1000000000000)) hIc36 rfl (l_rng (Int64.ofInt 1000000000000))
        refine g_aload_n 54 (gd rfl) rfl rfl ?_
        refine g_getA (q2 := 164) 57 (gd rfl) rfl rfl rfl rfl ?_
        refine g_iload_n 58 (gd rfl) rfl rfl ?_
        refine g_iconst 0 59 (gd rfl) rfl rfl ?_
        refine g_iastore 60 (gd rfl) rfl (n := 32) rfl (in_ix i41 rfl) ?_
        have hI59 := inv_sI (q := 164) (j := y36_3.toNatClampNeg) hI52 rfl (in_w 0 160 (in_c 0 rfl) rfl)
        refine g_iinc 63 (gd rfl) rfl rfl (Nat.le_of_ble_eq_true rfl) (fun z60 e60 => ?_)
        have i60 := in_add 1 32 e60 i41 (in_c 1 rfl) rfl rfl
        refine g_goto 36 (gd rfl) rfl ?_
        have n36 : (x1).toInt < (u_109_20).toInt := by first | exact n36_0 | (exact (have a0 := in_u j36_2; have a1 := in_u j36_1; have a2 := in_u i41a; have a3 := in_u ro_109_19; have a4 := in_u i41; have a5 := in_u i60; have a6 := t_add e60 i41 (in_c 1 rfl) rfl; have a7 := in_u ((in_c 1 rfl)); have oc := oc_369_109; by omega))
        have n36a : ∀ j : Nat, (j : Int) < (z60).toInt → ((sI (sL sc36 162 y36_3.toNatClampNeg (Int64.ofInt 1000000000000)) 164 y36_3.toNatClampNeg (Int32.ofInt 0)).1 164 j).toInt = 0 := by first | (intro j hj; exfalso; have h0 : (Int32.ofInt 0).toInt = 0 := rfl; omega) | (intro j hj; show (upd (sc36.1 164) y36_3.toNatClampNeg (Int32.ofInt 0) j).toInt = 0; unfold upd; by_cases c : j = y36_3.toNatClampNeg; (rw [if_pos c]; rfl); (rw [if_neg c]; exact g36_0 j (by have e5 : y36_3.toNatClampNeg = y36_3.toInt.toNat := rfl; exact (have a0 := in_u j36_2; have a1 := in_u j36_1; have a2 := in_u i41a; have a3 := in_u ro_109_19; have a4 := in_u i41; have a5 := in_u i60; have a6 := t_add e60 i41 (in_c 1 rfl) rfl; have a7 := in_u ((in_c 1 rfl)); have oc := oc_369_109; by omega))))
        have n36b : (∀ v : Nat, (v : Int) < (z60).toInt → ((sI (sL sc36 162 y36_3.toNatClampNeg (Int64.ofInt 1000000000000)) 164 y36_3.toNatClampNeg (Int32.ofInt 0))).2.1 162 v = Int64.ofInt 1000000000000) := by intro v hv; show (sL sc36 162 (y36_3).toNatClampNeg (Int64.ofInt 1000000000000)).2.1 162 v = _; rw [sL_q]; by_cases c : v = (y36_3).toNatClampNeg; (rw [c, ul_eq]); (rw [ul_ne c]; exact g36_1 v (by have e5 : (y36_3).toNatClampNeg = (y36_3).toInt.toNat := rfl; exact (have a0 := in_u j36_2; have a1 := in_u j36_1; have a2 := in_u i41a; have a3 := in_u ro_109_19; have a4 := in_u i41; have a5 := in_u i60; have a6 := t_add e60 i41 (in_c 1 rfl) rfl; have a7 := in_u ((in_c 1 rfl)); have oc := oc_369_109; by omega)))
        have n36c : (((sI (sL sc36 162 y36_3.toNatClampNeg (Int64.ofInt 1000000000000)) 164 y36_3.toNatClampNeg (Int32.ofInt 0))).2.2.1 109 0).toInt = 0 := by exact g36_2
        exact gg_w (by first | exact Nat.le_add_right _ _ | exact gw2 | exact gw3 | exact gwe rfl | exact gwf rfl | exact gwg rfl | exact gwh rfl | omega) (gg_f (gf_cons rfl (gf_cons rfl (gf_cons rfl (gf_cons rfl gf_nil)))) (ih36 (sI (sL sc36 162 y36_3.toNatClampNeg (Int64.ofInt 1000000000000)) 164 y36_3.toNatClampNeg (Int32.ofInt 0)) z60 hI59 (fr_sI rfl (fr_sL rfl hFc36)) (in_w 0 31 j36_1 rfl) (in_w 0 40 j36_2 rfl) (in_w 0 32 i60 rfl) n36 n36a n36b n36c (m_up mm36 (t_add e60 i41 (in_c 1 rfl) rfl) (in_w 1 1 (in_c 1 rfl) rfl))))
  refine g_enter2 (k := 369) (N := 26414286) (by first | exact dq1 hd rfl | exact dq0 hd rfl | exact dq2 hd rfl | exact dq3 hd rfl | omega) rfl (Nat.le_of_ble_eq_true rfl) ?_
  refine g_aload_n 1 (gd rfl) rfl rfl ?_
  refine g_aload_n 2 (gd rfl) rfl rfl ?_
  refine g_iload_n 3 (gd rfl) rfl rfl ?_
  refine g_callv (X := _) (As := [.int x1]) (r := [.ref (A 109)]) (b := A 109) (q := 109) 6 (gd rfl) rfl rfl rfl rfl rfl (ww_o rfl) (Nat.le_of_ble_eq_true rfl) (mc := 0) (ms := 0) (Nat.zero_le _) (Nat.zero_le _) (P := fun v u => _) ?_ (fun e u h => h) (fun v u h => h)
  intro po3 xx3 hp3 hx3
  refine g_enter2 (k := 272) (N := 300) (by first | exact dq1 hd rfl | exact dq0 hd rfl | exact dq2 hd rfl | exact dq3 hd rfl | omega) rfl (Nat.le_of_ble_eq_true rfl) ?_
  refine g_iload_n 1 (gd rfl) rfl rfl ?_
  refine g_if_lt 4 16 (gd rfl) rfl rfl (fun c3x1 => ?_) (fun c3x1 => ?_)
  · skip
    have i3x1 := z_lt (-2147483648) (-1) c3x1 (i_rng x1) rfl
    refine g_iconst 0 17 (gd rfl) rfl rfl ?_
    refine g_ireturn (gd rfl) rfl (nb01 (in_w 0 1 (in_c 0 rfl) rfl)) (hp3 _ _ ?_)
    show GG _ _ _ _ _ _ _ _ [.int (Int32.ofInt 0), .ref (A 109)] _ _ _
    refine g_if_eq 9 25 (gd rfl) rfl rfl (fun c6 => ?_) (fun c6 => ?_)
    · skip
      refine g_iconst 0 26 (gd rfl) rfl rfl ?_
      refine g_callv (X := _) (As := [.int (Int32.ofInt 0)]) (r := []) (b := A 109) (q := 109) 29 (gd rfl) rfl rfl rfl rfl rfl (ww_o rfl) (Nat.le_of_ble_eq_true rfl) (mc := 0) (ms := 0) (Nat.zero_le _) (Nat.zero_le _) (P := fun v u => _) ?_ (fun e u h => h) (fun v u h => h)
      intro po26 xx26 hp26 hx26
      refine g_enter2 (k := 271) (N := 300) (by first | exact dq1 hd rfl | exact dq0 hd rfl | exact dq2 hd rfl | exact dq3 hd rfl | omega) rfl (Nat.le_of_ble_eq_true rfl) ?_
      refine g_aload_n 1 (gd rfl) rfl rfl ?_
      refine g_iload_n 2 (gd rfl) rfl rfl ?_
      refine g_iconst 1 3 (gd rfl) rfl rfl ?_
      refine g_callv (X := _) (As := [.int (Int32.ofInt 0), .int (Int32.ofInt 1)]) (r := []) (b := A 109) (q := 109) 6 (gd rfl) rfl rfl rfl rfl rfl (ww_o rfl) (Nat.le_of_ble_eq_true rfl) (mc := 0) (ms := 0) (Nat.zero_le _) (Nat.zero_le _) (P := fun v u => _) ?_ (fun e u h => h) (fun v u h => h)
      intro po26x3 xx26x3 hp26x3 hx26x3
      refine g_enter2 (k := 270) (N := 300) (by first | exact dq1 hd rfl | exact dq0 hd rfl | exact dq2 hd rfl | exact dq3 hd rfl | omega) rfl (Nat.le_of_ble_eq_true rfl) ?_
      refine g_aload_n 1 (gd rfl) rfl rfl ?_
      refine g_iload_n 2 (gd rfl) rfl rfl ?_
      refine g_if_ne 5 9 (gd rfl) rfl rfl (fun c26x3x2 => ?_) (fun c26x3x2 => ?_)
      · skip
        exact zn_ne c26x3x2 (in_c 0 rfl) rfl
      · skip
        refine g_iconst 1 6 (gd rfl) rfl rfl ?_
        refine g_goto 18 (gd rfl) rfl ?_
        refine g_putI 21 (gd rfl) rfl rfl rfl rfl ?_
        have hI26x3x18 := inv_sF (q := 109) (j := 0) hI rfl (in_w 0 2 (in_c 1 rfl) rfl)
        refine g_aload_n 22 (gd rfl) rfl rfl ?_
        refine g_getI 25 (gd rfl) rfl rfl rfl (fun z26x3x22 e26x3x22 => ?_)
        have q26x3x22 : (Int32.ofInt 1) = z26x3x22 := (sF_get).trans e26x3x22.symm
        subst q26x3x22
        refine g_if_le 28 32 (gd rfl) rfl rfl (fun c26x3x25 => ?_) (fun c26x3x25 => ?_)
        · skip
          exact zn_le c26x3x25 (in_c 1 rfl) rfl
        · skip
          refine g_iconst 1 29 (gd rfl) rfl rfl ?_
          refine g_goto 33 (gd rfl) rfl ?_
          refine g_ireturn (gd rfl) rfl (nb01 (in_w 0 1 (in_c 1 rfl) rfl)) (hp26x3 _ _ ?_)
          show GG _ _ _ _ _ _ _ _ [.int (Int32.ofInt 1)] _ _ _
          refine g_ireturn (gd rfl) rfl (nb01 (in_w 0 1 (in_c 1 rfl) rfl)) (hp26 _ _ ?_)
          show GG _ _ _ _ _ _ _ _ [.int (Int32.ofInt 1)] _ _ _
          refine g_if_eq 32 34 (gd rfl) rfl rfl (fun c29 => ?_) (fun c29 => ?_)
          · skip
            exact zn_eq c29 (in_c 1 rfl) rfl
          · skip
            refine g_lconst 0 33 (gd rfl) rfl rfl ?_
            have n33 : RKR s (sF s 109 0 (Int32.ofInt 1)) x1 x2 (Int64.ofInt 0) := by exact Or.inl ⟨rfl, by unfold In; rw [← e_109_20]; exact (have a0 := in_u ro_109_20; have a1 := in_u ro_109_19; have a2 := in_u i3x1; have a3 := in_u ((in_c 1 rfl)); have oc := oc_369_109; by omega)⟩
            exact g_lreturn (gd rfl) rfl (hP _ _ ⟨(sF s 109 0 (Int32.ofInt 1)), hI26x3x18, (fr_sF rfl fr_rf), (Int64.ofInt 0), rfl, rfl, n33⟩)
    · skip
      exact zn_ne c6 (in_c 0 rfl) rfl
  · skip
    have i3x1 := z_ge 0 2147483647 c3x1 (i_rng x1) rfl
    refine g_iload_n 5 (gd rfl) rfl rfl ?_
    refine g_aload_n 6 (gd rfl) rfl rfl ?_
    refine g_getI 9 (gd rfl) rfl rfl rfl (fun z3x6 e3x6 => ?_)
    have q3x6 : u_109_20 = z3x6 := (e_109_20).trans e3x6.symm
    subst q3x6
    refine g_cmp_ge 12 16 (gd rfl) rfl rfl (fun c3x9 => ?_) (fun c3x9 => ?_)
    · skip
      refine g_iconst 0 17 (gd rfl) rfl rfl ?_
      refine g_ireturn (gd rfl) rfl (nb01 (in_w 0 1 (in_c 0 rfl) rfl)) (hp3 _ _ ?_)
      show GG _ _ _ _ _ _ _ _ [.int (Int32.ofInt 0), .ref (A 109)] _ _ _
      refine g_if_eq 9 25 (gd rfl) rfl rfl (fun c6 => ?_) (fun c6 => ?_)
      · skip
        refine g_iconst 0 26 (gd rfl) rfl rfl ?_
        refine g_callv (X := _) (As := [.int (Int32.ofInt 0)]) (r := []) (b := A 109) (q := 109) 29 (gd rfl) rfl rfl rfl rfl rfl (ww_o rfl) (Nat.le_of_ble_eq_true rfl) (mc := 0) (ms := 0) (Nat.zero_le _) (Nat.zero_le _) (P := fun v u => _) ?_ (fun e u h => h) (fun v u h => h)
        intro po26 xx26 hp26 hx26
        refine g_enter2 (k := 271) (N := 300) (by first | exact dq1 hd rfl | exact dq0 hd rfl | exact dq2 hd rfl | exact dq3 hd rfl | omega) rfl (Nat.le_of_ble_eq_true rfl) ?_
        refine g_aload_n 1 (gd rfl) rfl rfl ?_
        refine g_iload_n 2 (gd rfl) rfl rfl ?_
        refine g_iconst 1 3 (gd rfl) rfl rfl ?_
        refine g_callv (X := _) (As := [.int (Int32.ofInt 0), .int (Int32.ofInt 1)]) (r := []) (b := A 109) (q := 109) 6 (gd rfl) rfl rfl rfl rfl rfl (ww_o rfl) (Nat.le_of_ble_eq_true rfl) (mc := 0) (ms := 0) (Nat.zero_le _) (Nat.zero_le _) (P := fun v u => _) ?_ (fun e u h => h) (fun v u h => h)
        intro po26x3 xx26x3 hp26x3 hx26x3
        refine g_enter2 (k := 270) (N := 300) (by first | exact dq1 hd rfl | exact dq0 hd rfl | exact dq2 hd rfl | exact dq3 hd rfl | omega) rfl (Nat.le_of_ble_eq_true rfl) ?_
        refine g_aload_n 1 (gd rfl) rfl rfl ?_
        refine g_iload_n 2 (gd rfl) rfl rfl ?_
        refine g_if_ne 5 9 (gd rfl) rfl rfl (fun c26x3x2 => ?_) (fun c26x3x2 => ?_)
        · skip
          exact zn_ne c26x3x2 (in_c 0 rfl) rfl
        · skip
          refine g_iconst 1 6 (gd rfl) rfl rfl ?_
          refine g_goto 18 (gd rfl) rfl ?_
          refine g_putI 21 (gd rfl) rfl rfl rfl rfl ?_
          have hI26x3x18 := inv_sF (q := 109) (j := 0) hI rfl (in_w 0 2 (in_c 1 rfl) rfl)
          refine g_aload_n 22 (gd rfl) rfl rfl ?_
          refine g_getI 25 (gd rfl) rfl rfl rfl (fun z26x3x22 e26x3x22 => ?_)
          have q26x3x22 : (Int32.ofInt 1) = z26x3x22 := (sF_get).trans e26x3x22.symm
          subst q26x3x22
          refine g_if_le 28 32 (gd rfl) rfl rfl (fun c26x3x25 => ?_) (fun c26x3x25 => ?_)
          · skip
            exact zn_le c26x3x25 (in_c 1 rfl) rfl
          · skip
            refine g_iconst 1 29 (gd rfl) rfl rfl ?_
            refine g_goto 33 (gd rfl) rfl ?_
            refine g_ireturn (gd rfl) rfl (nb01 (in_w 0 1 (in_c 1 rfl) rfl)) (hp26x3 _ _ ?_)
            show GG _ _ _ _ _ _ _ _ [.int (Int32.ofInt 1)] _ _ _
            refine g_ireturn (gd rfl) rfl (nb01 (in_w 0 1 (in_c 1 rfl) rfl)) (hp26 _ _ ?_)
            show GG _ _ _ _ _ _ _ _ [.int (Int32.ofInt 1)] _ _ _
            refine g_if_eq 32 34 (gd rfl) rfl rfl (fun c29 => ?_) (fun c29 => ?_)
            · skip
              exact zn_eq c29 (in_c 1 rfl) rfl
            · skip
              refine g_lconst 0 33 (gd rfl) rfl rfl ?_
              have n33 : RKR s (sF s 109 0 (Int32.ofInt 1)) x1 x2 (Int64.ofInt 0) := by exact Or.inl ⟨rfl, by unfold In; rw [← e_109_20]; exact (have a0 := in_u ro_109_20; have a1 := in_u ro_109_19; have a2 := in_u i3x1; have a3 := in_u ((in_c 1 rfl)); have oc := oc_369_109; by omega)⟩
              exact g_lreturn (gd rfl) rfl (hP _ _ ⟨(sF s 109 0 (Int32.ofInt 1)), hI26x3x18, (fr_sF rfl fr_rf), (Int64.ofInt 0), rfl, rfl, n33⟩)
      · skip
        exact zn_ne c6 (in_c 0 rfl) rfl
    · skip
      have i3x9 := r_lt1 0 31 c3x9 i3x1 ro_109_20 rfl
      have i3x9a := r_lt2 1 32 c3x9 i3x1 ro_109_20 rfl
      refine g_iconst 1 13 (gd rfl) rfl rfl ?_
      refine g_goto 17 (gd rfl) rfl ?_
      refine g_ireturn (gd rfl) rfl (nb01 (in_w 0 1 (in_c 1 rfl) rfl)) (hp3 _ _ ?_)
      show GG _ _ _ _ _ _ _ _ [.int (Int32.ofInt 1), .ref (A 109)] _ _ _
      refine g_if_eq 9 25 (gd rfl) rfl rfl (fun c6 => ?_) (fun c6 => ?_)
      · skip
        exact zn_eq c6 (in_c 1 rfl) rfl
      · skip
        refine g_iload_n 10 (gd rfl) rfl rfl ?_
        refine g_i2l 11 (gd rfl) rfl (fun z10 e10 => ?_)
        have i10 := l_i e10 (i_rng x2)
        refine g_lconst 0 12 (gd rfl) rfl rfl ?_
        refine g_ldc2_w 40 15 (gd rfl) rfl rfl ?_
        refine g_calls (As := [.long z10, .long (Int64.ofInt 0), .long (Int64.ofInt 40)]) (r := [.ref (A 109)]) 18 (gd rfl) rfl rfl rfl rfl rfl (Nat.le_of_ble_eq_true rfl) (mc := 0) (ms := 0) (Nat.zero_le _) (Nat.zero_le _) (P := fun v u => _) ?_ (fun v u h => h)
        intro po15 xx15 hp15 hx15
        refine g_enter2 (k := 269) (N := 300) (by first | exact dq1 hd rfl | exact dq0 hd rfl | exact dq2 hd rfl | exact dq3 hd rfl | omega) rfl (Nat.le_of_ble_eq_true rfl) ?_
        refine g_lload_n 1 (gd rfl) rfl rfl ?_
        refine g_lload_n 2 (gd rfl) rfl rfl ?_
        refine g_lcmp 3 (gd rfl) rfl (fun z15x2 e15x2 => ?_)
        have i15x2 := lc_in e15x2
        refine g_if_lt 6 17 (gd rfl) rfl rfl (fun c15x3 => ?_) (fun c15x3 => ?_)
        · skip
          have i15x3 := z_lt (-1) (-1) c15x3 i15x2 rfl
          have c15x3a := lc_lt e15x2 c15x3
          have i15x3a := lr_lt1 (-2147483648) (-1) c15x3a i10 (l_c 0 rfl) rfl
          have i15x3b := l_b e10 i15x3a
          refine g_iconst 0 18 (gd rfl) rfl rfl ?_
          refine g_ireturn (gd rfl) rfl (nb01 (in_w 0 1 (in_c 0 rfl) rfl)) (hp15 _ _ ?_)
          show GG _ _ _ _ _ _ _ _ [.int (Int32.ofInt 0), .ref (A 109)] _ _ _
          refine g_if_eq 21 25 (gd rfl) rfl rfl (fun c18 => ?_) (fun c18 => ?_)
          · skip
            refine g_iconst 0 26 (gd rfl) rfl rfl ?_
            refine g_callv (X := _) (As := [.int (Int32.ofInt 0)]) (r := []) (b := A 109) (q := 109) 29 (gd rfl) rfl rfl rfl rfl rfl (ww_o rfl) (Nat.le_of_ble_eq_true rfl) (mc := 0) (ms := 0) (Nat.zero_le _) (Nat.zero_le _) (P := fun v u => _) ?_ (fun e u h => h) (fun v u h => h)
            intro po26 xx26 hp26 hx26
            refine g_enter2 (k := 271) (N := 300) (by first | exact dq1 hd rfl | exact dq0 hd rfl | exact dq2 hd rfl | exact dq3 hd rfl | omega) rfl (Nat.le_of_ble_eq_true rfl) ?_
            refine g_aload_n 1 (gd rfl) rfl rfl ?_
            refine g_iload_n 2 (gd rfl) rfl rfl ?_
            refine g_iconst 1 3 (gd rfl) rfl rfl ?_
            refine g_callv (X := _) (As := [.int (Int32.ofInt 0), .int (Int32.ofInt 1)]) (r := []) (b := A 109) (q := 109) 6 (gd rfl) rfl rfl rfl rfl rfl (ww_o rfl) (Nat.le_of_ble_eq_true rfl) (mc := 0) (ms := 0) (Nat.zero_le _) (Nat.zero_le _) (P := fun v u => _) ?_ (fun e u h => h) (fun v u h => h)
            intro po26x3 xx26x3 hp26x3 hx26x3
            refine g_enter2 (k := 270) (N := 300) (by first | exact dq1 hd rfl | exact dq0 hd rfl | exact dq2 hd rfl | exact dq3 hd rfl | omega) rfl (Nat.le_of_ble_eq_true rfl) ?_
            refine g_aload_n 1 (gd rfl) rfl rfl ?_
            refine g_iload_n 2 (gd rfl) rfl rfl ?_
            refine g_if_ne 5 9 (gd rfl) rfl rfl (fun c26x3x2 => ?_) (fun c26x3x2 => ?_)
            · skip
              exact zn_ne c26x3x2 (in_c 0 rfl) rfl
            · skip
              refine g_iconst 1 6 (gd rfl) rfl rfl ?_
              refine g_goto 18 (gd rfl) rfl ?_
              refine g_putI 21 (gd rfl) rfl rfl rfl rfl ?_
              have hI26x3x18 := inv_sF (q := 109) (j := 0) hI rfl (in_w 0 2 (in_c 1 rfl) rfl)
              refine g_aload_n 22 (gd rfl) rfl rfl ?_
              refine g_getI 25 (gd rfl) rfl rfl rfl (fun z26x3x22 e26x3x22 => ?_)
              have q26x3x22 : (Int32.ofInt 1) = z26x3x22 := (sF_get).trans e26x3x22.symm
              subst q26x3x22
              refine g_if_le 28 32 (gd rfl) rfl rfl (fun c26x3x25 => ?_) (fun c26x3x25 => ?_)
              · skip
                exact zn_le c26x3x25 (in_c 1 rfl) rfl
              · skip
                refine g_iconst 1 29 (gd rfl) rfl rfl ?_
                refine g_goto 33 (gd rfl) rfl ?_
                refine g_ireturn (gd rfl) rfl (nb01 (in_w 0 1 (in_c 1 rfl) rfl)) (hp26x3 _ _ ?_)
                show GG _ _ _ _ _ _ _ _ [.int (Int32.ofInt 1)] _ _ _
                refine g_ireturn (gd rfl) rfl (nb01 (in_w 0 1 (in_c 1 rfl) rfl)) (hp26 _ _ ?_)
                show GG _ _ _ _ _ _ _ _ [.int (Int32.ofInt 1)] _ _ _
                refine g_if_eq 32 34 (gd rfl) rfl rfl (fun c29 => ?_) (fun c29 => ?_)
                · skip
                  exact zn_eq c29 (in_c 1 rfl) rfl
                · skip
                  refine g_lconst 0 33 (gd rfl) rfl rfl ?_
                  have n33 : RKR s (sF s 109 0 (Int32.ofInt 1)) x1 x2 (Int64.ofInt 0) := by exact Or.inl ⟨rfl, by unfold In; rw [← e_109_20]; exact (have a0 := in_u i3x9; have a1 := in_u i3x9a; have a2 := in_u ro_109_19; have a3 := in_u i15x3b; have a4 := in_u ((in_c 1 rfl)); have a5 := tx_i2l e10; have oc := oc_369_109; by omega)⟩
                  exact g_lreturn (gd rfl) rfl (hP _ _ ⟨(sF s 109 0 (Int32.ofInt 1)), hI26x3x18, (fr_sF rfl fr_rf), (Int64.ofInt 0), rfl, rfl, n33⟩)
          · skip
            exact zn_ne c18 (in_c 0 rfl) rfl
        · skip
          have i15x3 := z_ge 0 1 c15x3 i15x2 rfl
          have c15x3a := lc_ge e15x2 c15x3
          have i15x3a := lr_le2 0 2147483647 c15x3a (l_c 0 rfl) i10 rfl
          have i15x3b := l_b e10 i15x3a
          refine g_lload_n 7 (gd rfl) rfl rfl ?_
          refine g_lload 9 (gd rfl) rfl rfl ?_
          refine g_lcmp 10 (gd rfl) rfl (fun z15x9 e15x9 => ?_)
          have i15x9 := lc_in e15x9
          refine g_if_gt 13 17 (gd rfl) rfl rfl (fun c15x10 => ?_) (fun c15x10 => ?_)
          · skip
            have i15x10 := z_gt 1 1 c15x10 i15x9 rfl
            have c15x10a := lc_gt e15x9 c15x10
            have i15x10a := lr_lt2 41 2147483647 c15x10a (l_c 40 rfl) i15x3a rfl
            have i15x10b := l_b e10 i15x10a
            refine g_iconst 0 18 (gd rfl) rfl rfl ?_
            refine g_ireturn (gd rfl) rfl (nb01 (in_w 0 1 (in_c 0 rfl) rfl)) (hp15 _ _ ?_)
            show GG _ _ _ _ _ _ _ _ [.int (Int32.ofInt 0), .ref (A 109)] _ _ _
            refine g_if_eq 21 25 (gd rfl) rfl rfl (fun c18 => ?_) (fun c18 => ?_)
            · skip
              refine g_iconst 0 26 (gd rfl) rfl rfl ?_
              refine g_callv (X := _) (As := [.int (Int32.ofInt 0)]) (r := []) (b := A 109) (q := 109) 29 (gd rfl) rfl rfl rfl rfl rfl (ww_o rfl) (Nat.le_of_ble_eq_true rfl) (mc := 0) (ms := 0) (Nat.zero_le _) (Nat.zero_le _) (P := fun v u => _) ?_ (fun e u h => h) (fun v u h => h)
              intro po26 xx26 hp26 hx26
              refine g_enter2 (k := 271) (N := 300) (by first | exact dq1 hd rfl | exact dq0 hd rfl | exact dq2 hd rfl | exact dq3 hd rfl | omega) rfl (Nat.le_of_ble_eq_true rfl) ?_
              refine g_aload_n 1 (gd rfl) rfl rfl ?_
              refine g_iload_n 2 (gd rfl) rfl rfl ?_
              refine g_iconst 1 3 (gd rfl) rfl rfl ?_
              refine g_callv (X := _) (As := [.int (Int32.ofInt 0), .int (Int32.ofInt 1)]) (r := []) (b := A 109) (q := 109) 6 (gd rfl) rfl rfl rfl rfl rfl (ww_o rfl) (Nat.le_of_ble_eq_true rfl) (mc := 0) (ms := 0) (Nat.zero_le _) (Nat.zero_le _) (P := fun v u => _) ?_ (fun e u h => h) (fun v u h => h)
              intro po26x3 xx26x3 hp26x3 hx26x3
              refine g_enter2 (k := 270) (N := 300) (by first | exact dq1 hd rfl | exact dq0 hd rfl | exact dq2 hd rfl | exact dq3 hd rfl | omega) rfl (Nat.le_of_ble_eq_true rfl) ?_
              refine g_aload_n 1 (gd rfl) rfl rfl ?_
              refine g_iload_n 2 (gd rfl) rfl rfl ?_
              refine g_if_ne 5 9 (gd rfl) rfl rfl (fun c26x3x2 => ?_) (fun c26x3x2 => ?_)
              · skip
                exact zn_ne c26x3x2 (in_c 0 rfl) rfl
              · skip
                refine g_iconst 1 6 (gd rfl) rfl rfl ?_
                refine g_goto 18 (gd rfl) rfl ?_
                refine g_putI 21 (gd rfl) rfl rfl rfl rfl ?_
                have hI26x3x18 := inv_sF (q := 109) (j := 0) hI rfl (in_w 0 2 (in_c 1 rfl) rfl)
                refine g_aload_n 22 (gd rfl) rfl rfl ?_
                refine g_getI 25 (gd rfl) rfl rfl rfl (fun z26x3x22 e26x3x22 => ?_)
                have q26x3x22 : (Int32.ofInt 1) = z26x3x22 := (sF_get).trans e26x3x22.symm
                subst q26x3x22
                refine g_if_le 28 32 (gd rfl) rfl rfl (fun c26x3x25 => ?_) (fun c26x3x25 => ?_)
                · skip
                  exact zn_le c26x3x25 (in_c 1 rfl) rfl
                · skip
                  refine g_iconst 1 29 (gd rfl) rfl rfl ?_
                  refine g_goto 33 (gd rfl) rfl ?_
                  refine g_ireturn (gd rfl) rfl (nb01 (in_w 0 1 (in_c 1 rfl) rfl)) (hp26x3 _ _ ?_)
                  show GG _ _ _ _ _ _ _ _ [.int (Int32.ofInt 1)] _ _ _
                  refine g_ireturn (gd rfl) rfl (nb01 (in_w 0 1 (in_c 1 rfl) rfl)) (hp26 _ _ ?_)
                  show GG _ _ _ _ _ _ _ _ [.int (Int32.ofInt 1)] _ _ _
                  refine g_if_eq 32 34 (gd rfl) rfl rfl (fun c29 => ?_) (fun c29 => ?_)
                  · skip
                    exact zn_eq c29 (in_c 1 rfl) rfl
                  · skip
                    refine g_lconst 0 33 (gd rfl) rfl rfl ?_
                    have n33 : RKR s (sF s 109 0 (Int32.ofInt 1)) x1 x2 (Int64.ofInt 0) := by exact Or.inl ⟨rfl, by unfold In; rw [← e_109_20]; exact (have a0 := in_u i3x9; have a1 := in_u i3x9a; have a2 := in_u ro_109_19; have a3 := in_u i15x10b; have a4 := in_u ((in_c 1 rfl)); have a5 := tx_i2l e10; have oc := oc_369_109; by omega)⟩
                    exact g_lreturn (gd rfl) rfl (hP _ _ ⟨(sF s 109 0 (Int32.ofInt 1)), hI26x3x18, (fr_sF rfl fr_rf), (Int64.ofInt 0), rfl, rfl, n33⟩)
            · skip
              exact zn_ne c18 (in_c 0 rfl) rfl
          · skip
            have i15x10 := z_le (-1) 0 c15x10 i15x9 rfl
            have c15x10a := lc_le e15x9 c15x10
            have i15x10a := lr_le1 0 40 c15x10a i15x3a (l_c 40 rfl) rfl
            have i15x10b := l_b e10 i15x10a
            refine g_iconst 1 14 (gd rfl) rfl rfl ?_
            refine g_goto 18 (gd rfl) rfl ?_
            refine g_ireturn (gd rfl) rfl (nb01 (in_w 0 1 (in_c 1 rfl) rfl)) (hp15 _ _ ?_)
            show GG _ _ _ _ _ _ _ _ [.int (Int32.ofInt 1), .ref (A 109)] _ _ _
            refine g_if_eq 21 25 (gd rfl) rfl rfl (fun c18 => ?_) (fun c18 => ?_)
            · skip
              exact zn_eq c18 (in_c 1 rfl) rfl
            · skip
              refine g_iconst 1 22 (gd rfl) rfl rfl ?_
              refine g_goto 26 (gd rfl) rfl ?_
              refine g_callv (X := _) (As := [.int (Int32.ofInt 1)]) (r := []) (b := A 109) (q := 109) 29 (gd rfl) rfl rfl rfl rfl rfl (ww_o rfl) (Nat.le_of_ble_eq_true rfl) (mc := 0) (ms := 0) (Nat.zero_le _) (Nat.zero_le _) (P := fun v u => _) ?_ (fun e u h => h) (fun v u h => h)
              intro po26 xx26 hp26 hx26
              refine g_enter2 (k := 271) (N := 300) (by first | exact dq1 hd rfl | exact dq0 hd rfl | exact dq2 hd rfl | exact dq3 hd rfl | omega) rfl (Nat.le_of_ble_eq_true rfl) ?_
              refine g_aload_n 1 (gd rfl) rfl rfl ?_
              refine g_iload_n 2 (gd rfl) rfl rfl ?_
              refine g_iconst 1 3 (gd rfl) rfl rfl ?_
              refine g_callv (X := _) (As := [.int (Int32.ofInt 1), .int (Int32.ofInt 1)]) (r := []) (b := A 109) (q := 109) 6 (gd rfl) rfl rfl rfl rfl rfl (ww_o rfl) (Nat.le_of_ble_eq_true rfl) (mc := 0) (ms := 0) (Nat.zero_le _) (Nat.zero_le _) (P := fun v u => _) ?_ (fun e u h => h) (fun v u h => h)
              intro po26x3 xx26x3 hp26x3 hx26x3
              refine g_enter2 (k := 270) (N := 300) (by first | exact dq1 hd rfl | exact dq0 hd rfl | exact dq2 hd rfl | exact dq3 hd rfl | omega) rfl (Nat.le_of_ble_eq_true rfl) ?_
              refine g_aload_n 1 (gd rfl) rfl rfl ?_
              refine g_iload_n 2 (gd rfl) rfl rfl ?_
              refine g_if_ne 5 9 (gd rfl) rfl rfl (fun c26x3x2 => ?_) (fun c26x3x2 => ?_)
              · skip
                refine g_iload_n 10 (gd rfl) rfl rfl ?_
                refine g_if_ne 13 17 (gd rfl) rfl rfl (fun c26x3x10 => ?_) (fun c26x3x10 => ?_)
                · skip
                  refine g_iconst 0 18 (gd rfl) rfl rfl ?_
                  refine g_putI 21 (gd rfl) rfl rfl rfl rfl ?_
                  have hI26x3x18 := inv_sF (q := 109) (j := 0) hI rfl (in_w 0 2 (in_c 0 rfl) rfl)
                  refine g_aload_n 22 (gd rfl) rfl rfl ?_
                  refine g_getI 25 (gd rfl) rfl rfl rfl (fun z26x3x22 e26x3x22 => ?_)
                  have q26x3x22 : (Int32.ofInt 0) = z26x3x22 := (sF_get).trans e26x3x22.symm
                  subst q26x3x22
                  refine g_if_le 28 32 (gd rfl) rfl rfl (fun c26x3x25 => ?_) (fun c26x3x25 => ?_)
                  · skip
                    refine g_iconst 0 33 (gd rfl) rfl rfl ?_
                    refine g_ireturn (gd rfl) rfl (nb01 (in_w 0 1 (in_c 0 rfl) rfl)) (hp26x3 _ _ ?_)
                    show GG _ _ _ _ _ _ _ _ [.int (Int32.ofInt 0)] _ _ _
                    refine g_ireturn (gd rfl) rfl (nb01 (in_w 0 1 (in_c 0 rfl) rfl)) (hp26 _ _ ?_)
                    show GG _ _ _ _ _ _ _ _ [.int (Int32.ofInt 0)] _ _ _
                    refine g_if_eq 32 34 (gd rfl) rfl rfl (fun c29 => ?_) (fun c29 => ?_)
                    · skip
                      refine g_iconst 0 35 (gd rfl) rfl rfl ?_
                      refine g_istore_n 36 (gd rfl) rfl (Nat.le_of_ble_eq_true rfl) ?_
                      have n36 : (x1).toInt < (u_109_20).toInt := by exact (have a0 := in_u i15x10b; have a1 := in_u i3x9; have a2 := in_u i3x9a; have a3 := in_u ro_109_19; have a4 := in_u ((in_c 0 rfl)); have a5 := tx_i2l e10; have oc := oc_369_109; by omega)
                      have n36a : ∀ j : Nat, (j : Int) < ((Int32.ofInt 0)).toInt → ((sF s 109 0 (Int32.ofInt 0)).1 164 j).toInt = 0 := by first | (intro j hj; exfalso; have h0 : (Int32.ofInt 0).toInt = 0 := rfl; omega) | (intro j hj; show (upd (sc36.1 164) y36_3.toNatClampNeg (Int32.ofInt 0) j).toInt = 0; unfold upd; by_cases c : j = y36_3.toNatClampNeg; (rw [if_pos c]; rfl); (rw [if_neg c]; exact g36_0 j (by have e5 : y36_3.toNatClampNeg = y36_3.toInt.toNat := rfl; exact (have a0 := in_u i15x10b; have a1 := in_u i3x9; have a2 := in_u i3x9a; have a3 := in_u ro_109_19; have a4 := in_u ((in_c 0 rfl)); have a5 := tx_i2l e10; have oc := oc_369_109; by omega))))
                      have n36b : (∀ v : Nat, (v : Int) < ((Int32.ofInt 0)).toInt → ((sF s 109 0 (Int32.ofInt 0))).2.1 162 v = Int64.ofInt 1000000000000) := by intro v hv; exfalso; have h0 : (Int32.ofInt 0).toInt = 0 := rfl; omega
                      have n36c : (((sF s 109 0 (Int32.ofInt 0))).2.2.1 109 0).toInt = 0 := by rfl
                      exact gg_w (by first | exact Nat.le_of_ble_eq_true rfl | omega) (gg_f (gf_cons rfl (gf_cons rfl (gf_cons rfl (gf_cons rfl gf_nil)))) (ct36 33 (sF s 109 0 (Int32.ofInt 0)) (Int32.ofInt 0) hI26x3x18 (fr_sF rfl fr_rf) (in_w 0 31 i3x9 rfl) (in_w 0 40 i15x10b rfl) (in_w 0 32 (in_c 0 rfl) rfl) n36 n36a n36b n36c (m_in 33 (in_w 0 32 (in_c 0 rfl) rfl) rfl)))
                    · skip
                      exact zn_ne c29 (in_c 0 rfl) rfl
                  · skip
                    exact zn_gt c26x3x25 (in_c 0 rfl) rfl
                · skip
                  exact zn_eq c26x3x10 (in_c 1 rfl) rfl
              · skip
                exact zn_eq c26x3x2 (in_c 1 rfl) rfl
end
