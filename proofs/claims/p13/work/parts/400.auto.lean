/-! methods, by vc.py -/
def fm_335 : FM := ([138], [], [], [])
/-- GraphHouseModel.findBeside -/
theorem k_335 {Z : AmZ} {A : Nat → Nat} {s : GS} {ex : va_W} {d : Nat} {X : AmX}  (hd : 3 ≤ d) (hI : Inv s)  : GC Z d 335 [.ref (A 109)] (WW Z A s ++ ex) 0 0 (fun v u => ∃ t : GS, Inv t ∧ Fr fm_335 s t ∧ v = none ∧ u = WW Z A t ++ ex ∧ (BSD t)) X := by
  intro post xp hP hX
  obtain ⟨u_109_19, e_109_19⟩ : ∃ w, w = s.2.2.1 109 19 := ⟨_, rfl⟩
  have ro_109_19 := inv_F hI 0 160 rfl e_109_19
  obtain ⟨u_109_20, e_109_20⟩ : ∃ w, w = s.2.2.1 109 20 := ⟨_, rfl⟩
  have ro_109_20 := inv_F hI 0 32 rfl e_109_20
  have ct25 : ∀ (k25 : Nat) (sc25 : GS) (y25_1 : Int32), Inv sc25 → Fr fm_335 s sc25 → (In y25_1 0 160) → (BSF (sc25.1 138) u_109_20.toInt) → 160 - (y25_1).toInt < (k25 : Int) → GG Z (d - 1) 335 post (gx xp) (1 + k25 * 900) 25 (fun j => xlook j [(0, .ref (A 109)), (1, .int y25_1)]) [] (WW Z A sc25 ++ ex) 0 0 := by
    intro k25
    induction k25 with
    | zero => intro sc25 y25_1 hIc25 hFc25 j25_1 g25_0 mm25; exact m_no mm25 j25_1 rfl
    | succ k25 ih25 =>
      intro sc25 y25_1 hIc25 hFc25 j25_1 g25_0 mm25
      refine gg_w (M := 1 + k25 * 900 + 900) (by omega) ?_
      refine g_iload_n 26 (gd rfl) rfl rfl ?_
      refine g_sipush 160 29 (gd rfl) rfl rfl ?_
      refine g_cmp_ge 32 110 (gd rfl) rfl rfl (fun c29 => ?_) (fun c29 => ?_)
      · skip
        have i29 := r_le2 160 160 c29 (in_c 160 rfl) j25_1 rfl
        have n110 : BSD sc25 := by have h := g25_0; unfold BSD; rw [hFc25.2.2.1 109 20 rfl, ← e_109_20]; exact h
        exact g_return (gd rfl) rfl (hP _ _ ⟨sc25, hIc25, hFc25, rfl, rfl, n110⟩)
      · skip
        have i29 := r_lt1 0 159 c29 j25_1 (in_c 160 rfl) rfl
        refine g_aload_n 33 (gd rfl) rfl rfl ?_
        refine g_iload_n 34 (gd rfl) rfl rfl ?_
        refine g_callv (X := _) (As := [.int y25_1]) (r := []) (b := A 109) (q := 109) 37 (gd rfl) rfl rfl rfl rfl rfl (ww_o rfl) (Nat.le_of_ble_eq_true rfl) (mc := 0) (ms := 0) (Nat.zero_le _) (Nat.zero_le _) (P := fun v u => _) ?_ (fun e u h => h) (fun v u h => h)
        intro po34 xx34 hp34 hx34
        refine g_enter2 (k := 288) (N := 300) (by omega) rfl (Nat.le_of_ble_eq_true rfl) ?_
        refine g_aload_n 1 (gd rfl) rfl rfl ?_
        refine g_getA (q2 := 112) 4 (gd rfl) rfl rfl rfl rfl ?_
        refine g_aload_n 5 (gd rfl) rfl rfl ?_
        refine g_getI 8 (gd rfl) rfl rfl rfl (fun z34x5 e34x5 => ?_)
        have q34x5 : u_109_19 = z34x5 := (fr_F e_109_19 hFc25 rfl).trans e34x5.symm
        subst q34x5
        refine g_iload_n 9 (gd rfl) rfl rfl ?_
        refine g_iadd 10 (gd rfl) rfl (fun z34x9 e34x9 => ?_)
        have i34x9 := in_add 0 319 e34x9 ro_109_19 i29 rfl rfl
        refine g_baload 11 (gd rfl) rfl (n := 480) rfl (in_ix i34x9 rfl) (fun z34x10 e34x10 => ?_)
        have i34x10 := inv_I hIc25 (n := 480) (t := 3) 0 1 rfl (in_ix i34x9 rfl) rfl e34x10
        refine g_if_eq 14 43 (gd rfl) rfl rfl (fun c34x11 => ?_) (fun c34x11 => ?_)
        · skip
          have i34x11 := z_eq 0 0 c34x11 i34x10 rfl
          refine g_iconst 0 44 (gd rfl) rfl rfl ?_
          refine g_ireturn (gd rfl) rfl (nb01 (in_w 0 1 (in_c 0 rfl) rfl)) (hp34 _ _ ?_)
          show GG _ _ _ _ _ _ _ _ [.int (Int32.ofInt 0)] _ _ _
          refine g_if_eq 40 104 (gd rfl) rfl rfl (fun c37 => ?_) (fun c37 => ?_)
          · skip
            refine g_iinc 107 (gd rfl) rfl rfl (Nat.le_of_ble_eq_true rfl) (fun z104 e104 => ?_)
            have i104 := in_add 1 160 e104 i29 (in_c 1 rfl) rfl rfl
            refine g_goto 25 (gd rfl) rfl ?_
            have n25 : BSF (sc25.1 138) u_109_20.toInt := by exact g25_0
            exact gg_w (by omega) (gg_f (gf_cons rfl (gf_cons rfl gf_nil)) (ih25 sc25 z104 hIc25 hFc25 (in_w 0 160 i104 rfl) n25 (m_up mm25 (t_add e104 i29 (in_c 1 rfl) rfl) (in_w 1 1 (in_c 1 rfl) rfl))))
          · skip
            exact zn_ne c37 (in_c 0 rfl) rfl
        · skip
          have i34x11 := z_ne 1 1 c34x11 i34x10 rfl
          refine g_aload_n 15 (gd rfl) rfl rfl ?_
          refine g_getA (q2 := 113) 18 (gd rfl) rfl rfl rfl rfl ?_
          refine g_aload_n 19 (gd rfl) rfl rfl ?_
          refine g_getI 22 (gd rfl) rfl rfl rfl (fun z34x19 e34x19 => ?_)
          have q34x19 : u_109_19 = z34x19 := (fr_F e_109_19 hFc25 rfl).trans e34x19.symm
          subst q34x19
          refine g_iload_n 23 (gd rfl) rfl rfl ?_
          refine g_iadd 24 (gd rfl) rfl (fun z34x23 e34x23 => ?_)
          have i34x23 := in_add 0 319 e34x23 ro_109_19 i29 rfl rfl
          refine g_iaload 25 (gd rfl) rfl (n := 480) rfl (in_ix i34x23 rfl) (fun z34x24 e34x24 => ?_)
          have i34x24 := inv_I hIc25 (n := 480) (t := 0) 0 31 rfl (in_ix i34x23 rfl) rfl e34x24
          refine g_aload_n 26 (gd rfl) rfl rfl ?_
          refine g_getA (q2 := 114) 29 (gd rfl) rfl rfl rfl rfl ?_
          refine g_aload_n 30 (gd rfl) rfl rfl ?_
          refine g_getI 33 (gd rfl) rfl rfl rfl (fun z34x30 e34x30 => ?_)
          have q34x30 : u_109_19 = z34x30 := (fr_F e_109_19 hFc25 rfl).trans e34x30.symm
          subst q34x30
          refine g_iload_n 34 (gd rfl) rfl rfl ?_
          refine g_iadd 35 (gd rfl) rfl (fun z34x34 e34x34 => ?_)
          have i34x34 := in_add 0 319 e34x34 ro_109_19 i29 rfl rfl
          refine g_iaload 36 (gd rfl) rfl (n := 480) rfl (in_ix i34x34 rfl) (fun z34x35 e34x35 => ?_)
          have i34x35 := inv_I hIc25 (n := 480) (t := 0) 0 31 rfl (in_ix i34x34 rfl) rfl e34x35
          refine g_cmp_eq 39 43 (gd rfl) rfl rfl (fun c34x36 => ?_) (fun c34x36 => ?_)
          · skip
            refine g_iconst 0 44 (gd rfl) rfl rfl ?_
            refine g_ireturn (gd rfl) rfl (nb01 (in_w 0 1 (in_c 0 rfl) rfl)) (hp34 _ _ ?_)
            show GG _ _ _ _ _ _ _ _ [.int (Int32.ofInt 0)] _ _ _
            refine g_if_eq 40 104 (gd rfl) rfl rfl (fun c37 => ?_) (fun c37 => ?_)
            · skip
              refine g_iinc 107 (gd rfl) rfl rfl (Nat.le_of_ble_eq_true rfl) (fun z104 e104 => ?_)
              have i104 := in_add 1 160 e104 i29 (in_c 1 rfl) rfl rfl
              refine g_goto 25 (gd rfl) rfl ?_
              have n25 : BSF (sc25.1 138) u_109_20.toInt := by exact g25_0
              exact gg_w (by omega) (gg_f (gf_cons rfl (gf_cons rfl gf_nil)) (ih25 sc25 z104 hIc25 hFc25 (in_w 0 160 i104 rfl) n25 (m_up mm25 (t_add e104 i29 (in_c 1 rfl) rfl) (in_w 1 1 (in_c 1 rfl) rfl))))
            · skip
              exact zn_ne c37 (in_c 0 rfl) rfl
          · skip
            refine g_iconst 1 40 (gd rfl) rfl rfl ?_
            refine g_goto 44 (gd rfl) rfl ?_
            refine g_ireturn (gd rfl) rfl (nb01 (in_w 0 1 (in_c 1 rfl) rfl)) (hp34 _ _ ?_)
            show GG _ _ _ _ _ _ _ _ [.int (Int32.ofInt 1)] _ _ _
            refine g_if_eq 40 104 (gd rfl) rfl rfl (fun c37 => ?_) (fun c37 => ?_)
            · skip
              exact zn_eq c37 (in_c 1 rfl) rfl
            · skip
              refine g_aload_n 41 (gd rfl) rfl rfl ?_
              have hk := ke_n hIc25 (i := z34x9.toNatClampNeg) (by rw [← (show u_109_19 = sc25.2.2.1 109 19 from fr_F e_109_19 hFc25 rfl)]; show _ ≤ ((z34x9.toInt.toNat : Nat) : Int); have a0 := ro_109_20; unfold In at a0; have a1 := ro_109_19; unfold In at a1; have a2 := i29; unfold In at a2; have a3 := i34x34; unfold In at a3; have a4 := t_add e34x34 ro_109_19 i29 rfl; have a5 := i34x23; unfold In at a5; have a6 := t_add e34x23 ro_109_19 i29 rfl; have a7 := i34x9; unfold In at a7; have a8 := t_add e34x9 ro_109_19 i29 rfl; omega) (by rw [← (show u_109_19 = sc25.2.2.1 109 19 from fr_F e_109_19 hFc25 rfl)]; show ((z34x9.toInt.toNat : Nat) : Int) < _; have a0 := ro_109_20; unfold In at a0; have a1 := ro_109_19; unfold In at a1; have a2 := i29; unfold In at a2; have a3 := i34x34; unfold In at a3; have a4 := t_add e34x34 ro_109_19 i29 rfl; have a5 := i34x23; unfold In at a5; have a6 := t_add e34x23 ro_109_19 i29 rfl; have a7 := i34x9; unfold In at a7; have a8 := t_add e34x9 ro_109_19 i29 rfl; omega) (by rw [← e34x10]; exact c34x11); rw [hFc25.2.2.1 109 20 rfl, ← e_109_20] at hk
              refine g_getA (q2 := 138) 44 (gd rfl) rfl rfl rfl rfl ?_
              refine g_aload_n 45 (gd rfl) rfl rfl ?_
              refine g_getA (q2 := 113) 48 (gd rfl) rfl rfl rfl rfl ?_
              refine g_aload_n 49 (gd rfl) rfl rfl ?_
              refine g_getI 52 (gd rfl) rfl rfl rfl (fun z49 e49 => ?_)
              have q49 : u_109_19 = z49 := (fr_F e_109_19 hFc25 rfl).trans e49.symm
              subst q49
              refine g_iload_n 53 (gd rfl) rfl rfl ?_
              refine g_iadd 54 (gd rfl) rfl (fun z53 e53 => ?_)
              have i53 := in_add 0 319 e53 ro_109_19 i29 rfl rfl
              refine g_iaload 55 (gd rfl) rfl (n := 480) rfl (in_ix i53 rfl) (fun z54 e54 => ?_)
              have i54 := inv_I hIc25 (n := 480) (t := 0) 0 31 rfl (in_ix i53 rfl) rfl e54
              refine g_dup2 56 (gd rfl) rfl rfl rfl ?_
              refine g_iaload 57 (gd rfl) rfl (n := 32) rfl (in_ix i54 rfl) (fun z56 e56 => ?_)
              refine g_iconst 1 58 (gd rfl) rfl rfl ?_
              refine g_aload_n 59 (gd rfl) rfl rfl ?_
              refine g_getA (q2 := 114) 62 (gd rfl) rfl rfl rfl rfl ?_
              refine g_aload_n 63 (gd rfl) rfl rfl ?_
              refine g_getI 66 (gd rfl) rfl rfl rfl (fun z63 e63 => ?_)
              have q63 : u_109_19 = z63 := (fr_F e_109_19 hFc25 rfl).trans e63.symm
              subst q63
              refine g_iload_n 67 (gd rfl) rfl rfl ?_
              refine g_iadd 68 (gd rfl) rfl (fun z67 e67 => ?_)
              have i67 := in_add 0 319 e67 ro_109_19 i29 rfl rfl
              refine g_iaload 69 (gd rfl) rfl (n := 480) rfl (in_ix i67 rfl) (fun z68 e68 => ?_)
              have i68 := inv_I hIc25 (n := 480) (t := 0) 0 31 rfl (in_ix i67 rfl) rfl e68
              refine g_ishl 70 (gd rfl) rfl (fun z69 e69 => ?_)
              refine g_ior 71 (gd rfl) rfl (fun z70 e70 => ?_)
              refine g_iastore 72 (gd rfl) rfl (n := 32) rfl (in_ix i54 rfl) ?_
              have hI71 := inv_sI (q := 138) (j := z54.toNatClampNeg) hIc25 rfl (in_w (-2147483648) 2147483647 (i_rng z70) rfl)
              refine g_aload_n 73 (gd rfl) rfl rfl ?_
              refine g_getA (q2 := 138) 76 (gd rfl) rfl rfl rfl rfl ?_
              refine g_aload_n 77 (gd rfl) rfl rfl ?_
              refine g_getA (q2 := 114) 80 (gd rfl) rfl rfl rfl rfl ?_
              refine g_aload_n 81 (gd rfl) rfl rfl ?_
              refine g_getI 84 (gd rfl) rfl rfl rfl (fun z81 e81 => ?_)
              have q81 : u_109_19 = z81 := (sI_F (fr_F e_109_19 hFc25 rfl)).trans e81.symm
              subst q81
              refine g_iload_n 85 (gd rfl) rfl rfl ?_
              refine g_iadd 86 (gd rfl) rfl (fun z85 e85 => ?_)
              have i85 := in_add 0 319 e85 ro_109_19 i29 rfl rfl
              refine g_iaload 87 (gd rfl) rfl (n := 480) rfl (in_ix i85 rfl) (fun z86 e86 => ?_)
              have i86 := inv_I hI71 (n := 480) (t := 0) 0 31 rfl (in_ix i85 rfl) rfl e86
              refine g_dup2 88 (gd rfl) rfl rfl rfl ?_
              refine g_iaload 89 (gd rfl) rfl (n := 32) rfl (in_ix i86 rfl) (fun z88 e88 => ?_)
              refine g_iconst 1 90 (gd rfl) rfl rfl ?_
              refine g_aload_n 91 (gd rfl) rfl rfl ?_
              refine g_getA (q2 := 113) 94 (gd rfl) rfl rfl rfl rfl ?_
              refine g_aload_n 95 (gd rfl) rfl rfl ?_
              refine g_getI 98 (gd rfl) rfl rfl rfl (fun z95 e95 => ?_)
              have q95 : u_109_19 = z95 := (sI_F (fr_F e_109_19 hFc25 rfl)).trans e95.symm
              subst q95
              refine g_iload_n 99 (gd rfl) rfl rfl ?_
              refine g_iadd 100 (gd rfl) rfl (fun z99 e99 => ?_)
              have i99 := in_add 0 319 e99 ro_109_19 i29 rfl rfl
              refine g_iaload 101 (gd rfl) rfl (n := 480) rfl (in_ix i99 rfl) (fun z100 e100 => ?_)
              have i100 := inv_I hI71 (n := 480) (t := 0) 0 31 rfl (in_ix i99 rfl) rfl e100
              refine g_ishl 102 (gd rfl) rfl (fun z101 e101 => ?_)
              refine g_ior 103 (gd rfl) rfl (fun z102 e102 => ?_)
              refine g_iastore 104 (gd rfl) rfl (n := 32) rfl (in_ix i86 rfl) ?_
              have hI103 := inv_sI (q := 138) (j := z86.toNatClampNeg) hI71 rfl (in_w (-2147483648) 2147483647 (i_rng z102) rfl)
              refine g_iinc 107 (gd rfl) rfl rfl (Nat.le_of_ble_eq_true rfl) (fun z104 e104 => ?_)
              have i104 := in_add 1 160 e104 i29 (in_c 1 rfl) rfl rfl
              refine g_goto 25 (gd rfl) rfl ?_
              have n25 : BSF ((sI (sI sc25 138 z54.toNatClampNeg z70) 138 z86.toNatClampNeg z102).1 138) u_109_20.toInt := by (have q86 : z86 = z68 := (by rw [e86, sI_p rfl, e85.trans e67.symm]; exact e68.symm); have q100 : z100 = z54 := (by rw [e100, sI_p rfl, e99.trans e53.symm]; exact e54.symm); subst q86; subst q100; rw [sI_q, sI_q]; exact bsf_s g25_0 i54 i68 (by rw [e54, e53.trans e34x9.symm]; exact hk.1) (by rw [e68, e67.trans e34x9.symm]; exact hk.2) (by rw [e54, e68, e53.trans e34x23.symm, e67.trans e34x34.symm, ← e34x24, ← e34x35]; exact c34x36) e56 e69 e70 (by rw [e88, sI_q]) e101 e102)
              exact gg_w (by omega) (gg_f (gf_cons rfl (gf_cons rfl gf_nil)) (ih25 (sI (sI sc25 138 z54.toNatClampNeg z70) 138 z86.toNatClampNeg z102) z104 hI103 (fr_sI rfl (fr_sI rfl hFc25)) (in_w 0 160 i104 rfl) n25 (m_up mm25 (t_add e104 i29 (in_c 1 rfl) rfl) (in_w 1 1 (in_c 1 rfl) rfl))))
  have ct2 : ∀ (k2 : Nat) (sc2 : GS) (y2_1 : Int32), Inv sc2 → Fr fm_335 s sc2 → (In y2_1 0 32) → (∀ k : Nat, (k : Int) < (y2_1).toInt → sc2.1 138 k = Int32.ofInt 0) → 32 - (y2_1).toInt < (k2 : Int) → GG Z (d - 1) 335 post (gx xp) (144902 + k2 * 900) 2 (fun j => xlook j [(0, .ref (A 109)), (1, .int y2_1)]) [] (WW Z A sc2 ++ ex) 0 0 := by
    intro k2
    induction k2 with
    | zero => intro sc2 y2_1 hIc2 hFc2 j2_1 g2_0 mm2; exact m_no mm2 j2_1 rfl
    | succ k2 ih2 =>
      intro sc2 y2_1 hIc2 hFc2 j2_1 g2_0 mm2
      refine gg_w (M := 144902 + k2 * 900 + 900) (by omega) ?_
      refine g_iload_n 3 (gd rfl) rfl rfl ?_
      refine g_aload_n 4 (gd rfl) rfl rfl ?_
      refine g_getI 7 (gd rfl) rfl rfl rfl (fun z4 e4 => ?_)
      have q4 : u_109_20 = z4 := (fr_F e_109_20 hFc2 rfl).trans e4.symm
      subst q4
      refine g_cmp_ge 10 23 (gd rfl) rfl rfl (fun c7 => ?_) (fun c7 => ?_)
      · skip
        refine g_iconst 0 24 (gd rfl) rfl rfl ?_
        refine g_istore_n 25 (gd rfl) rfl (Nat.le_of_ble_eq_true rfl) ?_
        have n25 : BSF (sc2.1 138) u_109_20.toInt := by (intro a b ha hb; exfalso; rw [g2_0 a (by have a0 := ro_109_20; unfold In at a0; have a1 := ro_109_19; unfold In at a1; have a2 := j2_1; unfold In at a2; have a3 := (in_c 0 rfl); unfold In at a3; omega), show (Int32.ofInt 0) = (0 : Int32) from rfl, bt_z] at hb; cases hb)
        exact gg_w (by omega) (gg_f (gf_cons rfl (gf_cons rfl gf_nil)) (ct25 161 sc2 (Int32.ofInt 0) hIc2 hFc2 (in_w 0 160 (in_c 0 rfl) rfl) n25 (m_in 161 (in_w 0 160 (in_c 0 rfl) rfl) rfl)))
      · skip
        have i7 := r_lt1 0 31 c7 j2_1 ro_109_20 rfl
        have i7a := r_lt2 1 32 c7 j2_1 ro_109_20 rfl
        refine g_aload_n 11 (gd rfl) rfl rfl ?_
        refine g_getA (q2 := 138) 14 (gd rfl) rfl rfl rfl rfl ?_
        refine g_iload_n 15 (gd rfl) rfl rfl ?_
        refine g_iconst 0 16 (gd rfl) rfl rfl ?_
        refine g_iastore 17 (gd rfl) rfl (n := 32) rfl (in_ix i7 rfl) ?_
        have hI16 := inv_sI (q := 138) (j := y2_1.toNatClampNeg) hIc2 rfl (in_w (-2147483648) 2147483647 (in_c 0 rfl) rfl)
        refine g_iinc 20 (gd rfl) rfl rfl (Nat.le_of_ble_eq_true rfl) (fun z17 e17 => ?_)
        have i17 := in_add 1 32 e17 i7 (in_c 1 rfl) rfl rfl
        refine g_goto 2 (gd rfl) rfl ?_
        have n2 : ∀ k : Nat, (k : Int) < (z17).toInt → (sI sc2 138 y2_1.toNatClampNeg (Int32.ofInt 0)).1 138 k = Int32.ofInt 0 := by (intro k hk; rw [sI_q]; have e1 : y2_1.toNatClampNeg = y2_1.toInt.toNat := rfl; by_cases c : k = y2_1.toNatClampNeg; (rw [c, up_e]); (rw [up_n c]; exact g2_0 k (by have a0 := i7a; unfold In at a0; have a1 := ro_109_19; unfold In at a1; have a2 := i7; unfold In at a2; have a3 := i17; unfold In at a3; have a4 := t_add e17 i7 (in_c 1 rfl) rfl; have a5 := (in_c 1 rfl); unfold In at a5; omega)))
        exact gg_w (by omega) (gg_f (gf_cons rfl (gf_cons rfl gf_nil)) (ih2 (sI sc2 138 y2_1.toNatClampNeg (Int32.ofInt 0)) z17 hI16 (fr_sI rfl hFc2) (in_w 0 32 i17 rfl) n2 (m_up mm2 (t_add e17 i7 (in_c 1 rfl) rfl) (in_w 1 1 (in_c 1 rfl) rfl))))
  refine g_enter2 (k := 335) (N := 175502) (by omega) rfl (Nat.le_of_ble_eq_true rfl) ?_
  refine g_iconst 0 1 (gd rfl) rfl rfl ?_
  refine g_istore_n 2 (gd rfl) rfl (Nat.le_of_ble_eq_true rfl) ?_
  have n2 : ∀ k : Nat, (k : Int) < ((Int32.ofInt 0)).toInt → s.1 138 k = Int32.ofInt 0 := by (intro k hk; exfalso; have h0 : (Int32.ofInt 0).toInt = 0 := rfl; omega)
  exact gg_w (by omega) (gg_f (gf_cons rfl (gf_cons rfl gf_nil)) (ct2 33 s (Int32.ofInt 0) hI fr_rf (in_w 0 32 (in_c 0 rfl) rfl) n2 (m_in 33 (in_w 0 32 (in_c 0 rfl) rfl) rfl)))

/-- GraphHouseModel.hanging -/
theorem k_342 {Z : AmZ} {A : Nat → Nat} {s : GS} {ex : va_W} {d : Nat} {X : AmX} {x1 : Int32} {x2 : Int32} (hd : 3 ≤ d) (hI : Inv s) (h1 : In x1 0 31) : GC Z d 342 [.ref (A 109), .int x1, .int x2] (WW Z A s ++ ex) 0 0 (fun v u => ∃ z : Int32, v = some (.int z) ∧ u = WW Z A s ++ ex ∧ In z (-2147483648) 2147483647 ∧ (bt z (x1).toNatClampNeg = true) ∧ (HNG s (x2) (z)) ∧ (∀ u : Nat, bt (z) u = true → u = (x1).toNatClampNeg ∨ bt (x2) u = true)) X := by
  intro post xp hP hX
  obtain ⟨u_109_20, e_109_20⟩ : ∃ w, w = s.2.2.1 109 20 := ⟨_, rfl⟩
  have ro_109_20 := inv_F hI 0 32 rfl e_109_20
  have ct7 : ∀ (k7 : Nat) (y7_3 : Int32) (y7_4 : Int32), (bt y7_3 (x1).toNatClampNeg = true) → (∀ u w : Nat, (u : Int) < (s.2.2.1 109 20).toInt → bt (y7_4) u = true → bt (s.1 138 u) w = true → bt (x2) w = true → bt (y7_3) w = true) → (∀ u : Nat, bt (y7_3) u = true → u = (x1).toNatClampNeg ∨ bt (x2) u = true) → 2 * (32 - cb y7_3) + (if y7_3 = y7_4 then 0 else 1) < k7 → GG Z (d - 1) 342 post (gx xp) (1 + k7 * 32401) 7 (fun j => xlook j [(0, .ref (A 109)), (1, .int x1), (2, .int x2), (3, .int y7_3), (4, .int y7_4)]) [] (WW Z A s ++ ex) 0 0 := by
    intro k7
    induction k7 with
    | zero => intro y7_3 y7_4 g7_0 g7_1 g7_2 mm7; exact absurd mm7 (Nat.not_lt_zero _)
    | succ k7 ih7 =>
      intro y7_3 y7_4 g7_0 g7_1 g7_2 mm7
      refine gg_w (M := 1 + k7 * 32401 + 32401) (by omega) ?_
      have ct19 : ∀ (k19 : Nat) (y19_3 : Int32) (y19_4 : Int32) (y19_5 : Int32), (In y19_5 0 32) → (bt y19_3 (x1).toNatClampNeg = true) → (∀ k, bt y19_4 k = true → bt y19_3 k = true) → (2 * (32 - cb y19_4) < k7) → (∀ u w : Nat, (u : Int) < (y19_5).toInt → bt (y19_4) u = true → bt (s.1 138 u) w = true → bt (x2) w = true → bt (y19_3) w = true) → (∀ u : Nat, bt (y19_3) u = true → u = (x1).toNatClampNeg ∨ bt (x2) u = true) → 32 - (y19_5).toInt < (k19 : Int) → GG Z (d - 1) 342 post (gx xp) (1 + k7 * 32401 + 1 + k19 * 900) 19 (fun j => xlook j [(0, .ref (A 109)), (1, .int x1), (2, .int x2), (3, .int y19_3), (4, .int y19_4), (5, .int y19_5)]) [] (WW Z A s ++ ex) 0 0 := by
        intro k19
        induction k19 with
        | zero => intro y19_3 y19_4 y19_5 j19_5 g19_0 g19_1 g19_2 g19_3 g19_4 mm19; exact m_no mm19 j19_5 rfl
        | succ k19 ih19 =>
          intro y19_3 y19_4 y19_5 j19_5 g19_0 g19_1 g19_2 g19_3 g19_4 mm19
          refine gg_w (M := 1 + k7 * 32401 + 1 + k19 * 900 + 900) (by omega) ?_
          refine g_iload 21 (gd rfl) rfl rfl ?_
          refine g_aload_n 22 (gd rfl) rfl rfl ?_
          refine g_getI 25 (gd rfl) rfl rfl rfl (fun z22 e22 => ?_)
          have q22 : u_109_20 = z22 := (e_109_20).trans e22.symm
          subst q22
          refine g_cmp_ge 28 60 (gd rfl) rfl rfl (fun c25 => ?_) (fun c25 => ?_)
          · skip
            refine g_goto 7 (gd rfl) rfl ?_
            have n7 : bt y19_3 (x1).toNatClampNeg = true := by first | exact g7_0 | exact g19_0 | (rw [bt_one e2 h1]; simp)
            have n7a : ∀ u w : Nat, (u : Int) < (s.2.2.1 109 20).toInt → bt (y19_4) u = true → bt (s.1 138 u) w = true → bt (x2) w = true → bt (y19_3) w = true := by exact fun u w hu => g19_3 u w (by rw [← e_109_20] at hu; have a0 := h1; unfold In at a0; have a1 := ro_109_20; unfold In at a1; have a2 := j19_5; unfold In at a2; omega)
            have n7b : ∀ u : Nat, bt (y19_3) u = true → u = (x1).toNatClampNeg ∨ bt (x2) u = true := by exact g19_4
            have m7 : 2 * (32 - cb y19_3) + (if y19_3 = y19_4 then 0 else 1) < k7 := by by_cases hq : y19_3 = y19_4; (rw [if_pos hq, hq]; exact g19_2); (rw [if_neg hq]; have h := cb_ss g19_1 (fun w => hq w.symm); have h2 := cb_le y19_3; omega)
            exact gg_w (by omega) (gg_f (gf_cons rfl (gf_cons rfl (gf_cons rfl (gf_cons rfl (gf_cons rfl gf_nil))))) (ih7   y19_3 y19_4  n7 n7a n7b m7))
          · skip
            have i25 := r_lt1 0 31 c25 j19_5 ro_109_20 rfl
            have i25a := r_lt2 1 32 c25 j19_5 ro_109_20 rfl
            refine g_iload_n 29 (gd rfl) rfl rfl ?_
            refine g_iload 31 (gd rfl) rfl rfl ?_
            refine g_iload 33 (gd rfl) rfl rfl ?_
            refine g_calls (As := [.int y19_4, .int y19_5]) (r := [.int y19_3]) 36 (gd rfl) rfl rfl rfl rfl rfl (Nat.le_of_ble_eq_true rfl) (mc := 0) (ms := 0) (Nat.zero_le _) (Nat.zero_le _) (P := fun v u => _) ?_ (fun v u h => h)
            intro po33 xx33 hp33 hx33
            refine g_enter2 (k := 311) (N := 300) (by omega) rfl (Nat.le_of_ble_eq_true rfl) ?_
            refine g_iload_n 1 (gd rfl) rfl rfl ?_
            refine g_iload_n 2 (gd rfl) rfl rfl ?_
            refine g_ishr 3 (gd rfl) rfl (fun z33x2 e33x2 => ?_)
            refine g_iconst 1 4 (gd rfl) rfl rfl ?_
            refine g_iand 5 (gd rfl) rfl (fun z33x4 e33x4 => ?_)
            have i33x4 := in_and2 e33x4 (in_c 1 rfl) rfl
            refine g_iconst 1 6 (gd rfl) rfl rfl ?_
            refine g_cmp_ne 9 13 (gd rfl) rfl rfl (fun c33x6 => ?_) (fun c33x6 => ?_)
            · skip
              have i33x6 := r_ne1 0 0 c33x6 i33x4 (in_c 1 rfl) rfl
              refine g_iconst 0 14 (gd rfl) rfl rfl ?_
              refine g_ireturn (gd rfl) rfl (nb01 (in_w 0 1 (in_c 0 rfl) rfl)) (hp33 _ _ ?_)
              show GG _ _ _ _ _ _ _ _ [.int (Int32.ofInt 0), .int y19_3] _ _ _
              refine g_if_eq 39 51 (gd rfl) rfl rfl (fun c36 => ?_) (fun c36 => ?_)
              · skip
                refine g_iconst 0 52 (gd rfl) rfl rfl ?_
                refine g_ior 53 (gd rfl) rfl (fun z52 e52 => ?_)
                refine g_istore_n 54 (gd rfl) rfl (Nat.le_of_ble_eq_true rfl) ?_
                refine g_iinc 57 (gd rfl) rfl rfl (Nat.le_of_ble_eq_true rfl) (fun z54 e54 => ?_)
                have i54 := in_add 1 32 e54 i25 (in_c 1 rfl) rfl rfl
                refine g_goto 19 (gd rfl) rfl ?_
                have n19 : bt z52 (x1).toNatClampNeg = true := by first | exact g7_0 | (rw [bt_or e52, g19_0]; rfl)
                have n19a : ∀ k, bt y19_4 k = true → bt z52 k = true := by first | exact fun k h => h | exact fun k h => by rw [bt_or e52, g19_1 k h]; rfl
                have n19b : 2 * (32 - cb y19_4) < k7 := by first | exact g19_2 | (have hm := mm7; rw [if_neg (fun w => c10 (by rw [w]))] at hm; omega)
                have n19c : ∀ u w : Nat, (u : Int) < (z54).toInt → bt (y19_4) u = true → bt (s.1 138 u) w = true → bt (x2) w = true → bt (z52) w = true := by (intro u w hu h1 h2 h3; by_cases c : u = y19_5.toNatClampNeg; (exfalso; have hb := bt_no e33x2 e33x4 i25 c33x6; rw [c, hb] at h1; cases h1); (rw [bt_or e52, g19_3 u w (by have e5 : y19_5.toNatClampNeg = y19_5.toInt.toNat := rfl; have a0 := h1; unfold In at a0; have a1 := i25a; unfold In at a1; have a2 := i25; unfold In at a2; have a3 := i54; unfold In at a3; have a4 := t_add e54 i25 (in_c 1 rfl) rfl; have a5 := (in_c 1 rfl); unfold In at a5; omega) h1 h2 h3]; rfl))
                have n19d : ∀ u : Nat, bt (z52) u = true → u = (x1).toNatClampNeg ∨ bt (x2) u = true := by (intro u h; rw [bt_or e52] at h; rcases (Bool.or_eq_true _ _).mp h with h | h; (exact g19_4 u h); (rw [show (Int32.ofInt 0) = (0 : Int32) from rfl, bt_z] at h; cases h))
                exact gg_w (by omega) (gg_f (gf_cons rfl (gf_cons rfl (gf_cons rfl (gf_cons rfl (gf_cons rfl (gf_cons rfl gf_nil)))))) (ih19  z52 y19_4 z54  (in_w 0 32 i54 rfl) n19 n19a n19b n19c n19d (m_up mm19 (t_add e54 i25 (in_c 1 rfl) rfl) (in_w 1 1 (in_c 1 rfl) rfl))))
              · skip
                exact zn_ne c36 (in_c 0 rfl) rfl
            · skip
              have i33x6 := r_eq1 1 1 c33x6 i33x4 (in_c 1 rfl) rfl
              refine g_iconst 1 10 (gd rfl) rfl rfl ?_
              refine g_goto 14 (gd rfl) rfl ?_
              refine g_ireturn (gd rfl) rfl (nb01 (in_w 0 1 (in_c 1 rfl) rfl)) (hp33 _ _ ?_)
              show GG _ _ _ _ _ _ _ _ [.int (Int32.ofInt 1), .int y19_3] _ _ _
              refine g_if_eq 39 51 (gd rfl) rfl rfl (fun c36 => ?_) (fun c36 => ?_)
              · skip
                exact zn_eq c36 (in_c 1 rfl) rfl
              · skip
                refine g_aload_n 40 (gd rfl) rfl rfl ?_
                refine g_getA (q2 := 138) 43 (gd rfl) rfl rfl rfl rfl ?_
                refine g_iload 45 (gd rfl) rfl rfl ?_
                refine g_iaload 46 (gd rfl) rfl (n := 32) rfl (in_ix i25 rfl) (fun z45 e45 => ?_)
                refine g_iload_n 47 (gd rfl) rfl rfl ?_
                refine g_iand 48 (gd rfl) rfl (fun z47 e47 => ?_)
                refine g_goto 52 (gd rfl) rfl ?_
                refine g_ior 53 (gd rfl) rfl (fun z52 e52 => ?_)
                refine g_istore_n 54 (gd rfl) rfl (Nat.le_of_ble_eq_true rfl) ?_
                refine g_iinc 57 (gd rfl) rfl rfl (Nat.le_of_ble_eq_true rfl) (fun z54 e54 => ?_)
                have i54 := in_add 1 32 e54 i25 (in_c 1 rfl) rfl rfl
                refine g_goto 19 (gd rfl) rfl ?_
                have n19 : bt z52 (x1).toNatClampNeg = true := by first | exact g7_0 | (rw [bt_or e52, g19_0]; rfl)
                have n19a : ∀ k, bt y19_4 k = true → bt z52 k = true := by first | exact fun k h => h | exact fun k h => by rw [bt_or e52, g19_1 k h]; rfl
                have n19b : 2 * (32 - cb y19_4) < k7 := by first | exact g19_2 | (have hm := mm7; rw [if_neg (fun w => c10 (by rw [w]))] at hm; omega)
                have n19c : ∀ u w : Nat, (u : Int) < (z54).toInt → bt (y19_4) u = true → bt (s.1 138 u) w = true → bt (x2) w = true → bt (z52) w = true := by (intro u w hu h1 h2 h3; by_cases c : u = y19_5.toNatClampNeg; (rw [c, ← e45] at h2; rw [bt_or e52, bt_and e47, h2, h3]; cases bt y19_3 w <;> rfl); (rw [bt_or e52, g19_3 u w (by have e5 : y19_5.toNatClampNeg = y19_5.toInt.toNat := rfl; have a0 := h1; unfold In at a0; have a1 := i25a; unfold In at a1; have a2 := i25; unfold In at a2; have a3 := i54; unfold In at a3; have a4 := t_add e54 i25 (in_c 1 rfl) rfl; have a5 := (in_c 1 rfl); unfold In at a5; omega) h1 h2 h3]; rfl))
                have n19d : ∀ u : Nat, bt (z52) u = true → u = (x1).toNatClampNeg ∨ bt (x2) u = true := by (intro u h; rw [bt_or e52] at h; rcases (Bool.or_eq_true _ _).mp h with h | h; (exact g19_4 u h); (rw [bt_and e47] at h; exact Or.inr ((Bool.and_eq_true _ _).mp h).2))
                exact gg_w (by omega) (gg_f (gf_cons rfl (gf_cons rfl (gf_cons rfl (gf_cons rfl (gf_cons rfl (gf_cons rfl gf_nil)))))) (ih19  z52 y19_4 z54  (in_w 0 32 i54 rfl) n19 n19a n19b n19c n19d (m_up mm19 (t_add e54 i25 (in_c 1 rfl) rfl) (in_w 1 1 (in_c 1 rfl) rfl))))
      refine g_iload_n 8 (gd rfl) rfl rfl ?_
      refine g_iload 10 (gd rfl) rfl rfl ?_
      refine g_cmp_eq 13 63 (gd rfl) rfl rfl (fun c10 => ?_) (fun c10 => ?_)
      · skip
        refine g_iload_n 64 (gd rfl) rfl rfl ?_
        have n64 : bt y7_3 (x1).toNatClampNeg = true := by exact g7_0
        have n64a : HNG s (x2) (y7_3) := by exact fun u w hu hb1 hb2 hb3 => g7_1 u w hu (by rw [← Int32.toInt_inj.mp c10]; exact hb1) hb2 hb3
        have n64b : ∀ u : Nat, bt (y7_3) u = true → u = (x1).toNatClampNeg ∨ bt (x2) u = true := by exact g7_2
        exact g_ireturn (gd rfl) rfl rfl (hP _ _ ⟨y7_3, rfl, rfl, in_w (-2147483648) 2147483647 (i_rng y7_3) rfl, n64, n64a, n64b⟩)
      · skip
        refine g_iload_n 14 (gd rfl) rfl rfl ?_
        refine g_istore 16 (gd rfl) rfl (Nat.le_of_ble_eq_true rfl) ?_
        refine g_iconst 0 17 (gd rfl) rfl rfl ?_
        refine g_istore 19 (gd rfl) rfl (Nat.le_of_ble_eq_true rfl) ?_
        have n19 : bt y7_3 (x1).toNatClampNeg = true := by first | exact g7_0 | (rw [bt_or e52, g19_0]; rfl)
        have n19a : ∀ k, bt y7_3 k = true → bt y7_3 k = true := by first | exact fun k h => h | exact fun k h => by rw [bt_or e52, g19_1 k h]; rfl
        have n19b : 2 * (32 - cb y7_3) < k7 := by first | exact g19_2 | (have hm := mm7; rw [if_neg (fun w => c10 (by rw [w]))] at hm; omega)
        have n19c : ∀ u w : Nat, (u : Int) < ((Int32.ofInt 0)).toInt → bt (y7_3) u = true → bt (s.1 138 u) w = true → bt (x2) w = true → bt (y7_3) w = true := by (intro u w hu; exfalso; have h0 : (Int32.ofInt 0).toInt = 0 := rfl; omega)
        have n19d : ∀ u : Nat, bt (y7_3) u = true → u = (x1).toNatClampNeg ∨ bt (x2) u = true := by exact g7_2
        exact gg_w (by omega) (gg_f (gf_cons rfl (gf_cons rfl (gf_cons rfl (gf_cons rfl (gf_cons rfl (gf_cons rfl gf_nil)))))) (ct19 33  y7_3 y7_3 (Int32.ofInt 0)  (in_w 0 32 (in_c 0 rfl) rfl) n19 n19a n19b n19c n19d (m_in 33 (in_w 0 32 (in_c 0 rfl) rfl) rfl)))
  refine g_enter2 (k := 342) (N := 3241001) (by omega) rfl (Nat.le_of_ble_eq_true rfl) ?_
  refine g_iconst 1 1 (gd rfl) rfl rfl ?_
  refine g_iload_n 2 (gd rfl) rfl rfl ?_
  refine g_ishl 3 (gd rfl) rfl (fun z2 e2 => ?_)
  refine g_istore_n 4 (gd rfl) rfl (Nat.le_of_ble_eq_true rfl) ?_
  refine g_iconst 0 5 (gd rfl) rfl rfl ?_
  refine g_istore 7 (gd rfl) rfl (Nat.le_of_ble_eq_true rfl) ?_
  have n7 : bt z2 (x1).toNatClampNeg = true := by first | exact g7_0 | exact g19_0 | (rw [bt_one e2 h1]; simp)
  have n7a : ∀ u w : Nat, (u : Int) < (s.2.2.1 109 20).toInt → bt ((Int32.ofInt 0)) u = true → bt (s.1 138 u) w = true → bt (x2) w = true → bt (z2) w = true := by (intro u w hu h1; exfalso; rw [show (Int32.ofInt 0) = (0 : Int32) from rfl, bt_z] at h1; cases h1)
  have n7b : ∀ u : Nat, bt (z2) u = true → u = (x1).toNatClampNeg ∨ bt (x2) u = true := by (intro u h; rw [bt_one e2 h1] at h; exact Or.inl (of_decide_eq_true h))
  have m7 : 2 * (32 - cb z2) + (if z2 = (Int32.ofInt 0) then 0 else 1) < 100 := by split <;> omega
  exact gg_w (by omega) (gg_f (gf_cons rfl (gf_cons rfl (gf_cons rfl (gf_cons rfl (gf_cons rfl gf_nil))))) (ct7 (100)  z2 (Int32.ofInt 0)  n7 n7a n7b m7))
