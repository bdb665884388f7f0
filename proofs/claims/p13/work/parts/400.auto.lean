/-! methods, by vc.py -/
def fm_181_76_2 : FM := ([77, 78], [79], [(76, 0)], [])
/-- GraphHouse$Trees.copyArcs -/
theorem k_181_76_2 {Z : AmZ} {A : Nat → Nat} {s : GS} {ex : va_W} {d : Nat} {X : AmX}  (hd : 3 ≤ d) (hI : Inv s) (q_0 : KN (s.1 4) (s.1 5) (s.2.2.1 2 1)) : GC Z d 181 [.ref (A 76), .ref (A 2)] (WW Z A s ++ ex) 0 0 (fun v u => ∃ t : GS, Inv t ∧ Fr fm_181_76_2 s t ∧ v = none ∧ u = WW Z A t ++ ex ∧ (AE t (s.2.2.1 2 1).toInt)) X := by
  intro post xp hP hX
  obtain ⟨u_2_3, e_2_3⟩ : ∃ w, w = s.2.2.1 2 3 := ⟨_, rfl⟩
  have ro_2_3 := inv_F hI 0 160 rfl e_2_3
  have ct7 : ∀ (k7 : Nat) (sc7 : GS) (y7_2 : Int32) (w7_76_0 : Int32), Inv sc7 → Fr fm_181_76_2 s sc7 → (In y7_2 0 160) → (w7_76_0 = sc7.2.2.1 76 0) → ((w7_76_0).toInt ≤ (y7_2).toInt) → (AE sc7 (s.2.2.1 2 1).toInt) → 160 - (y7_2).toInt < (k7 : Int) → GG Z (d - 1) 181 post (gx xp) (1 + k7 * 900) 7 (fun j => xlook j [(0, .ref (A 76)), (1, .ref (A 2)), (2, .int y7_2)]) [] (WW Z A sc7 ++ ex) 0 0 := by
    intro k7
    induction k7 with
    | zero => intro sc7 y7_2 w7_76_0 hIc7 hFc7 j7_2 v7_76_0 n7_0 g7_0 mm7; exact m_no mm7 j7_2 rfl
    | succ k7 ih7 =>
      intro sc7 y7_2 w7_76_0 hIc7 hFc7 j7_2 v7_76_0 n7_0 g7_0 mm7
      refine gg_w (M := 1 + k7 * 900 + 900) (by omega) ?_
      refine g_iload_n 8 (gd rfl) rfl rfl ?_
      refine g_aload_n 9 (gd rfl) rfl rfl ?_
      refine g_getI 12 (gd rfl) rfl rfl rfl (fun z9 e9 => ?_)
      have q9 : u_2_3 = z9 := (fr_F e_2_3 hFc7 rfl).trans e9.symm
      subst q9
      refine g_cmp_ge 15 85 (gd rfl) rfl rfl (fun c12 => ?_) (fun c12 => ?_)
      · skip
        have n85 : AE sc7 (s.2.2.1 2 1).toInt := by exact g7_0
        exact g_return (gd rfl) rfl (hP _ _ ⟨sc7, hIc7, hFc7, rfl, rfl, n85⟩)
      · skip
        have i12 := r_lt1 0 159 c12 j7_2 ro_2_3 rfl
        have i12a := r_lt2 1 160 c12 j7_2 ro_2_3 rfl
        refine g_aload_n 16 (gd rfl) rfl rfl ?_
        refine g_iload_n 17 (gd rfl) rfl rfl ?_
        refine g_callv (X := _) (As := [.int y7_2]) (r := []) (b := A 2) (q := 2) 20 (gd rfl) rfl rfl rfl rfl rfl (ww_o rfl) (Nat.le_of_ble_eq_true rfl) (mc := 0) (ms := 0) (Nat.zero_le _) (Nat.zero_le _) (P := fun v u => _) ?_ (fun e u h => h) (fun v u h => h)
        intro po17 xx17 hp17 hx17
        refine g_enter2 (k := 97) (N := 300) (by omega) rfl (Nat.le_of_ble_eq_true rfl) ?_
        refine g_aload_n 1 (gd rfl) rfl rfl ?_
        refine g_getA (q2 := 4) 4 (gd rfl) rfl rfl rfl rfl ?_
        refine g_iload_n 5 (gd rfl) rfl rfl ?_
        refine g_iaload 6 (gd rfl) rfl (n := 160) rfl (in_ix i12 rfl) (fun z17x5 e17x5 => ?_)
        have i17x5 := inv_I hIc7 (n := 160) (t := 0) (-1) 31 rfl (in_ix i12 rfl) rfl e17x5
        refine g_iconst (-1) 7 (gd rfl) rfl rfl ?_
        refine g_cmp_eq 10 29 (gd rfl) rfl rfl (fun c17x7 => ?_) (fun c17x7 => ?_)
        · skip
          have i17x7 := r_eq1 (-1) (-1) c17x7 i17x5 (in_c (-1) rfl) rfl
          refine g_iconst 0 30 (gd rfl) rfl rfl ?_
          refine g_ireturn (gd rfl) rfl (nb01 (in_w 0 1 (in_c 0 rfl) rfl)) (hp17 _ _ ?_)
          show GG _ _ _ _ _ _ _ _ [.int (Int32.ofInt 0)] _ _ _
          refine g_if_eq 23 79 (gd rfl) rfl rfl (fun c20 => ?_) (fun c20 => ?_)
          · skip
            refine g_iinc 82 (gd rfl) rfl rfl (Nat.le_of_ble_eq_true rfl) (fun z79 e79 => ?_)
            have i79 := in_add 1 160 e79 i12 (in_c 1 rfl) rfl rfl
            refine g_goto 7 (gd rfl) rfl ?_
            have n7 : (w7_76_0).toInt ≤ (z79).toInt := by have a0 := i12a; unfold In at a0; have a1 := (inv_F hIc7 0 160 rfl v7_76_0); unfold In at a1; have a2 := i12; unfold In at a2; have a3 := i79; unfold In at a3; have a4 := t_add e79 i12 (in_c 1 rfl) rfl; have a5 := (in_c 1 rfl); unfold In at a5; omega
            have n7a : AE sc7 (s.2.2.1 2 1).toInt := by exact g7_0
            exact gg_w (by omega) (gg_f (gf_cons rfl (gf_cons rfl (gf_cons rfl gf_nil))) (ih7 sc7 z79 w7_76_0 hIc7 hFc7 (in_w 0 160 i79 rfl) v7_76_0 n7 n7a (m_up mm7 (t_add e79 i12 (in_c 1 rfl) rfl) (in_w 1 1 (in_c 1 rfl) rfl))))
          · skip
            exact zn_ne c20 (in_c 0 rfl) rfl
        · skip
          have i17x7 := r_ne1 0 31 c17x7 i17x5 (in_c (-1) rfl) rfl
          refine g_aload_n 11 (gd rfl) rfl rfl ?_
          refine g_getA (q2 := 4) 14 (gd rfl) rfl rfl rfl rfl ?_
          refine g_iload_n 15 (gd rfl) rfl rfl ?_
          refine g_iaload 16 (gd rfl) rfl (n := 160) rfl (in_ix i12 rfl) (fun z17x15 e17x15 => ?_)
          have q17x15 : z17x5 = z17x15 := (e17x5).trans e17x15.symm
          subst q17x15
          refine g_aload_n 17 (gd rfl) rfl rfl ?_
          refine g_getA (q2 := 5) 20 (gd rfl) rfl rfl rfl rfl ?_
          refine g_iload_n 21 (gd rfl) rfl rfl ?_
          refine g_iaload 22 (gd rfl) rfl (n := 160) rfl (in_ix i12 rfl) (fun z17x21 e17x21 => ?_)
          have i17x21 := inv_I hIc7 (n := 160) (t := 0) 0 31 rfl (in_ix i12 rfl) rfl e17x21
          refine g_cmp_eq 25 29 (gd rfl) rfl rfl (fun c17x22 => ?_) (fun c17x22 => ?_)
          · skip
            refine g_iconst 0 30 (gd rfl) rfl rfl ?_
            refine g_ireturn (gd rfl) rfl (nb01 (in_w 0 1 (in_c 0 rfl) rfl)) (hp17 _ _ ?_)
            show GG _ _ _ _ _ _ _ _ [.int (Int32.ofInt 0)] _ _ _
            refine g_if_eq 23 79 (gd rfl) rfl rfl (fun c20 => ?_) (fun c20 => ?_)
            · skip
              refine g_iinc 82 (gd rfl) rfl rfl (Nat.le_of_ble_eq_true rfl) (fun z79 e79 => ?_)
              have i79 := in_add 1 160 e79 i12 (in_c 1 rfl) rfl rfl
              refine g_goto 7 (gd rfl) rfl ?_
              have n7 : (w7_76_0).toInt ≤ (z79).toInt := by have a0 := i12a; unfold In at a0; have a1 := (inv_F hIc7 0 160 rfl v7_76_0); unfold In at a1; have a2 := i12; unfold In at a2; have a3 := i79; unfold In at a3; have a4 := t_add e79 i12 (in_c 1 rfl) rfl; have a5 := (in_c 1 rfl); unfold In at a5; omega
              have n7a : AE sc7 (s.2.2.1 2 1).toInt := by exact g7_0
              exact gg_w (by omega) (gg_f (gf_cons rfl (gf_cons rfl (gf_cons rfl gf_nil))) (ih7 sc7 z79 w7_76_0 hIc7 hFc7 (in_w 0 160 i79 rfl) v7_76_0 n7 n7a (m_up mm7 (t_add e79 i12 (in_c 1 rfl) rfl) (in_w 1 1 (in_c 1 rfl) rfl))))
            · skip
              exact zn_ne c20 (in_c 0 rfl) rfl
          · skip
            refine g_iconst 1 26 (gd rfl) rfl rfl ?_
            refine g_goto 30 (gd rfl) rfl ?_
            refine g_ireturn (gd rfl) rfl (nb01 (in_w 0 1 (in_c 1 rfl) rfl)) (hp17 _ _ ?_)
            show GG _ _ _ _ _ _ _ _ [.int (Int32.ofInt 1)] _ _ _
            refine g_if_eq 23 79 (gd rfl) rfl rfl (fun c20 => ?_) (fun c20 => ?_)
            · skip
              exact zn_eq c20 (in_c 1 rfl) rfl
            · skip
              refine g_aload_n 24 (gd rfl) rfl rfl ?_
              refine g_getA (q2 := 77) 27 (gd rfl) rfl rfl rfl rfl ?_
              refine g_aload_n 28 (gd rfl) rfl rfl ?_
              refine g_getI 31 (gd rfl) rfl rfl rfl (fun z28 e28 => ?_)
              have q28 : w7_76_0 = z28 := (v7_76_0).trans e28.symm
              subst q28
              refine g_aload_n 32 (gd rfl) rfl rfl ?_
              refine g_getA (q2 := 4) 35 (gd rfl) rfl rfl rfl rfl ?_
              refine g_iload_n 36 (gd rfl) rfl rfl ?_
              refine g_iaload 37 (gd rfl) rfl (n := 160) rfl (in_ix i12 rfl) (fun z36 e36 => ?_)
              have q36 : z17x5 = z36 := (e17x5).trans e36.symm
              subst q36
              have i37 : In w7_76_0 0 159 := by have a0 := i12a; unfold In at a0; have a1 := (inv_F hIc7 0 160 rfl v7_76_0); unfold In at a1; have a2 := i12; unfold In at a2; exact ⟨by omega, by omega⟩
              refine g_iastore 38 (gd rfl) rfl (n := 160) rfl (in_ix i37 rfl) ?_
              have hI37 := inv_sI (q := 77) (j := w7_76_0.toNatClampNeg) hIc7 rfl (in_w 0 31 i17x7 rfl)
              refine g_aload_n 39 (gd rfl) rfl rfl ?_
              refine g_getA (q2 := 78) 42 (gd rfl) rfl rfl rfl rfl ?_
              refine g_aload_n 43 (gd rfl) rfl rfl ?_
              refine g_getI 46 (gd rfl) rfl rfl rfl (fun z43 e43 => ?_)
              have q43 : w7_76_0 = z43 := (sI_F (v7_76_0)).trans e43.symm
              subst q43
              refine g_aload_n 47 (gd rfl) rfl rfl ?_
              refine g_getA (q2 := 5) 50 (gd rfl) rfl rfl rfl rfl ?_
              refine g_iload_n 51 (gd rfl) rfl rfl ?_
              refine g_iaload 52 (gd rfl) rfl (n := 160) rfl (in_ix i12 rfl) (fun z51 e51 => ?_)
              have q51 : z17x21 = z51 := (sI_ne rfl (e17x21)).trans e51.symm
              subst q51
              refine g_iastore 53 (gd rfl) rfl (n := 160) rfl (in_ix i37 rfl) ?_
              have hI52 := inv_sI (q := 78) (j := w7_76_0.toNatClampNeg) hI37 rfl (in_w 0 31 i17x21 rfl)
              refine g_aload_n 54 (gd rfl) rfl rfl ?_
              refine g_getA (q2 := 79) 57 (gd rfl) rfl rfl rfl rfl ?_
              refine g_aload_n 58 (gd rfl) rfl rfl ?_
              refine g_getI 61 (gd rfl) rfl rfl rfl (fun z58 e58 => ?_)
              have q58 : w7_76_0 = z58 := (sI_F (sI_F (v7_76_0))).trans e58.symm
              subst q58
              refine g_aload_n 62 (gd rfl) rfl rfl ?_
              refine g_getA (q2 := 6) 65 (gd rfl) rfl rfl rfl rfl ?_
              refine g_iload_n 66 (gd rfl) rfl rfl ?_
              refine g_iaload 67 (gd rfl) rfl (n := 160) rfl (in_ix i12 rfl) (fun z66 e66 => ?_)
              have i66 := inv_I hI52 (n := 160) (t := 0) (-1000000) 1000000 rfl (in_ix i12 rfl) rfl e66
              refine g_i2l 68 (gd rfl) rfl (fun z67 e67 => ?_)
              have i67 := l_i e67 i66
              refine g_lastore 69 (gd rfl) rfl (n := 160) rfl (in_ix i37 rfl) ?_
              have hI68 := inv_sL (q := 79) (j := w7_76_0.toNatClampNeg) (x := z67) hI52 rfl (l_rng z67)
              refine g_aload_n 70 (gd rfl) rfl rfl ?_
              refine g_dup 71 (gd rfl) rfl rfl ?_
              refine g_getI 74 (gd rfl) rfl rfl rfl (fun z71 e71 => ?_)
              have q71 : w7_76_0 = z71 := (sL_F (sI_F (sI_F (v7_76_0)))).trans e71.symm
              subst q71
              refine g_iconst 1 75 (gd rfl) rfl rfl ?_
              refine g_iadd 76 (gd rfl) rfl (fun z75 e75 => ?_)
              have i75 := in_add 1 160 e75 i37 (in_c 1 rfl) rfl rfl
              refine g_putI 79 (gd rfl) rfl rfl rfl rfl ?_
              have hI76 := inv_sF (q := 76) (j := 0) hI68 rfl (in_w 0 160 i75 rfl)
              refine g_iinc 82 (gd rfl) rfl rfl (Nat.le_of_ble_eq_true rfl) (fun z79 e79 => ?_)
              have i79 := in_add 1 160 e79 i12 (in_c 1 rfl) rfl rfl
              refine g_goto 7 (gd rfl) rfl ?_
              have v7 : z75 = (sF (sL (sI (sI sc7 77 w7_76_0.toNatClampNeg z17x5) 78 w7_76_0.toNatClampNeg z17x21) 79 w7_76_0.toNatClampNeg z67) 76 0 z75).2.2.1 76 0 := sF_get
              have n7 : (z75).toInt ≤ (z79).toInt := by have a0 := i12a; unfold In at a0; have a1 := i37; unfold In at a1; have a2 := i12; unfold In at a2; have a3 := i79; unfold In at a3; have a4 := t_add e79 i12 (in_c 1 rfl) rfl; have a5 := (in_c 1 rfl); unfold In at a5; have a6 := i75; unfold In at a6; have a7 := t_add e75 i37 (in_c 1 rfl) rfl; have a8 := tx_i2l e67; have a9 := i66; unfold In at a9; omega
              have n7a : AE (sF (sL (sI (sI sc7 77 w7_76_0.toNatClampNeg z17x5) 78 w7_76_0.toNatClampNeg z17x21) 79 w7_76_0.toNatClampNeg z67) 76 0 z75) (s.2.2.1 2 1).toInt := by have hk := q_0 (y7_2).toNatClampNeg (by show (y7_2).toInt.toNat < 160; have a0 := i12a; unfold In at a0; have a1 := i37; unfold In at a1; have a2 := i12; unfold In at a2; have a3 := i79; unfold In at a3; have a4 := t_add e79 i12 (in_c 1 rfl) rfl; have a5 := (in_c 1 rfl); unfold In at a5; have a6 := i75; unfold In at a6; have a7 := t_add e75 i37 (in_c 1 rfl) rfl; have a8 := tx_i2l e67; have a9 := i66; unfold In at a9; omega); rw [← hFc7.1 4 rfl, ← hFc7.1 5 rfl, ← e17x5, ← e17x21] at hk; rcases hk with hk | hk; (exact absurd (hk.trans (by decide)) c17x7); exact ae_add g7_0 v7_76_0 (inv_F hIc7 0 160 rfl v7_76_0).1 (by show (sI (sI sc7 77 w7_76_0.toNatClampNeg z17x5) 78 w7_76_0.toNatClampNeg z17x21).1 77 = _; rw [sI_r rfl, sI_q]) (by show (sI (sI sc7 77 w7_76_0.toNatClampNeg z17x5) 78 w7_76_0.toNatClampNeg z17x21).1 78 = _; rw [sI_q, sI_r rfl]) (by rw [← (show z75 = (sF (sL (sI (sI sc7 77 w7_76_0.toNatClampNeg z17x5) 78 w7_76_0.toNatClampNeg z17x21) 79 w7_76_0.toNatClampNeg z67) 76 0 z75).2.2.1 76 0 from sF_get)]; have a0 := i12a; unfold In at a0; have a1 := i37; unfold In at a1; have a2 := i12; unfold In at a2; have a3 := i79; unfold In at a3; have a4 := t_add e79 i12 (in_c 1 rfl) rfl; have a5 := (in_c 1 rfl); unfold In at a5; have a6 := i75; unfold In at a6; have a7 := t_add e75 i37 (in_c 1 rfl) rfl; have a8 := tx_i2l e67; have a9 := i66; unfold In at a9; omega) hk.1 hk.2
              exact gg_w (by omega) (gg_f (gf_cons rfl (gf_cons rfl (gf_cons rfl gf_nil))) (ih7 (sF (sL (sI (sI sc7 77 w7_76_0.toNatClampNeg z17x5) 78 w7_76_0.toNatClampNeg z17x21) 79 w7_76_0.toNatClampNeg z67) 76 0 z75) z79 z75 hI76 (fr_sF rfl (fr_sL rfl (fr_sI rfl (fr_sI rfl hFc7)))) (in_w 0 160 i79 rfl) v7 n7 n7a (m_up mm7 (t_add e79 i12 (in_c 1 rfl) rfl) (in_w 1 1 (in_c 1 rfl) rfl))))
  refine g_enter2 (k := 181) (N := 145801) (by omega) rfl (Nat.le_of_ble_eq_true rfl) ?_
  refine g_aload_n 1 (gd rfl) rfl rfl ?_
  refine g_iconst 0 2 (gd rfl) rfl rfl ?_
  refine g_putI 5 (gd rfl) rfl rfl rfl rfl ?_
  have hI2 := inv_sF (q := 76) (j := 0) hI rfl (in_w 0 160 (in_c 0 rfl) rfl)
  refine g_iconst 0 6 (gd rfl) rfl rfl ?_
  refine g_istore_n 7 (gd rfl) rfl (Nat.le_of_ble_eq_true rfl) ?_
  have v7 : (Int32.ofInt 0) = (sF s 76 0 (Int32.ofInt 0)).2.2.1 76 0 := sF_get
  have n7 : ((Int32.ofInt 0)).toInt ≤ ((Int32.ofInt 0)).toInt := by have a0 := ro_2_3; unfold In at a0; have a1 := (in_c 0 rfl); unfold In at a1; omega
  have n7a : AE (sF s 76 0 (Int32.ofInt 0)) (s.2.2.1 2 1).toInt := by exact ae_0 (by rw [← (show (Int32.ofInt 0) = (sF s 76 0 (Int32.ofInt 0)).2.2.1 76 0 from sF_get)]; decide)
  exact gg_w (by omega) (gg_f (gf_cons rfl (gf_cons rfl (gf_cons rfl gf_nil))) (ct7 161 (sF s 76 0 (Int32.ofInt 0)) (Int32.ofInt 0) (Int32.ofInt 0) hI2 (fr_sF rfl fr_rf) (in_w 0 160 (in_c 0 rfl) rfl) v7 n7 n7a (m_in 161 (in_w 0 160 (in_c 0 rfl) rfl) rfl)))

def fm_181_76_32 : FM := ([77, 78], [79], [(76, 0)], [])
/-- GraphHouse$Trees.copyArcs -/
theorem k_181_76_32 {Z : AmZ} {A : Nat → Nat} {s : GS} {ex : va_W} {d : Nat} {X : AmX}  (hd : 3 ≤ d) (hI : Inv s) (q_0 : KN (s.1 34) (s.1 35) (s.2.2.1 32 1)) : GC Z d 181 [.ref (A 76), .ref (A 32)] (WW Z A s ++ ex) 0 0 (fun v u => ∃ t : GS, Inv t ∧ Fr fm_181_76_32 s t ∧ v = none ∧ u = WW Z A t ++ ex ∧ (AE t (s.2.2.1 32 1).toInt)) X := by
  intro post xp hP hX
  obtain ⟨u_32_3, e_32_3⟩ : ∃ w, w = s.2.2.1 32 3 := ⟨_, rfl⟩
  have ro_32_3 := inv_F hI 0 160 rfl e_32_3
  have ct7 : ∀ (k7 : Nat) (sc7 : GS) (y7_2 : Int32) (w7_76_0 : Int32), Inv sc7 → Fr fm_181_76_32 s sc7 → (In y7_2 0 160) → (w7_76_0 = sc7.2.2.1 76 0) → ((w7_76_0).toInt ≤ (y7_2).toInt) → (AE sc7 (s.2.2.1 32 1).toInt) → 160 - (y7_2).toInt < (k7 : Int) → GG Z (d - 1) 181 post (gx xp) (1 + k7 * 900) 7 (fun j => xlook j [(0, .ref (A 76)), (1, .ref (A 32)), (2, .int y7_2)]) [] (WW Z A sc7 ++ ex) 0 0 := by
    intro k7
    induction k7 with
    | zero => intro sc7 y7_2 w7_76_0 hIc7 hFc7 j7_2 v7_76_0 n7_0 g7_0 mm7; exact m_no mm7 j7_2 rfl
    | succ k7 ih7 =>
      intro sc7 y7_2 w7_76_0 hIc7 hFc7 j7_2 v7_76_0 n7_0 g7_0 mm7
      refine gg_w (M := 1 + k7 * 900 + 900) (by omega) ?_
      refine g_iload_n 8 (gd rfl) rfl rfl ?_
      refine g_aload_n 9 (gd rfl) rfl rfl ?_
      refine g_getI 12 (gd rfl) rfl rfl rfl (fun z9 e9 => ?_)
      have q9 : u_32_3 = z9 := (fr_F e_32_3 hFc7 rfl).trans e9.symm
      subst q9
      refine g_cmp_ge 15 85 (gd rfl) rfl rfl (fun c12 => ?_) (fun c12 => ?_)
      · skip
        have n85 : AE sc7 (s.2.2.1 32 1).toInt := by exact g7_0
        exact g_return (gd rfl) rfl (hP _ _ ⟨sc7, hIc7, hFc7, rfl, rfl, n85⟩)
      · skip
        have i12 := r_lt1 0 159 c12 j7_2 ro_32_3 rfl
        have i12a := r_lt2 1 160 c12 j7_2 ro_32_3 rfl
        refine g_aload_n 16 (gd rfl) rfl rfl ?_
        refine g_iload_n 17 (gd rfl) rfl rfl ?_
        refine g_callv (X := _) (As := [.int y7_2]) (r := []) (b := A 32) (q := 32) 20 (gd rfl) rfl rfl rfl rfl rfl (ww_o rfl) (Nat.le_of_ble_eq_true rfl) (mc := 0) (ms := 0) (Nat.zero_le _) (Nat.zero_le _) (P := fun v u => _) ?_ (fun e u h => h) (fun v u h => h)
        intro po17 xx17 hp17 hx17
        refine g_enter2 (k := 97) (N := 300) (by omega) rfl (Nat.le_of_ble_eq_true rfl) ?_
        refine g_aload_n 1 (gd rfl) rfl rfl ?_
        refine g_getA (q2 := 34) 4 (gd rfl) rfl rfl rfl rfl ?_
        refine g_iload_n 5 (gd rfl) rfl rfl ?_
        refine g_iaload 6 (gd rfl) rfl (n := 160) rfl (in_ix i12 rfl) (fun z17x5 e17x5 => ?_)
        have i17x5 := inv_I hIc7 (n := 160) (t := 0) (-1) 31 rfl (in_ix i12 rfl) rfl e17x5
        refine g_iconst (-1) 7 (gd rfl) rfl rfl ?_
        refine g_cmp_eq 10 29 (gd rfl) rfl rfl (fun c17x7 => ?_) (fun c17x7 => ?_)
        · skip
          have i17x7 := r_eq1 (-1) (-1) c17x7 i17x5 (in_c (-1) rfl) rfl
          refine g_iconst 0 30 (gd rfl) rfl rfl ?_
          refine g_ireturn (gd rfl) rfl (nb01 (in_w 0 1 (in_c 0 rfl) rfl)) (hp17 _ _ ?_)
          show GG _ _ _ _ _ _ _ _ [.int (Int32.ofInt 0)] _ _ _
          refine g_if_eq 23 79 (gd rfl) rfl rfl (fun c20 => ?_) (fun c20 => ?_)
          · skip
            refine g_iinc 82 (gd rfl) rfl rfl (Nat.le_of_ble_eq_true rfl) (fun z79 e79 => ?_)
            have i79 := in_add 1 160 e79 i12 (in_c 1 rfl) rfl rfl
            refine g_goto 7 (gd rfl) rfl ?_
            have n7 : (w7_76_0).toInt ≤ (z79).toInt := by have a0 := i12a; unfold In at a0; have a1 := (inv_F hIc7 0 160 rfl v7_76_0); unfold In at a1; have a2 := i12; unfold In at a2; have a3 := i79; unfold In at a3; have a4 := t_add e79 i12 (in_c 1 rfl) rfl; have a5 := (in_c 1 rfl); unfold In at a5; omega
            have n7a : AE sc7 (s.2.2.1 32 1).toInt := by exact g7_0
            exact gg_w (by omega) (gg_f (gf_cons rfl (gf_cons rfl (gf_cons rfl gf_nil))) (ih7 sc7 z79 w7_76_0 hIc7 hFc7 (in_w 0 160 i79 rfl) v7_76_0 n7 n7a (m_up mm7 (t_add e79 i12 (in_c 1 rfl) rfl) (in_w 1 1 (in_c 1 rfl) rfl))))
          · skip
            exact zn_ne c20 (in_c 0 rfl) rfl
        · skip
          have i17x7 := r_ne1 0 31 c17x7 i17x5 (in_c (-1) rfl) rfl
          refine g_aload_n 11 (gd rfl) rfl rfl ?_
          refine g_getA (q2 := 34) 14 (gd rfl) rfl rfl rfl rfl ?_
          refine g_iload_n 15 (gd rfl) rfl rfl ?_
          refine g_iaload 16 (gd rfl) rfl (n := 160) rfl (in_ix i12 rfl) (fun z17x15 e17x15 => ?_)
          have q17x15 : z17x5 = z17x15 := (e17x5).trans e17x15.symm
          subst q17x15
          refine g_aload_n 17 (gd rfl) rfl rfl ?_
          refine g_getA (q2 := 35) 20 (gd rfl) rfl rfl rfl rfl ?_
          refine g_iload_n 21 (gd rfl) rfl rfl ?_
          refine g_iaload 22 (gd rfl) rfl (n := 160) rfl (in_ix i12 rfl) (fun z17x21 e17x21 => ?_)
          have i17x21 := inv_I hIc7 (n := 160) (t := 0) 0 31 rfl (in_ix i12 rfl) rfl e17x21
          refine g_cmp_eq 25 29 (gd rfl) rfl rfl (fun c17x22 => ?_) (fun c17x22 => ?_)
          · skip
            refine g_iconst 0 30 (gd rfl) rfl rfl ?_
            refine g_ireturn (gd rfl) rfl (nb01 (in_w 0 1 (in_c 0 rfl) rfl)) (hp17 _ _ ?_)
            show GG _ _ _ _ _ _ _ _ [.int (Int32.ofInt 0)] _ _ _
            refine g_if_eq 23 79 (gd rfl) rfl rfl (fun c20 => ?_) (fun c20 => ?_)
            · skip
              refine g_iinc 82 (gd rfl) rfl rfl (Nat.le_of_ble_eq_true rfl) (fun z79 e79 => ?_)
              have i79 := in_add 1 160 e79 i12 (in_c 1 rfl) rfl rfl
              refine g_goto 7 (gd rfl) rfl ?_
              have n7 : (w7_76_0).toInt ≤ (z79).toInt := by have a0 := i12a; unfold In at a0; have a1 := (inv_F hIc7 0 160 rfl v7_76_0); unfold In at a1; have a2 := i12; unfold In at a2; have a3 := i79; unfold In at a3; have a4 := t_add e79 i12 (in_c 1 rfl) rfl; have a5 := (in_c 1 rfl); unfold In at a5; omega
              have n7a : AE sc7 (s.2.2.1 32 1).toInt := by exact g7_0
              exact gg_w (by omega) (gg_f (gf_cons rfl (gf_cons rfl (gf_cons rfl gf_nil))) (ih7 sc7 z79 w7_76_0 hIc7 hFc7 (in_w 0 160 i79 rfl) v7_76_0 n7 n7a (m_up mm7 (t_add e79 i12 (in_c 1 rfl) rfl) (in_w 1 1 (in_c 1 rfl) rfl))))
            · skip
              exact zn_ne c20 (in_c 0 rfl) rfl
          · skip
            refine g_iconst 1 26 (gd rfl) rfl rfl ?_
            refine g_goto 30 (gd rfl) rfl ?_
            refine g_ireturn (gd rfl) rfl (nb01 (in_w 0 1 (in_c 1 rfl) rfl)) (hp17 _ _ ?_)
            show GG _ _ _ _ _ _ _ _ [.int (Int32.ofInt 1)] _ _ _
            refine g_if_eq 23 79 (gd rfl) rfl rfl (fun c20 => ?_) (fun c20 => ?_)
            · skip
              exact zn_eq c20 (in_c 1 rfl) rfl
            · skip
              refine g_aload_n 24 (gd rfl) rfl rfl ?_
              refine g_getA (q2 := 77) 27 (gd rfl) rfl rfl rfl rfl ?_
              refine g_aload_n 28 (gd rfl) rfl rfl ?_
              refine g_getI 31 (gd rfl) rfl rfl rfl (fun z28 e28 => ?_)
              have q28 : w7_76_0 = z28 := (v7_76_0).trans e28.symm
              subst q28
              refine g_aload_n 32 (gd rfl) rfl rfl ?_
              refine g_getA (q2 := 34) 35 (gd rfl) rfl rfl rfl rfl ?_
              refine g_iload_n 36 (gd rfl) rfl rfl ?_
              refine g_iaload 37 (gd rfl) rfl (n := 160) rfl (in_ix i12 rfl) (fun z36 e36 => ?_)
              have q36 : z17x5 = z36 := (e17x5).trans e36.symm
              subst q36
              have i37 : In w7_76_0 0 159 := by have a0 := i12a; unfold In at a0; have a1 := (inv_F hIc7 0 160 rfl v7_76_0); unfold In at a1; have a2 := i12; unfold In at a2; exact ⟨by omega, by omega⟩
              refine g_iastore 38 (gd rfl) rfl (n := 160) rfl (in_ix i37 rfl) ?_
              have hI37 := inv_sI (q := 77) (j := w7_76_0.toNatClampNeg) hIc7 rfl (in_w 0 31 i17x7 rfl)
              refine g_aload_n 39 (gd rfl) rfl rfl ?_
              refine g_getA (q2 := 78) 42 (gd rfl) rfl rfl rfl rfl ?_
              refine g_aload_n 43 (gd rfl) rfl rfl ?_
              refine g_getI 46 (gd rfl) rfl rfl rfl (fun z43 e43 => ?_)
              have q43 : w7_76_0 = z43 := (sI_F (v7_76_0)).trans e43.symm
              subst q43
              refine g_aload_n 47 (gd rfl) rfl rfl ?_
              refine g_getA (q2 := 35) 50 (gd rfl) rfl rfl rfl rfl ?_
              refine g_iload_n 51 (gd rfl) rfl rfl ?_
              refine g_iaload 52 (gd rfl) rfl (n := 160) rfl (in_ix i12 rfl) (fun z51 e51 => ?_)
              have q51 : z17x21 = z51 := (sI_ne rfl (e17x21)).trans e51.symm
              subst q51
              refine g_iastore 53 (gd rfl) rfl (n := 160) rfl (in_ix i37 rfl) ?_
              have hI52 := inv_sI (q := 78) (j := w7_76_0.toNatClampNeg) hI37 rfl (in_w 0 31 i17x21 rfl)
              refine g_aload_n 54 (gd rfl) rfl rfl ?_
              refine g_getA (q2 := 79) 57 (gd rfl) rfl rfl rfl rfl ?_
              refine g_aload_n 58 (gd rfl) rfl rfl ?_
              refine g_getI 61 (gd rfl) rfl rfl rfl (fun z58 e58 => ?_)
              have q58 : w7_76_0 = z58 := (sI_F (sI_F (v7_76_0))).trans e58.symm
              subst q58
              refine g_aload_n 62 (gd rfl) rfl rfl ?_
              refine g_getA (q2 := 36) 65 (gd rfl) rfl rfl rfl rfl ?_
              refine g_iload_n 66 (gd rfl) rfl rfl ?_
              refine g_iaload 67 (gd rfl) rfl (n := 160) rfl (in_ix i12 rfl) (fun z66 e66 => ?_)
              have i66 := inv_I hI52 (n := 160) (t := 0) (-1000000) 1000000 rfl (in_ix i12 rfl) rfl e66
              refine g_i2l 68 (gd rfl) rfl (fun z67 e67 => ?_)
              have i67 := l_i e67 i66
              refine g_lastore 69 (gd rfl) rfl (n := 160) rfl (in_ix i37 rfl) ?_
              have hI68 := inv_sL (q := 79) (j := w7_76_0.toNatClampNeg) (x := z67) hI52 rfl (l_rng z67)
              refine g_aload_n 70 (gd rfl) rfl rfl ?_
              refine g_dup 71 (gd rfl) rfl rfl ?_
              refine g_getI 74 (gd rfl) rfl rfl rfl (fun z71 e71 => ?_)
              have q71 : w7_76_0 = z71 := (sL_F (sI_F (sI_F (v7_76_0)))).trans e71.symm
              subst q71
              refine g_iconst 1 75 (gd rfl) rfl rfl ?_
              refine g_iadd 76 (gd rfl) rfl (fun z75 e75 => ?_)
              have i75 := in_add 1 160 e75 i37 (in_c 1 rfl) rfl rfl
              refine g_putI 79 (gd rfl) rfl rfl rfl rfl ?_
              have hI76 := inv_sF (q := 76) (j := 0) hI68 rfl (in_w 0 160 i75 rfl)
              refine g_iinc 82 (gd rfl) rfl rfl (Nat.le_of_ble_eq_true rfl) (fun z79 e79 => ?_)
              have i79 := in_add 1 160 e79 i12 (in_c 1 rfl) rfl rfl
              refine g_goto 7 (gd rfl) rfl ?_
              have v7 : z75 = (sF (sL (sI (sI sc7 77 w7_76_0.toNatClampNeg z17x5) 78 w7_76_0.toNatClampNeg z17x21) 79 w7_76_0.toNatClampNeg z67) 76 0 z75).2.2.1 76 0 := sF_get
              have n7 : (z75).toInt ≤ (z79).toInt := by have a0 := i12a; unfold In at a0; have a1 := i37; unfold In at a1; have a2 := i12; unfold In at a2; have a3 := i79; unfold In at a3; have a4 := t_add e79 i12 (in_c 1 rfl) rfl; have a5 := (in_c 1 rfl); unfold In at a5; have a6 := i75; unfold In at a6; have a7 := t_add e75 i37 (in_c 1 rfl) rfl; have a8 := tx_i2l e67; have a9 := i66; unfold In at a9; omega
              have n7a : AE (sF (sL (sI (sI sc7 77 w7_76_0.toNatClampNeg z17x5) 78 w7_76_0.toNatClampNeg z17x21) 79 w7_76_0.toNatClampNeg z67) 76 0 z75) (s.2.2.1 32 1).toInt := by have hk := q_0 (y7_2).toNatClampNeg (by show (y7_2).toInt.toNat < 160; have a0 := i12a; unfold In at a0; have a1 := i37; unfold In at a1; have a2 := i12; unfold In at a2; have a3 := i79; unfold In at a3; have a4 := t_add e79 i12 (in_c 1 rfl) rfl; have a5 := (in_c 1 rfl); unfold In at a5; have a6 := i75; unfold In at a6; have a7 := t_add e75 i37 (in_c 1 rfl) rfl; have a8 := tx_i2l e67; have a9 := i66; unfold In at a9; omega); rw [← hFc7.1 34 rfl, ← hFc7.1 35 rfl, ← e17x5, ← e17x21] at hk; rcases hk with hk | hk; (exact absurd (hk.trans (by decide)) c17x7); exact ae_add g7_0 v7_76_0 (inv_F hIc7 0 160 rfl v7_76_0).1 (by show (sI (sI sc7 77 w7_76_0.toNatClampNeg z17x5) 78 w7_76_0.toNatClampNeg z17x21).1 77 = _; rw [sI_r rfl, sI_q]) (by show (sI (sI sc7 77 w7_76_0.toNatClampNeg z17x5) 78 w7_76_0.toNatClampNeg z17x21).1 78 = _; rw [sI_q, sI_r rfl]) (by rw [← (show z75 = (sF (sL (sI (sI sc7 77 w7_76_0.toNatClampNeg z17x5) 78 w7_76_0.toNatClampNeg z17x21) 79 w7_76_0.toNatClampNeg z67) 76 0 z75).2.2.1 76 0 from sF_get)]; have a0 := i12a; unfold In at a0; have a1 := i37; unfold In at a1; have a2 := i12; unfold In at a2; have a3 := i79; unfold In at a3; have a4 := t_add e79 i12 (in_c 1 rfl) rfl; have a5 := (in_c 1 rfl); unfold In at a5; have a6 := i75; unfold In at a6; have a7 := t_add e75 i37 (in_c 1 rfl) rfl; have a8 := tx_i2l e67; have a9 := i66; unfold In at a9; omega) hk.1 hk.2
              exact gg_w (by omega) (gg_f (gf_cons rfl (gf_cons rfl (gf_cons rfl gf_nil))) (ih7 (sF (sL (sI (sI sc7 77 w7_76_0.toNatClampNeg z17x5) 78 w7_76_0.toNatClampNeg z17x21) 79 w7_76_0.toNatClampNeg z67) 76 0 z75) z79 z75 hI76 (fr_sF rfl (fr_sL rfl (fr_sI rfl (fr_sI rfl hFc7)))) (in_w 0 160 i79 rfl) v7 n7 n7a (m_up mm7 (t_add e79 i12 (in_c 1 rfl) rfl) (in_w 1 1 (in_c 1 rfl) rfl))))
  refine g_enter2 (k := 181) (N := 145801) (by omega) rfl (Nat.le_of_ble_eq_true rfl) ?_
  refine g_aload_n 1 (gd rfl) rfl rfl ?_
  refine g_iconst 0 2 (gd rfl) rfl rfl ?_
  refine g_putI 5 (gd rfl) rfl rfl rfl rfl ?_
  have hI2 := inv_sF (q := 76) (j := 0) hI rfl (in_w 0 160 (in_c 0 rfl) rfl)
  refine g_iconst 0 6 (gd rfl) rfl rfl ?_
  refine g_istore_n 7 (gd rfl) rfl (Nat.le_of_ble_eq_true rfl) ?_
  have v7 : (Int32.ofInt 0) = (sF s 76 0 (Int32.ofInt 0)).2.2.1 76 0 := sF_get
  have n7 : ((Int32.ofInt 0)).toInt ≤ ((Int32.ofInt 0)).toInt := by have a0 := ro_32_3; unfold In at a0; have a1 := (in_c 0 rfl); unfold In at a1; omega
  have n7a : AE (sF s 76 0 (Int32.ofInt 0)) (s.2.2.1 32 1).toInt := by exact ae_0 (by rw [← (show (Int32.ofInt 0) = (sF s 76 0 (Int32.ofInt 0)).2.2.1 76 0 from sF_get)]; decide)
  exact gg_w (by omega) (gg_f (gf_cons rfl (gf_cons rfl (gf_cons rfl gf_nil))) (ct7 161 (sF s 76 0 (Int32.ofInt 0)) (Int32.ofInt 0) (Int32.ofInt 0) hI2 (fr_sF rfl fr_rf) (in_w 0 160 (in_c 0 rfl) rfl) v7 n7 n7a (m_in 161 (in_w 0 160 (in_c 0 rfl) rfl) rfl)))

def fm_182_76 : FM := ([81], [80], [], [])
/-- GraphHouse$Trees.takeCheapest -/
theorem k_182_76 {Z : AmZ} {A : Nat → Nat} {s : GS} {ex : va_W} {d : Nat} {X : AmX} {x1 : Int32} {x2 : Int32} (hd : 2 ≤ d) (hI : Inv s) (h1 : In x1 0 32) (h2 : In x2 0 31) : GC Z d 182 [.ref (A 76), .int x1, .int x2] (WW Z A s ++ ex) 0 0 (fun v u => ∃ t : GS, Inv t ∧ Fr fm_182_76 s t ∧ ∃ z : Int32, v = some (.int z) ∧ u = WW Z A t ++ ex ∧ In z 0 1) X := by
  intro post xp hP hX
  obtain ⟨u_76_0, e_76_0⟩ : ∃ w, w = s.2.2.1 76 0 := ⟨_, rfl⟩
  have ro_76_0 := inv_F hI 0 160 rfl e_76_0
  have ct105 : ∀ (k105 : Nat) (sc105 : GS) (y105_3 : Int32), Inv sc105 → Fr fm_182_76 s sc105 → (In y105_3 0 32) → 32 - (y105_3).toInt < (k105 : Int) → GG Z (d - 1) 182 post (gx xp) (1 + k105 * 900) 105 (fun j => xlook j [(0, .ref (A 76)), (1, .int x1), (2, .int x2), (3, .int y105_3)]) [] (WW Z A sc105 ++ ex) 0 0 := by
    intro k105
    induction k105 with
    | zero => intro sc105 y105_3 hIc105 hFc105 j105_3 mm105; exact m_no mm105 j105_3 rfl
    | succ k105 ih105 =>
      intro sc105 y105_3 hIc105 hFc105 j105_3 mm105
      refine gg_w (M := 1 + k105 * 900 + 900) (by omega) ?_
      refine g_iload_n 106 (gd rfl) rfl rfl ?_
      refine g_iload_n 107 (gd rfl) rfl rfl ?_
      refine g_cmp_ge 110 131 (gd rfl) rfl rfl (fun c107 => ?_) (fun c107 => ?_)
      · skip
        refine g_iconst 1 132 (gd rfl) rfl rfl ?_
        exact g_ireturn (gd rfl) rfl (nb01 (in_w 0 1 (in_c 1 rfl) rfl)) (hP _ _ ⟨sc105, hIc105, hFc105, (Int32.ofInt 1), rfl, rfl, in_w 0 1 (in_c 1 rfl) rfl⟩)
      · skip
        have i107 := r_lt1 0 31 c107 j105_3 h1 rfl
        have i107a := r_lt2 1 32 c107 j105_3 h1 rfl
        refine g_aload_n 111 (gd rfl) rfl rfl ?_
        refine g_getA (q2 := 80) 114 (gd rfl) rfl rfl rfl rfl ?_
        refine g_iload_n 115 (gd rfl) rfl rfl ?_
        refine g_laload 116 (gd rfl) rfl (n := 32) rfl (in_ix i107 rfl) (fun z115 e115 => ?_)
        refine g_ldc2_w 9223372036854775807 119 (gd rfl) rfl rfl ?_
        refine g_lcmp 120 (gd rfl) rfl (fun z119 e119 => ?_)
        have i119 := lc_in e119
        refine g_if_ne 123 125 (gd rfl) rfl rfl (fun c120 => ?_) (fun c120 => ?_)
        · skip
          have c120a := lc_ne e119 c120
          have i120 := lr_ne1 (-9223372036854775808) 9223372036854775806 c120a (l_rng z115) (l_c 9223372036854775807 rfl) rfl
          refine g_iinc 128 (gd rfl) rfl rfl (Nat.le_of_ble_eq_true rfl) (fun z125 e125 => ?_)
          have i125 := in_add 1 32 e125 i107 (in_c 1 rfl) rfl rfl
          refine g_goto 105 (gd rfl) rfl ?_
          exact gg_w (by omega) (gg_f (gf_cons rfl (gf_cons rfl (gf_cons rfl (gf_cons rfl gf_nil)))) (ih105 sc105 z125 hIc105 hFc105 (in_w 0 32 i125 rfl) (m_up mm105 (t_add e125 i107 (in_c 1 rfl) rfl) (in_w 1 1 (in_c 1 rfl) rfl))))
        · skip
          have i120 := z_eq 0 0 c120 i119 rfl
          have c120a := lc_eq e119 c120
          have i120a := lr_eq1 9223372036854775807 9223372036854775807 c120a (l_rng z115) (l_c 9223372036854775807 rfl) rfl
          refine g_iconst 0 124 (gd rfl) rfl rfl ?_
          exact g_ireturn (gd rfl) rfl (nb01 (in_w 0 1 (in_c 0 rfl) rfl)) (hP _ _ ⟨sc105, hIc105, hFc105, (Int32.ofInt 0), rfl, rfl, in_w 0 1 (in_c 0 rfl) rfl⟩)
  have ct12 : ∀ (k12 : Nat) (sc12 : GS) (y12_3 : Int32), Inv sc12 → Fr fm_182_76 s sc12 → (In y12_3 0 160) → 160 - (y12_3).toInt < (k12 : Int) → GG Z (d - 1) 182 post (gx xp) (29702 + k12 * 900) 12 (fun j => xlook j [(0, .ref (A 76)), (1, .int x1), (2, .int x2), (3, .int y12_3)]) [] (WW Z A sc12 ++ ex) 0 0 := by
    intro k12
    induction k12 with
    | zero => intro sc12 y12_3 hIc12 hFc12 j12_3 mm12; exact m_no mm12 j12_3 rfl
    | succ k12 ih12 =>
      intro sc12 y12_3 hIc12 hFc12 j12_3 mm12
      refine gg_w (M := 29702 + k12 * 900 + 900) (by omega) ?_
      refine g_iload_n 13 (gd rfl) rfl rfl ?_
      refine g_aload_n 14 (gd rfl) rfl rfl ?_
      refine g_getI 17 (gd rfl) rfl rfl rfl (fun z14 e14 => ?_)
      have q14 : u_76_0 = z14 := (fr_F e_76_0 hFc12 rfl).trans e14.symm
      subst q14
      refine g_cmp_ge 20 96 (gd rfl) rfl rfl (fun c17 => ?_) (fun c17 => ?_)
      · skip
        refine g_aload_n 97 (gd rfl) rfl rfl ?_
        refine g_getA (q2 := 80) 100 (gd rfl) rfl rfl rfl rfl ?_
        refine g_iload_n 101 (gd rfl) rfl rfl ?_
        refine g_lconst 0 102 (gd rfl) rfl rfl ?_
        refine g_lastore 103 (gd rfl) rfl (n := 32) rfl (in_ix h2 rfl) ?_
        have hI102 := inv_sL (q := 80) (j := x2.toNatClampNeg) (x := (Int64.ofInt 0)) hIc12 rfl (l_rng (Int64.ofInt 0))
        refine g_iconst 0 104 (gd rfl) rfl rfl ?_
        refine g_istore_n 105 (gd rfl) rfl (Nat.le_of_ble_eq_true rfl) ?_
        exact gg_w (by omega) (gg_f (gf_cons rfl (gf_cons rfl (gf_cons rfl (gf_cons rfl gf_nil)))) (ct105 33 (sL sc12 80 x2.toNatClampNeg (Int64.ofInt 0)) (Int32.ofInt 0) hI102 (fr_sL rfl hFc12) (in_w 0 32 (in_c 0 rfl) rfl) (m_in 33 (in_w 0 32 (in_c 0 rfl) rfl) rfl)))
      · skip
        have i17 := r_lt1 0 159 c17 j12_3 ro_76_0 rfl
        have i17a := r_lt2 1 160 c17 j12_3 ro_76_0 rfl
        refine g_aload_n 21 (gd rfl) rfl rfl ?_
        refine g_getA (q2 := 77) 24 (gd rfl) rfl rfl rfl rfl ?_
        refine g_iload_n 25 (gd rfl) rfl rfl ?_
        refine g_iaload 26 (gd rfl) rfl (n := 160) rfl (in_ix i17 rfl) (fun z25 e25 => ?_)
        have i25 := inv_I hIc12 (n := 160) (t := 0) 0 31 rfl (in_ix i17 rfl) rfl e25
        refine g_aload_n 27 (gd rfl) rfl rfl ?_
        refine g_getA (q2 := 78) 30 (gd rfl) rfl rfl rfl rfl ?_
        refine g_iload_n 31 (gd rfl) rfl rfl ?_
        refine g_iaload 32 (gd rfl) rfl (n := 160) rfl (in_ix i17 rfl) (fun z31 e31 => ?_)
        have i31 := inv_I hIc12 (n := 160) (t := 0) 0 31 rfl (in_ix i17 rfl) rfl e31
        refine g_cmp_eq 35 90 (gd rfl) rfl rfl (fun c32 => ?_) (fun c32 => ?_)
        · skip
          refine g_iinc 93 (gd rfl) rfl rfl (Nat.le_of_ble_eq_true rfl) (fun z90 e90 => ?_)
          have i90 := in_add 1 160 e90 i17 (in_c 1 rfl) rfl rfl
          refine g_goto 12 (gd rfl) rfl ?_
          exact gg_w (by omega) (gg_f (gf_cons rfl (gf_cons rfl (gf_cons rfl (gf_cons rfl gf_nil)))) (ih12 sc12 z90 hIc12 hFc12 (in_w 0 160 i90 rfl) (m_up mm12 (t_add e90 i17 (in_c 1 rfl) rfl) (in_w 1 1 (in_c 1 rfl) rfl))))
        · skip
          refine g_aload_n 36 (gd rfl) rfl rfl ?_
          refine g_getA (q2 := 79) 39 (gd rfl) rfl rfl rfl rfl ?_
          refine g_iload_n 40 (gd rfl) rfl rfl ?_
          refine g_laload 41 (gd rfl) rfl (n := 160) rfl (in_ix i17 rfl) (fun z40 e40 => ?_)
          refine g_aload_n 42 (gd rfl) rfl rfl ?_
          refine g_getA (q2 := 80) 45 (gd rfl) rfl rfl rfl rfl ?_
          refine g_aload_n 46 (gd rfl) rfl rfl ?_
          refine g_getA (q2 := 78) 49 (gd rfl) rfl rfl rfl rfl ?_
          refine g_iload_n 50 (gd rfl) rfl rfl ?_
          refine g_iaload 51 (gd rfl) rfl (n := 160) rfl (in_ix i17 rfl) (fun z50 e50 => ?_)
          have q50 : z31 = z50 := (e31).trans e50.symm
          subst q50
          refine g_laload 52 (gd rfl) rfl (n := 32) rfl (in_ix i31 rfl) (fun z51 e51 => ?_)
          refine g_lcmp 53 (gd rfl) rfl (fun z52 e52 => ?_)
          have i52 := lc_in e52
          refine g_if_ge 56 90 (gd rfl) rfl rfl (fun c53 => ?_) (fun c53 => ?_)
          · skip
            have i53 := z_ge 0 1 c53 i52 rfl
            have c53a := lc_ge e52 c53
            refine g_iinc 93 (gd rfl) rfl rfl (Nat.le_of_ble_eq_true rfl) (fun z90 e90 => ?_)
            have i90 := in_add 1 160 e90 i17 (in_c 1 rfl) rfl rfl
            refine g_goto 12 (gd rfl) rfl ?_
            exact gg_w (by omega) (gg_f (gf_cons rfl (gf_cons rfl (gf_cons rfl (gf_cons rfl gf_nil)))) (ih12 sc12 z90 hIc12 hFc12 (in_w 0 160 i90 rfl) (m_up mm12 (t_add e90 i17 (in_c 1 rfl) rfl) (in_w 1 1 (in_c 1 rfl) rfl))))
          · skip
            have i53 := z_lt (-1) (-1) c53 i52 rfl
            have c53a := lc_lt e52 c53
            have i53a := lr_lt1 (-9223372036854775808) 9223372036854775806 c53a (l_rng z40) (l_rng z51) rfl
            have i53b := lr_lt2 (-9223372036854775807) 9223372036854775807 c53a (l_rng z40) (l_rng z51) rfl
            refine g_aload_n 57 (gd rfl) rfl rfl ?_
            refine g_getA (q2 := 80) 60 (gd rfl) rfl rfl rfl rfl ?_
            refine g_aload_n 61 (gd rfl) rfl rfl ?_
            refine g_getA (q2 := 78) 64 (gd rfl) rfl rfl rfl rfl ?_
            refine g_iload_n 65 (gd rfl) rfl rfl ?_
            refine g_iaload 66 (gd rfl) rfl (n := 160) rfl (in_ix i17 rfl) (fun z65 e65 => ?_)
            have q65 : z31 = z65 := (e31).trans e65.symm
            subst q65
            refine g_aload_n 67 (gd rfl) rfl rfl ?_
            refine g_getA (q2 := 79) 70 (gd rfl) rfl rfl rfl rfl ?_
            refine g_iload_n 71 (gd rfl) rfl rfl ?_
            refine g_laload 72 (gd rfl) rfl (n := 160) rfl (in_ix i17 rfl) (fun z71 e71 => ?_)
            refine g_lastore 73 (gd rfl) rfl (n := 32) rfl (in_ix i31 rfl) ?_
            have hI72 := inv_sL (q := 80) (j := z31.toNatClampNeg) (x := z71) hIc12 rfl (l_rng z71)
            refine g_aload_n 74 (gd rfl) rfl rfl ?_
            refine g_getA (q2 := 81) 77 (gd rfl) rfl rfl rfl rfl ?_
            refine g_aload_n 78 (gd rfl) rfl rfl ?_
            refine g_getA (q2 := 78) 81 (gd rfl) rfl rfl rfl rfl ?_
            refine g_iload_n 82 (gd rfl) rfl rfl ?_
            refine g_iaload 83 (gd rfl) rfl (n := 160) rfl (in_ix i17 rfl) (fun z82 e82 => ?_)
            have q82 : z31 = z82 := (sL_I (e31)).trans e82.symm
            subst q82
            refine g_aload_n 84 (gd rfl) rfl rfl ?_
            refine g_getA (q2 := 77) 87 (gd rfl) rfl rfl rfl rfl ?_
            refine g_iload_n 88 (gd rfl) rfl rfl ?_
            refine g_iaload 89 (gd rfl) rfl (n := 160) rfl (in_ix i17 rfl) (fun z88 e88 => ?_)
            have q88 : z25 = z88 := (sL_I (e25)).trans e88.symm
            subst q88
            refine g_iastore 90 (gd rfl) rfl (n := 32) rfl (in_ix i31 rfl) ?_
            have hI89 := inv_sI (q := 81) (j := z31.toNatClampNeg) hI72 rfl (in_w 0 31 i25 rfl)
            refine g_iinc 93 (gd rfl) rfl rfl (Nat.le_of_ble_eq_true rfl) (fun z90 e90 => ?_)
            have i90 := in_add 1 160 e90 i17 (in_c 1 rfl) rfl rfl
            refine g_goto 12 (gd rfl) rfl ?_
            exact gg_w (by omega) (gg_f (gf_cons rfl (gf_cons rfl (gf_cons rfl (gf_cons rfl gf_nil)))) (ih12 (sI (sL sc12 80 z31.toNatClampNeg z71) 81 z31.toNatClampNeg z25) z90 hI89 (fr_sI rfl (fr_sL rfl hFc12)) (in_w 0 160 i90 rfl) (m_up mm12 (t_add e90 i17 (in_c 1 rfl) rfl) (in_w 1 1 (in_c 1 rfl) rfl))))
  refine g_enter2 (k := 182) (N := 175502) (by omega) rfl (Nat.le_of_ble_eq_true rfl) ?_
  refine g_aload_n 1 (gd rfl) rfl rfl ?_
  refine g_getA (q2 := 80) 4 (gd rfl) rfl rfl rfl rfl ?_
  refine g_ldc2_w 9223372036854775807 7 (gd rfl) rfl rfl ?_
  refine g_calls (As := [.ref (A 80), .long (Int64.ofInt 9223372036854775807)]) (r := []) 10 (gd rfl) rfl rfl rfl rfl rfl (Nat.le_of_ble_eq_true rfl) (Nat.zero_le _) (Nat.zero_le _) (k_fillL 80 (by omega) hI (n := 32) rfl rfl rfl (l_rng (Int64.ofInt 9223372036854775807))) (fun v u h => ?_)
  obtain ⟨s7, hI7, hF7, rfl, rfl, fl7⟩ := h
  show GG _ _ _ _ _ _ _ _ [] _ _ _
  refine g_iconst 0 11 (gd rfl) rfl rfl ?_
  refine g_istore_n 12 (gd rfl) rfl (Nat.le_of_ble_eq_true rfl) ?_
  exact gg_w (by omega) (gg_f (gf_cons rfl (gf_cons rfl (gf_cons rfl (gf_cons rfl gf_nil)))) (ct12 161 s7 (Int32.ofInt 0) hI7 (fr_tr rfl fr_rf hF7) (in_w 0 160 (in_c 0 rfl) rfl) (m_in 161 (in_w 0 160 (in_c 0 rfl) rfl) rfl)))

def fm_183_76 : FM := ([82, 83], [], [], [])
/-- GraphHouse$Trees.nameRings -/
theorem k_183_76 {Z : AmZ} {A : Nat → Nat} {s : GS} {ex : va_W} {d : Nat} {X : AmX} {x1 : Int32} {x2 : Int32} (hd : 2 ≤ d) (hI : Inv s) (h1 : In x1 0 32) (h2 : In x2 0 31) : GC Z d 183 [.ref (A 76), .int x1, .int x2] (WW Z A s ++ ex) 0 0 (fun v u => ∃ t : GS, Inv t ∧ Fr fm_183_76 s t ∧ ∃ z : Int32, v = some (.int z) ∧ u = WW Z A t ++ ex ∧ In z 0 32 ∧ ((z).toInt + (c1m (t.1 83) 32 : Int) ≤ 32) ∧ (∀ v : Nat, v < 32 → (t.1 83 v).toInt < (z).toInt)) X := by
  intro post xp hP hX
  have ct21 : ∀ (k21 : Nat) (sc21 : GS) (y21_3 : Int32) (y21_4 : Int32), Inv sc21 → Fr fm_183_76 s sc21 → (In y21_3 0 32) → (In y21_4 0 32) → ((y21_3).toInt + (c1m (sc21.1 83) 32 : Int) ≤ 32) → (∀ v : Nat, v < 32 → (sc21.1 83 v).toInt < (y21_3).toInt) → 32 - (y21_4).toInt < (k21 : Int) → GG Z (d - 1) 183 post (gx xp) (1 + k21 * 64802) 21 (fun j => xlook j [(0, .ref (A 76)), (1, .int x1), (2, .int x2), (3, .int y21_3), (4, .int y21_4)]) [] (WW Z A sc21 ++ ex) 0 0 := by
    intro k21
    induction k21 with
    | zero => intro sc21 y21_3 y21_4 hIc21 hFc21 j21_3 j21_4 g21_0 g21_1 mm21; exact m_no mm21 j21_4 rfl
    | succ k21 ih21 =>
      intro sc21 y21_3 y21_4 hIc21 hFc21 j21_3 j21_4 g21_0 g21_1 mm21
      refine gg_w (M := 1 + k21 * 64802 + 64802) (by omega) ?_
      have ct113 : ∀ (k113 : Nat) (sc113 : GS) (y113_5 : Int32) (y113_6 : Int32), Inv sc113 → Fr fm_183_76 s sc113 → (In x1 1 32) → (In y21_4 0 31) → (In y113_5 0 31) → (In y113_6 0 32) → ((y21_3).toInt + (c1m (sc113.1 83) 32 : Int) + (if (y113_6).toInt = 0 then 0 else 1) ≤ 32) → (∀ v : Nat, v < 32 → (sc113.1 83 v).toInt ≤ (y21_3).toInt) → ((y113_6).toInt = 0 → (sc113.1 83 (y113_5).toNatClampNeg).toInt = -1) → 32 - (y113_6).toInt < (k113 : Int) → GG Z (d - 1) 183 post (gx xp) (1 + k21 * 64802 + 1 + k113 * 900) 113 (fun j => xlook j [(0, .ref (A 76)), (1, .int x1), (2, .int x2), (3, .int y21_3), (4, .int y21_4), (5, .int y113_5), (6, .int y113_6)]) [] (WW Z A sc113 ++ ex) 0 0 := by
        intro k113
        induction k113 with
        | zero => intro sc113 y113_5 y113_6 hIc113 hFc113 j113_1 j113_4 j113_5 j113_6 g113_0 g113_1 g113_2 mm113; exact m_no mm113 j113_6 rfl
        | succ k113 ih113 =>
          intro sc113 y113_5 y113_6 hIc113 hFc113 j113_1 j113_4 j113_5 j113_6 g113_0 g113_1 g113_2 mm113
          refine gg_w (M := 1 + k21 * 64802 + 1 + k113 * 900 + 900) (by omega) ?_
          refine g_iload 115 (gd rfl) rfl rfl ?_
          refine g_iload_n 116 (gd rfl) rfl rfl ?_
          refine g_cmp_ge 119 153 (gd rfl) rfl rfl (fun c116 => ?_) (fun c116 => ?_)
          · skip
            have i116 := r_le2 1 32 c116 j113_1 j113_6 rfl
            have hi : (y113_6).toInt ≠ 0 := (by have a0 := j113_4; unfold In at a0; have a1 := j21_3; unfold In at a1; have a2 := h2; unfold In at a2; have a3 := j113_1; unfold In at a3; have a4 := i116; unfold In at a4; have a5 := j113_5; unfold In at a5; omega)
            have hr9 : (y21_3).toInt + 1 + (c1m (sc113.1 83) 32 : Int) ≤ 32 := (by have h := g113_0; rw [if_neg hi] at h; omega)
            refine g_iinc 156 (gd rfl) rfl rfl (Nat.le_of_ble_eq_true rfl) (fun z153 e153 => ?_)
            have i153 := in_add 1 33 e153 j21_3 (in_c 1 rfl) rfl rfl
            refine g_iinc 159 (gd rfl) rfl rfl (Nat.le_of_ble_eq_true rfl) (fun z156 e156 => ?_)
            have i156 := in_add 1 32 e156 j113_4 (in_c 1 rfl) rfl rfl
            refine g_goto 21 (gd rfl) rfl ?_
            have i21 : In z153 0 32 := by exact ⟨by have a0 := j113_4; unfold In at a0; have a1 := j21_3; unfold In at a1; have a2 := h2; unfold In at a2; have a3 := j113_1; unfold In at a3; have a4 := i116; unfold In at a4; have a5 := j113_5; unfold In at a5; have a6 := i156; unfold In at a6; have a7 := t_add e156 j113_4 (in_c 1 rfl) rfl; have a8 := (in_c 1 rfl); unfold In at a8; have a9 := i153; unfold In at a9; have a10 := t_add e153 j21_3 (in_c 1 rfl) rfl; omega, by have a0 := j113_4; unfold In at a0; have a1 := j21_3; unfold In at a1; have a2 := h2; unfold In at a2; have a3 := j113_1; unfold In at a3; have a4 := i116; unfold In at a4; have a5 := j113_5; unfold In at a5; have a6 := i156; unfold In at a6; have a7 := t_add e156 j113_4 (in_c 1 rfl) rfl; have a8 := (in_c 1 rfl); unfold In at a8; have a9 := i153; unfold In at a9; have a10 := t_add e153 j21_3 (in_c 1 rfl) rfl; omega⟩
            have n21 : (z153).toInt + (c1m (sc113.1 83) 32 : Int) ≤ 32 := by have a0 := j113_4; unfold In at a0; have a1 := j21_3; unfold In at a1; have a2 := h2; unfold In at a2; have a3 := j113_1; unfold In at a3; have a4 := i116; unfold In at a4; have a5 := j113_5; unfold In at a5; have a6 := i156; unfold In at a6; have a7 := t_add e156 j113_4 (in_c 1 rfl) rfl; have a8 := (in_c 1 rfl); unfold In at a8; have a9 := i21; unfold In at a9; have a10 := t_add e153 j21_3 (in_c 1 rfl) rfl; omega
            have n21a : ∀ v : Nat, v < 32 → (sc113.1 83 v).toInt < (z153).toInt := by intro v hv; have h := g113_1 v hv; have a0 := j113_4; unfold In at a0; have a1 := j21_3; unfold In at a1; have a2 := h2; unfold In at a2; have a3 := j113_1; unfold In at a3; have a4 := i116; unfold In at a4; have a5 := j113_5; unfold In at a5; have a6 := i156; unfold In at a6; have a7 := t_add e156 j113_4 (in_c 1 rfl) rfl; have a8 := (in_c 1 rfl); unfold In at a8; have a9 := i21; unfold In at a9; have a10 := t_add e153 j21_3 (in_c 1 rfl) rfl; omega
            exact gg_w (by omega) (gg_f (gf_cons rfl (gf_cons rfl (gf_cons rfl (gf_cons rfl (gf_cons rfl gf_nil))))) (ih21 sc113 z153 z156 hIc113 hFc113 i21 (in_w 0 32 i156 rfl) n21 n21a (m_up mm21 (t_add e156 j113_4 (in_c 1 rfl) rfl) (in_w 1 1 (in_c 1 rfl) rfl))))
          · skip
            have i116 := r_lt1 0 31 c116 j113_6 j113_1 rfl
            refine g_aload_n 120 (gd rfl) rfl rfl ?_
            refine g_getA (q2 := 83) 123 (gd rfl) rfl rfl rfl rfl ?_
            refine g_iload 125 (gd rfl) rfl rfl ?_
            refine g_iaload 126 (gd rfl) rfl (n := 32) rfl (in_ix j113_5 rfl) (fun z125 e125 => ?_)
            have i125 := inv_I hIc113 (n := 32) (t := 0) (-1) 31 rfl (in_ix j113_5 rfl) rfl e125
            refine g_iconst (-1) 127 (gd rfl) rfl rfl ?_
            refine g_cmp_ne 130 153 (gd rfl) rfl rfl (fun c127 => ?_) (fun c127 => ?_)
            · skip
              have i127 := r_ne1 0 31 c127 i125 (in_c (-1) rfl) rfl
              have hi : (y113_6).toInt ≠ 0 := (fun h => c127 ((by rw [e125]; exact g113_2 h : (z125).toInt = -1).trans (by decide)))
              have hr9 : (y21_3).toInt + 1 + (c1m (sc113.1 83) 32 : Int) ≤ 32 := (by have h := g113_0; rw [if_neg hi] at h; omega)
              refine g_iinc 156 (gd rfl) rfl rfl (Nat.le_of_ble_eq_true rfl) (fun z153 e153 => ?_)
              have i153 := in_add 1 33 e153 j21_3 (in_c 1 rfl) rfl rfl
              refine g_iinc 159 (gd rfl) rfl rfl (Nat.le_of_ble_eq_true rfl) (fun z156 e156 => ?_)
              have i156 := in_add 1 32 e156 j113_4 (in_c 1 rfl) rfl rfl
              refine g_goto 21 (gd rfl) rfl ?_
              have i21 : In z153 0 32 := by exact ⟨by have a0 := j113_4; unfold In at a0; have a1 := j21_3; unfold In at a1; have a2 := h2; unfold In at a2; have a3 := j113_1; unfold In at a3; have a4 := i116; unfold In at a4; have a5 := j113_5; unfold In at a5; have a6 := i156; unfold In at a6; have a7 := t_add e156 j113_4 (in_c 1 rfl) rfl; have a8 := (in_c 1 rfl); unfold In at a8; have a9 := i153; unfold In at a9; have a10 := t_add e153 j21_3 (in_c 1 rfl) rfl; omega, by have a0 := j113_4; unfold In at a0; have a1 := j21_3; unfold In at a1; have a2 := h2; unfold In at a2; have a3 := j113_1; unfold In at a3; have a4 := i116; unfold In at a4; have a5 := j113_5; unfold In at a5; have a6 := i156; unfold In at a6; have a7 := t_add e156 j113_4 (in_c 1 rfl) rfl; have a8 := (in_c 1 rfl); unfold In at a8; have a9 := i153; unfold In at a9; have a10 := t_add e153 j21_3 (in_c 1 rfl) rfl; omega⟩
              have n21 : (z153).toInt + (c1m (sc113.1 83) 32 : Int) ≤ 32 := by have a0 := j113_4; unfold In at a0; have a1 := j21_3; unfold In at a1; have a2 := h2; unfold In at a2; have a3 := j113_1; unfold In at a3; have a4 := i116; unfold In at a4; have a5 := j113_5; unfold In at a5; have a6 := i156; unfold In at a6; have a7 := t_add e156 j113_4 (in_c 1 rfl) rfl; have a8 := (in_c 1 rfl); unfold In at a8; have a9 := i21; unfold In at a9; have a10 := t_add e153 j21_3 (in_c 1 rfl) rfl; omega
              have n21a : ∀ v : Nat, v < 32 → (sc113.1 83 v).toInt < (z153).toInt := by intro v hv; have h := g113_1 v hv; have a0 := j113_4; unfold In at a0; have a1 := j21_3; unfold In at a1; have a2 := h2; unfold In at a2; have a3 := j113_1; unfold In at a3; have a4 := i116; unfold In at a4; have a5 := j113_5; unfold In at a5; have a6 := i156; unfold In at a6; have a7 := t_add e156 j113_4 (in_c 1 rfl) rfl; have a8 := (in_c 1 rfl); unfold In at a8; have a9 := i21; unfold In at a9; have a10 := t_add e153 j21_3 (in_c 1 rfl) rfl; omega
              exact gg_w (by omega) (gg_f (gf_cons rfl (gf_cons rfl (gf_cons rfl (gf_cons rfl (gf_cons rfl gf_nil))))) (ih21 sc113 z153 z156 hIc113 hFc113 i21 (in_w 0 32 i156 rfl) n21 n21a (m_up mm21 (t_add e156 j113_4 (in_c 1 rfl) rfl) (in_w 1 1 (in_c 1 rfl) rfl))))
            · skip
              have i127 := r_eq1 (-1) (-1) c127 i125 (in_c (-1) rfl) rfl
              refine g_aload_n 131 (gd rfl) rfl rfl ?_
              refine g_getA (q2 := 83) 134 (gd rfl) rfl rfl rfl rfl ?_
              refine g_iload 136 (gd rfl) rfl rfl ?_
              refine g_iload_n 137 (gd rfl) rfl rfl ?_
              have i137 : In y21_3 0 31 := by have hq := c1m_pos (w := sc113.1 83) (n := 32) (by rw [← e125]; exact c127.trans (by decide)) (show (y113_5).toNatClampNeg < 32 from (by show (y113_5).toInt.toNat < 32; have a0 := j113_4; unfold In at a0; have a1 := j21_3; unfold In at a1; have a2 := h2; unfold In at a2; have a3 := j113_1; unfold In at a3; have a4 := i116; unfold In at a4; have a5 := j113_5; unfold In at a5; omega)); have h := g113_0; split at h <;> exact ⟨by have a0 := j113_4; unfold In at a0; have a1 := j21_3; unfold In at a1; have a2 := h2; unfold In at a2; have a3 := j113_1; unfold In at a3; have a4 := i116; unfold In at a4; have a5 := j113_5; unfold In at a5; omega, by have a0 := j113_4; unfold In at a0; have a1 := j21_3; unfold In at a1; have a2 := h2; unfold In at a2; have a3 := j113_1; unfold In at a3; have a4 := i116; unfold In at a4; have a5 := j113_5; unfold In at a5; omega⟩
              refine g_iastore 138 (gd rfl) rfl (n := 32) rfl (in_ix j113_5 rfl) ?_
              have hI137 := inv_sI (q := 83) (j := y113_5.toNatClampNeg) hIc113 rfl (in_w (-1) 31 i137 rfl)
              refine g_aload_n 139 (gd rfl) rfl rfl ?_
              refine g_getA (q2 := 81) 142 (gd rfl) rfl rfl rfl rfl ?_
              refine g_iload 144 (gd rfl) rfl rfl ?_
              refine g_iaload 145 (gd rfl) rfl (n := 32) rfl (in_ix j113_5 rfl) (fun z144 e144 => ?_)
              have i144 := inv_I hI137 (n := 32) (t := 0) 0 31 rfl (in_ix j113_5 rfl) rfl e144
              refine g_istore 147 (gd rfl) rfl (Nat.le_of_ble_eq_true rfl) ?_
              refine g_iinc 150 (gd rfl) rfl rfl (Nat.le_of_ble_eq_true rfl) (fun z147 e147 => ?_)
              have i147 := in_add 1 32 e147 i116 (in_c 1 rfl) rfl rfl
              refine g_goto 113 (gd rfl) rfl ?_
              have n113 : (y21_3).toInt + (c1m ((sI sc113 83 y113_5.toNatClampNeg y21_3).1 83) 32 : Int) + (if (z147).toInt = 0 then 0 else 1) ≤ 32 := by rw [sI_q, if_neg (by have a0 := j113_4; unfold In at a0; have a1 := i137; unfold In at a1; have a2 := h2; unfold In at a2; have a3 := j113_1; unfold In at a3; have a4 := i116; unfold In at a4; have a5 := j113_5; unfold In at a5; have a6 := i147; unfold In at a6; have a7 := t_add e147 i116 (in_c 1 rfl) rfl; have a8 := (in_c 1 rfl); unfold In at a8; have a9 := i144; unfold In at a9; omega)]; have h := g113_0; have h2 := c1m_up (w := sc113.1 83) (j := (y113_5).toNatClampNeg) (x := y21_3) (by rw [← e125]; exact c127.trans (by decide)) (by have a0 := j113_4; unfold In at a0; have a1 := i137; unfold In at a1; have a2 := h2; unfold In at a2; have a3 := j113_1; unfold In at a3; have a4 := i116; unfold In at a4; have a5 := j113_5; unfold In at a5; have a6 := i147; unfold In at a6; have a7 := t_add e147 i116 (in_c 1 rfl) rfl; have a8 := (in_c 1 rfl); unfold In at a8; have a9 := i144; unfold In at a9; omega) (n := 32) (show (y113_5).toNatClampNeg < 32 from (by show (y113_5).toInt.toNat < 32; have a0 := j113_4; unfold In at a0; have a1 := i137; unfold In at a1; have a2 := h2; unfold In at a2; have a3 := j113_1; unfold In at a3; have a4 := i116; unfold In at a4; have a5 := j113_5; unfold In at a5; have a6 := i147; unfold In at a6; have a7 := t_add e147 i116 (in_c 1 rfl) rfl; have a8 := (in_c 1 rfl); unfold In at a8; have a9 := i144; unfold In at a9; omega)); split at h <;> omega
              have n113a : ∀ v : Nat, v < 32 → ((sI sc113 83 y113_5.toNatClampNeg y21_3).1 83 v).toInt ≤ (y21_3).toInt := by intro v hv; rw [sI_q]; unfold upd; by_cases hq : v = (y113_5).toNatClampNeg; (rw [if_pos hq]; exact Int.le_refl _); (rw [if_neg hq]; exact g113_1 v hv)
              have n113b : (z147).toInt = 0 → ((sI sc113 83 y113_5.toNatClampNeg y21_3).1 83 (z144).toNatClampNeg).toInt = -1 := by intro h; exfalso; have a0 := j113_4; unfold In at a0; have a1 := i137; unfold In at a1; have a2 := h2; unfold In at a2; have a3 := j113_1; unfold In at a3; have a4 := i116; unfold In at a4; have a5 := j113_5; unfold In at a5; have a6 := i147; unfold In at a6; have a7 := t_add e147 i116 (in_c 1 rfl) rfl; have a8 := (in_c 1 rfl); unfold In at a8; have a9 := i144; unfold In at a9; omega
              exact gg_w (by omega) (gg_f (gf_cons rfl (gf_cons rfl (gf_cons rfl (gf_cons rfl (gf_cons rfl (gf_cons rfl (gf_cons rfl gf_nil))))))) (ih113 (sI sc113 83 y113_5.toNatClampNeg y21_3) z144 z147 hI137 (fr_sI rfl hFc113) (in_w 1 32 j113_1 rfl) (in_w 0 31 j113_4 rfl) (in_w 0 31 i144 rfl) (in_w 0 32 i147 rfl) n113 n113a n113b (m_up mm113 (t_add e147 i116 (in_c 1 rfl) rfl) (in_w 1 1 (in_c 1 rfl) rfl))))
      have ct34 : ∀ (k34 : Nat) (sc34 : GS) (y34_5 : Int32) (y34_6 : Int32), Inv sc34 → Fr fm_183_76 s sc34 → (In x1 1 32) → (In y21_4 0 31) → (In y34_5 0 31) → (In y34_6 0 33) → ((y21_3).toInt + (c1m (sc34.1 83) 32 : Int) ≤ 32) → (∀ v : Nat, v < 32 → (sc34.1 83 v).toInt < (y21_3).toInt) → 33 - (y34_6).toInt < (k34 : Int) → GG Z (d - 1) 183 post (gx xp) (1 + k21 * 64802 + 29702 + k34 * 900) 34 (fun j => xlook j [(0, .ref (A 76)), (1, .int x1), (2, .int x2), (3, .int y21_3), (4, .int y21_4), (5, .int y34_5), (6, .int y34_6)]) [] (WW Z A sc34 ++ ex) 0 0 := by
        intro k34
        induction k34 with
        | zero => intro sc34 y34_5 y34_6 hIc34 hFc34 j34_1 j34_4 j34_5 j34_6 g34_0 g34_1 mm34; exact m_no mm34 j34_6 rfl
        | succ k34 ih34 =>
          intro sc34 y34_5 y34_6 hIc34 hFc34 j34_1 j34_4 j34_5 j34_6 g34_0 g34_1 mm34
          refine gg_w (M := 1 + k21 * 64802 + 29702 + k34 * 900 + 900) (by omega) ?_
          refine g_iload 36 (gd rfl) rfl rfl ?_
          refine g_iload_n 37 (gd rfl) rfl rfl ?_
          refine g_cmp_gt 40 81 (gd rfl) rfl rfl (fun c37 => ?_) (fun c37 => ?_)
          · skip
            have i37 := r_lt2 2 33 c37 j34_1 j34_6 rfl
            refine g_iload 83 (gd rfl) rfl rfl ?_
            refine g_iload_n 84 (gd rfl) rfl rfl ?_
            refine g_cmp_eq 87 156 (gd rfl) rfl rfl (fun c84 => ?_) (fun c84 => ?_)
            · skip
              refine g_iinc 159 (gd rfl) rfl rfl (Nat.le_of_ble_eq_true rfl) (fun z156 e156 => ?_)
              have i156 := in_add 1 32 e156 j34_4 (in_c 1 rfl) rfl rfl
              refine g_goto 21 (gd rfl) rfl ?_
              have n21 : (y21_3).toInt + (c1m (sc34.1 83) 32 : Int) ≤ 32 := by exact g34_0
              have n21a : ∀ v : Nat, v < 32 → (sc34.1 83 v).toInt < (y21_3).toInt := by exact g34_1
              exact gg_w (by omega) (gg_f (gf_cons rfl (gf_cons rfl (gf_cons rfl (gf_cons rfl (gf_cons rfl gf_nil))))) (ih21 sc34 y21_3 z156 hIc34 hFc34 (in_w 0 32 j21_3 rfl) (in_w 0 32 i156 rfl) n21 n21a (m_up mm21 (t_add e156 j34_4 (in_c 1 rfl) rfl) (in_w 1 1 (in_c 1 rfl) rfl))))
            · skip
              refine g_aload_n 88 (gd rfl) rfl rfl ?_
              refine g_getA (q2 := 82) 91 (gd rfl) rfl rfl rfl rfl ?_
              refine g_iload 93 (gd rfl) rfl rfl ?_
              refine g_iaload 94 (gd rfl) rfl (n := 32) rfl (in_ix j34_5 rfl) (fun z93 e93 => ?_)
              refine g_iload 96 (gd rfl) rfl rfl ?_
              refine g_cmp_ne 99 156 (gd rfl) rfl rfl (fun c96 => ?_) (fun c96 => ?_)
              · skip
                refine g_iinc 159 (gd rfl) rfl rfl (Nat.le_of_ble_eq_true rfl) (fun z156 e156 => ?_)
                have i156 := in_add 1 32 e156 j34_4 (in_c 1 rfl) rfl rfl
                refine g_goto 21 (gd rfl) rfl ?_
                have n21 : (y21_3).toInt + (c1m (sc34.1 83) 32 : Int) ≤ 32 := by exact g34_0
                have n21a : ∀ v : Nat, v < 32 → (sc34.1 83 v).toInt < (y21_3).toInt := by exact g34_1
                exact gg_w (by omega) (gg_f (gf_cons rfl (gf_cons rfl (gf_cons rfl (gf_cons rfl (gf_cons rfl gf_nil))))) (ih21 sc34 y21_3 z156 hIc34 hFc34 (in_w 0 32 j21_3 rfl) (in_w 0 32 i156 rfl) n21 n21a (m_up mm21 (t_add e156 j34_4 (in_c 1 rfl) rfl) (in_w 1 1 (in_c 1 rfl) rfl))))
              · skip
                have i96 := r_eq1 0 31 c96 (i_rng z93) j34_4 rfl
                refine g_aload_n 100 (gd rfl) rfl rfl ?_
                refine g_getA (q2 := 83) 103 (gd rfl) rfl rfl rfl rfl ?_
                refine g_iload 105 (gd rfl) rfl rfl ?_
                refine g_iaload 106 (gd rfl) rfl (n := 32) rfl (in_ix j34_5 rfl) (fun z105 e105 => ?_)
                have i105 := inv_I hIc34 (n := 32) (t := 0) (-1) 31 rfl (in_ix j34_5 rfl) rfl e105
                refine g_iconst (-1) 107 (gd rfl) rfl rfl ?_
                refine g_cmp_ne 110 156 (gd rfl) rfl rfl (fun c107 => ?_) (fun c107 => ?_)
                · skip
                  have i107 := r_ne1 0 31 c107 i105 (in_c (-1) rfl) rfl
                  refine g_iinc 159 (gd rfl) rfl rfl (Nat.le_of_ble_eq_true rfl) (fun z156 e156 => ?_)
                  have i156 := in_add 1 32 e156 j34_4 (in_c 1 rfl) rfl rfl
                  refine g_goto 21 (gd rfl) rfl ?_
                  have n21 : (y21_3).toInt + (c1m (sc34.1 83) 32 : Int) ≤ 32 := by exact g34_0
                  have n21a : ∀ v : Nat, v < 32 → (sc34.1 83 v).toInt < (y21_3).toInt := by exact g34_1
                  exact gg_w (by omega) (gg_f (gf_cons rfl (gf_cons rfl (gf_cons rfl (gf_cons rfl (gf_cons rfl gf_nil))))) (ih21 sc34 y21_3 z156 hIc34 hFc34 (in_w 0 32 j21_3 rfl) (in_w 0 32 i156 rfl) n21 n21a (m_up mm21 (t_add e156 j34_4 (in_c 1 rfl) rfl) (in_w 1 1 (in_c 1 rfl) rfl))))
                · skip
                  have i107 := r_eq1 (-1) (-1) c107 i105 (in_c (-1) rfl) rfl
                  refine g_iconst 0 111 (gd rfl) rfl rfl ?_
                  refine g_istore 113 (gd rfl) rfl (Nat.le_of_ble_eq_true rfl) ?_
                  have n113 : (y21_3).toInt + (c1m (sc34.1 83) 32 : Int) + (if ((Int32.ofInt 0)).toInt = 0 then 0 else 1) ≤ 32 := by rw [if_pos (show (Int32.ofInt 0).toInt = 0 from (by decide))]; have h := g34_0; omega
                  have n113a : ∀ v : Nat, v < 32 → (sc34.1 83 v).toInt ≤ (y21_3).toInt := by intro v hv; exact Int.le_of_lt (g34_1 v hv)
                  have n113b : ((Int32.ofInt 0)).toInt = 0 → (sc34.1 83 (y34_5).toNatClampNeg).toInt = -1 := by intro _; rw [← e105]; exact c107.trans (by decide)
                  exact gg_w (by omega) (gg_f (gf_cons rfl (gf_cons rfl (gf_cons rfl (gf_cons rfl (gf_cons rfl (gf_cons rfl (gf_cons rfl gf_nil))))))) (ct113 33 sc34 y34_5 (Int32.ofInt 0) hIc34 hFc34 (in_w 1 32 j34_1 rfl) (in_w 0 31 j34_4 rfl) (in_w 0 31 j34_5 rfl) (in_w 0 32 (in_c 0 rfl) rfl) n113 n113a n113b (m_in 33 (in_w 0 32 (in_c 0 rfl) rfl) rfl)))
          · skip
            have i37 := r_le1 0 32 c37 j34_6 j34_1 rfl
            refine g_iload 42 (gd rfl) rfl rfl ?_
            refine g_iload_n 43 (gd rfl) rfl rfl ?_
            refine g_cmp_eq 46 81 (gd rfl) rfl rfl (fun c43 => ?_) (fun c43 => ?_)
            · skip
              refine g_iload 83 (gd rfl) rfl rfl ?_
              refine g_iload_n 84 (gd rfl) rfl rfl ?_
              refine g_cmp_eq 87 156 (gd rfl) rfl rfl (fun c84 => ?_) (fun c84 => ?_)
              · skip
                refine g_iinc 159 (gd rfl) rfl rfl (Nat.le_of_ble_eq_true rfl) (fun z156 e156 => ?_)
                have i156 := in_add 1 32 e156 j34_4 (in_c 1 rfl) rfl rfl
                refine g_goto 21 (gd rfl) rfl ?_
                have n21 : (y21_3).toInt + (c1m (sc34.1 83) 32 : Int) ≤ 32 := by exact g34_0
                have n21a : ∀ v : Nat, v < 32 → (sc34.1 83 v).toInt < (y21_3).toInt := by exact g34_1
                exact gg_w (by omega) (gg_f (gf_cons rfl (gf_cons rfl (gf_cons rfl (gf_cons rfl (gf_cons rfl gf_nil))))) (ih21 sc34 y21_3 z156 hIc34 hFc34 (in_w 0 32 j21_3 rfl) (in_w 0 32 i156 rfl) n21 n21a (m_up mm21 (t_add e156 j34_4 (in_c 1 rfl) rfl) (in_w 1 1 (in_c 1 rfl) rfl))))
              · skip
                refine g_aload_n 88 (gd rfl) rfl rfl ?_
                refine g_getA (q2 := 82) 91 (gd rfl) rfl rfl rfl rfl ?_
                refine g_iload 93 (gd rfl) rfl rfl ?_
                refine g_iaload 94 (gd rfl) rfl (n := 32) rfl (in_ix j34_5 rfl) (fun z93 e93 => ?_)
                refine g_iload 96 (gd rfl) rfl rfl ?_
                refine g_cmp_ne 99 156 (gd rfl) rfl rfl (fun c96 => ?_) (fun c96 => ?_)
                · skip
                  refine g_iinc 159 (gd rfl) rfl rfl (Nat.le_of_ble_eq_true rfl) (fun z156 e156 => ?_)
                  have i156 := in_add 1 32 e156 j34_4 (in_c 1 rfl) rfl rfl
                  refine g_goto 21 (gd rfl) rfl ?_
                  have n21 : (y21_3).toInt + (c1m (sc34.1 83) 32 : Int) ≤ 32 := by exact g34_0
                  have n21a : ∀ v : Nat, v < 32 → (sc34.1 83 v).toInt < (y21_3).toInt := by exact g34_1
                  exact gg_w (by omega) (gg_f (gf_cons rfl (gf_cons rfl (gf_cons rfl (gf_cons rfl (gf_cons rfl gf_nil))))) (ih21 sc34 y21_3 z156 hIc34 hFc34 (in_w 0 32 j21_3 rfl) (in_w 0 32 i156 rfl) n21 n21a (m_up mm21 (t_add e156 j34_4 (in_c 1 rfl) rfl) (in_w 1 1 (in_c 1 rfl) rfl))))
                · skip
                  have i96 := r_eq1 0 31 c96 (i_rng z93) j34_4 rfl
                  refine g_aload_n 100 (gd rfl) rfl rfl ?_
                  refine g_getA (q2 := 83) 103 (gd rfl) rfl rfl rfl rfl ?_
                  refine g_iload 105 (gd rfl) rfl rfl ?_
                  refine g_iaload 106 (gd rfl) rfl (n := 32) rfl (in_ix j34_5 rfl) (fun z105 e105 => ?_)
                  have i105 := inv_I hIc34 (n := 32) (t := 0) (-1) 31 rfl (in_ix j34_5 rfl) rfl e105
                  refine g_iconst (-1) 107 (gd rfl) rfl rfl ?_
                  refine g_cmp_ne 110 156 (gd rfl) rfl rfl (fun c107 => ?_) (fun c107 => ?_)
                  · skip
                    have i107 := r_ne1 0 31 c107 i105 (in_c (-1) rfl) rfl
                    refine g_iinc 159 (gd rfl) rfl rfl (Nat.le_of_ble_eq_true rfl) (fun z156 e156 => ?_)
                    have i156 := in_add 1 32 e156 j34_4 (in_c 1 rfl) rfl rfl
                    refine g_goto 21 (gd rfl) rfl ?_
                    have n21 : (y21_3).toInt + (c1m (sc34.1 83) 32 : Int) ≤ 32 := by exact g34_0
                    have n21a : ∀ v : Nat, v < 32 → (sc34.1 83 v).toInt < (y21_3).toInt := by exact g34_1
                    exact gg_w (by omega) (gg_f (gf_cons rfl (gf_cons rfl (gf_cons rfl (gf_cons rfl (gf_cons rfl gf_nil))))) (ih21 sc34 y21_3 z156 hIc34 hFc34 (in_w 0 32 j21_3 rfl) (in_w 0 32 i156 rfl) n21 n21a (m_up mm21 (t_add e156 j34_4 (in_c 1 rfl) rfl) (in_w 1 1 (in_c 1 rfl) rfl))))
                  · skip
                    have i107 := r_eq1 (-1) (-1) c107 i105 (in_c (-1) rfl) rfl
                    refine g_iconst 0 111 (gd rfl) rfl rfl ?_
                    refine g_istore 113 (gd rfl) rfl (Nat.le_of_ble_eq_true rfl) ?_
                    have n113 : (y21_3).toInt + (c1m (sc34.1 83) 32 : Int) + (if ((Int32.ofInt 0)).toInt = 0 then 0 else 1) ≤ 32 := by rw [if_pos (show (Int32.ofInt 0).toInt = 0 from (by decide))]; have h := g34_0; omega
                    have n113a : ∀ v : Nat, v < 32 → (sc34.1 83 v).toInt ≤ (y21_3).toInt := by intro v hv; exact Int.le_of_lt (g34_1 v hv)
                    have n113b : ((Int32.ofInt 0)).toInt = 0 → (sc34.1 83 (y34_5).toNatClampNeg).toInt = -1 := by intro _; rw [← e105]; exact c107.trans (by decide)
                    exact gg_w (by omega) (gg_f (gf_cons rfl (gf_cons rfl (gf_cons rfl (gf_cons rfl (gf_cons rfl (gf_cons rfl (gf_cons rfl gf_nil))))))) (ct113 33 sc34 y34_5 (Int32.ofInt 0) hIc34 hFc34 (in_w 1 32 j34_1 rfl) (in_w 0 31 j34_4 rfl) (in_w 0 31 j34_5 rfl) (in_w 0 32 (in_c 0 rfl) rfl) n113 n113a n113b (m_in 33 (in_w 0 32 (in_c 0 rfl) rfl) rfl)))
            · skip
              refine g_aload_n 47 (gd rfl) rfl rfl ?_
              refine g_getA (q2 := 82) 50 (gd rfl) rfl rfl rfl rfl ?_
              refine g_iload 52 (gd rfl) rfl rfl ?_
              refine g_iaload 53 (gd rfl) rfl (n := 32) rfl (in_ix j34_5 rfl) (fun z52 e52 => ?_)
              refine g_iconst (-1) 54 (gd rfl) rfl rfl ?_
              refine g_cmp_ne 57 81 (gd rfl) rfl rfl (fun c54 => ?_) (fun c54 => ?_)
              · skip
                refine g_iload 83 (gd rfl) rfl rfl ?_
                refine g_iload_n 84 (gd rfl) rfl rfl ?_
                refine g_cmp_eq 87 156 (gd rfl) rfl rfl (fun c84 => ?_) (fun c84 => ?_)
                · skip
                  refine g_iinc 159 (gd rfl) rfl rfl (Nat.le_of_ble_eq_true rfl) (fun z156 e156 => ?_)
                  have i156 := in_add 1 32 e156 j34_4 (in_c 1 rfl) rfl rfl
                  refine g_goto 21 (gd rfl) rfl ?_
                  have n21 : (y21_3).toInt + (c1m (sc34.1 83) 32 : Int) ≤ 32 := by exact g34_0
                  have n21a : ∀ v : Nat, v < 32 → (sc34.1 83 v).toInt < (y21_3).toInt := by exact g34_1
                  exact gg_w (by omega) (gg_f (gf_cons rfl (gf_cons rfl (gf_cons rfl (gf_cons rfl (gf_cons rfl gf_nil))))) (ih21 sc34 y21_3 z156 hIc34 hFc34 (in_w 0 32 j21_3 rfl) (in_w 0 32 i156 rfl) n21 n21a (m_up mm21 (t_add e156 j34_4 (in_c 1 rfl) rfl) (in_w 1 1 (in_c 1 rfl) rfl))))
                · skip
                  refine g_aload_n 88 (gd rfl) rfl rfl ?_
                  refine g_getA (q2 := 82) 91 (gd rfl) rfl rfl rfl rfl ?_
                  refine g_iload 93 (gd rfl) rfl rfl ?_
                  refine g_iaload 94 (gd rfl) rfl (n := 32) rfl (in_ix j34_5 rfl) (fun z93 e93 => ?_)
                  have q93 : z52 = z93 := (e52).trans e93.symm
                  subst q93
                  refine g_iload 96 (gd rfl) rfl rfl ?_
                  refine g_cmp_ne 99 156 (gd rfl) rfl rfl (fun c96 => ?_) (fun c96 => ?_)
                  · skip
                    refine g_iinc 159 (gd rfl) rfl rfl (Nat.le_of_ble_eq_true rfl) (fun z156 e156 => ?_)
                    have i156 := in_add 1 32 e156 j34_4 (in_c 1 rfl) rfl rfl
                    refine g_goto 21 (gd rfl) rfl ?_
                    have n21 : (y21_3).toInt + (c1m (sc34.1 83) 32 : Int) ≤ 32 := by exact g34_0
                    have n21a : ∀ v : Nat, v < 32 → (sc34.1 83 v).toInt < (y21_3).toInt := by exact g34_1
                    exact gg_w (by omega) (gg_f (gf_cons rfl (gf_cons rfl (gf_cons rfl (gf_cons rfl (gf_cons rfl gf_nil))))) (ih21 sc34 y21_3 z156 hIc34 hFc34 (in_w 0 32 j21_3 rfl) (in_w 0 32 i156 rfl) n21 n21a (m_up mm21 (t_add e156 j34_4 (in_c 1 rfl) rfl) (in_w 1 1 (in_c 1 rfl) rfl))))
                  · skip
                    have i96 := r_eq1 0 31 c96 (i_rng z52) j34_4 rfl
                    refine g_aload_n 100 (gd rfl) rfl rfl ?_
                    refine g_getA (q2 := 83) 103 (gd rfl) rfl rfl rfl rfl ?_
                    refine g_iload 105 (gd rfl) rfl rfl ?_
                    refine g_iaload 106 (gd rfl) rfl (n := 32) rfl (in_ix j34_5 rfl) (fun z105 e105 => ?_)
                    have i105 := inv_I hIc34 (n := 32) (t := 0) (-1) 31 rfl (in_ix j34_5 rfl) rfl e105
                    refine g_iconst (-1) 107 (gd rfl) rfl rfl ?_
                    refine g_cmp_ne 110 156 (gd rfl) rfl rfl (fun c107 => ?_) (fun c107 => ?_)
                    · skip
                      have i107 := r_ne1 0 31 c107 i105 (in_c (-1) rfl) rfl
                      refine g_iinc 159 (gd rfl) rfl rfl (Nat.le_of_ble_eq_true rfl) (fun z156 e156 => ?_)
                      have i156 := in_add 1 32 e156 j34_4 (in_c 1 rfl) rfl rfl
                      refine g_goto 21 (gd rfl) rfl ?_
                      have n21 : (y21_3).toInt + (c1m (sc34.1 83) 32 : Int) ≤ 32 := by exact g34_0
                      have n21a : ∀ v : Nat, v < 32 → (sc34.1 83 v).toInt < (y21_3).toInt := by exact g34_1
                      exact gg_w (by omega) (gg_f (gf_cons rfl (gf_cons rfl (gf_cons rfl (gf_cons rfl (gf_cons rfl gf_nil))))) (ih21 sc34 y21_3 z156 hIc34 hFc34 (in_w 0 32 j21_3 rfl) (in_w 0 32 i156 rfl) n21 n21a (m_up mm21 (t_add e156 j34_4 (in_c 1 rfl) rfl) (in_w 1 1 (in_c 1 rfl) rfl))))
                    · skip
                      have i107 := r_eq1 (-1) (-1) c107 i105 (in_c (-1) rfl) rfl
                      refine g_iconst 0 111 (gd rfl) rfl rfl ?_
                      refine g_istore 113 (gd rfl) rfl (Nat.le_of_ble_eq_true rfl) ?_
                      have n113 : (y21_3).toInt + (c1m (sc34.1 83) 32 : Int) + (if ((Int32.ofInt 0)).toInt = 0 then 0 else 1) ≤ 32 := by rw [if_pos (show (Int32.ofInt 0).toInt = 0 from (by decide))]; have h := g34_0; omega
                      have n113a : ∀ v : Nat, v < 32 → (sc34.1 83 v).toInt ≤ (y21_3).toInt := by intro v hv; exact Int.le_of_lt (g34_1 v hv)
                      have n113b : ((Int32.ofInt 0)).toInt = 0 → (sc34.1 83 (y34_5).toNatClampNeg).toInt = -1 := by intro _; rw [← e105]; exact c107.trans (by decide)
                      exact gg_w (by omega) (gg_f (gf_cons rfl (gf_cons rfl (gf_cons rfl (gf_cons rfl (gf_cons rfl (gf_cons rfl (gf_cons rfl gf_nil))))))) (ct113 33 sc34 y34_5 (Int32.ofInt 0) hIc34 hFc34 (in_w 1 32 j34_1 rfl) (in_w 0 31 j34_4 rfl) (in_w 0 31 j34_5 rfl) (in_w 0 32 (in_c 0 rfl) rfl) n113 n113a n113b (m_in 33 (in_w 0 32 (in_c 0 rfl) rfl) rfl)))
              · skip
                have i54 := r_eq1 (-1) (-1) c54 (i_rng z52) (in_c (-1) rfl) rfl
                refine g_aload_n 58 (gd rfl) rfl rfl ?_
                refine g_getA (q2 := 82) 61 (gd rfl) rfl rfl rfl rfl ?_
                refine g_iload 63 (gd rfl) rfl rfl ?_
                refine g_iload 65 (gd rfl) rfl rfl ?_
                refine g_iastore 66 (gd rfl) rfl (n := 32) rfl (in_ix j34_5 rfl) ?_
                have hI65 := inv_sI (q := 82) (j := y34_5.toNatClampNeg) hIc34 rfl (in_w (-2147483648) 2147483647 j34_4 rfl)
                refine g_aload_n 67 (gd rfl) rfl rfl ?_
                refine g_getA (q2 := 81) 70 (gd rfl) rfl rfl rfl rfl ?_
                refine g_iload 72 (gd rfl) rfl rfl ?_
                refine g_iaload 73 (gd rfl) rfl (n := 32) rfl (in_ix j34_5 rfl) (fun z72 e72 => ?_)
                have i72 := inv_I hI65 (n := 32) (t := 0) 0 31 rfl (in_ix j34_5 rfl) rfl e72
                refine g_istore 75 (gd rfl) rfl (Nat.le_of_ble_eq_true rfl) ?_
                refine g_iinc 78 (gd rfl) rfl rfl (Nat.le_of_ble_eq_true rfl) (fun z75 e75 => ?_)
                have i75 := in_add 1 33 e75 i37 (in_c 1 rfl) rfl rfl
                refine g_goto 34 (gd rfl) rfl ?_
                have n34 : (y21_3).toInt + (c1m ((sI sc34 82 y34_5.toNatClampNeg y21_4).1 83) 32 : Int) ≤ 32 := by rw [sI_r rfl]; exact g34_0
                have n34a : ∀ v : Nat, v < 32 → ((sI sc34 82 y34_5.toNatClampNeg y21_4).1 83 v).toInt < (y21_3).toInt := by rw [sI_r rfl]; exact g34_1
                exact gg_w (by omega) (gg_f (gf_cons rfl (gf_cons rfl (gf_cons rfl (gf_cons rfl (gf_cons rfl (gf_cons rfl (gf_cons rfl gf_nil))))))) (ih34 (sI sc34 82 y34_5.toNatClampNeg y21_4) z72 z75 hI65 (fr_sI rfl hFc34) (in_w 1 32 j34_1 rfl) (in_w 0 31 j34_4 rfl) (in_w 0 31 i72 rfl) (in_w 0 33 i75 rfl) n34 n34a (m_up mm34 (t_add e75 i37 (in_c 1 rfl) rfl) (in_w 1 1 (in_c 1 rfl) rfl))))
      refine g_iload 23 (gd rfl) rfl rfl ?_
      refine g_iload_n 24 (gd rfl) rfl rfl ?_
      refine g_cmp_ge 27 162 (gd rfl) rfl rfl (fun c24 => ?_) (fun c24 => ?_)
      · skip
        refine g_iload_n 163 (gd rfl) rfl rfl ?_
        have n163 : (y21_3).toInt + (c1m (sc21.1 83) 32 : Int) ≤ 32 := by exact g21_0
        have n163a : ∀ v : Nat, v < 32 → (sc21.1 83 v).toInt < (y21_3).toInt := by exact g21_1
        exact g_ireturn (gd rfl) rfl rfl (hP _ _ ⟨sc21, hIc21, hFc21, y21_3, rfl, rfl, in_w 0 32 j21_3 rfl, n163, n163a⟩)
      · skip
        have i24 := r_lt1 0 31 c24 j21_4 h1 rfl
        have i24a := r_lt2 1 32 c24 j21_4 h1 rfl
        refine g_iload 29 (gd rfl) rfl rfl ?_
        refine g_istore 31 (gd rfl) rfl (Nat.le_of_ble_eq_true rfl) ?_
        refine g_iconst 0 32 (gd rfl) rfl rfl ?_
        refine g_istore 34 (gd rfl) rfl (Nat.le_of_ble_eq_true rfl) ?_
        have n34 : (y21_3).toInt + (c1m (sc21.1 83) 32 : Int) ≤ 32 := by exact g21_0
        have n34a : ∀ v : Nat, v < 32 → (sc21.1 83 v).toInt < (y21_3).toInt := by exact g21_1
        exact gg_w (by omega) (gg_f (gf_cons rfl (gf_cons rfl (gf_cons rfl (gf_cons rfl (gf_cons rfl (gf_cons rfl (gf_cons rfl gf_nil))))))) (ct34 34 sc21 y21_4 (Int32.ofInt 0) hIc21 hFc21 (in_w 1 32 i24a rfl) (in_w 0 31 i24 rfl) (in_w 0 31 i24 rfl) (in_w 0 33 (in_c 0 rfl) rfl) n34 n34a (m_in 34 (in_w 0 33 (in_c 0 rfl) rfl) rfl)))
  refine g_enter2 (k := 183) (N := 2139367) (by omega) rfl (Nat.le_of_ble_eq_true rfl) ?_
  refine g_iconst 0 1 (gd rfl) rfl rfl ?_
  refine g_istore_n 2 (gd rfl) rfl (Nat.le_of_ble_eq_true rfl) ?_
  refine g_aload_n 3 (gd rfl) rfl rfl ?_
  refine g_getA (q2 := 83) 6 (gd rfl) rfl rfl rfl rfl ?_
  refine g_iconst (-1) 7 (gd rfl) rfl rfl ?_
  refine g_calls (As := [.ref (A 83), .int (Int32.ofInt (-1))]) (r := []) 10 (gd rfl) rfl rfl rfl rfl rfl (Nat.le_of_ble_eq_true rfl) (Nat.zero_le _) (Nat.zero_le _) (k_fillI 83 (by omega) hI (in_c (-1) rfl) (n := 32) rfl rfl rfl rfl) (fun v u h => ?_)
  obtain ⟨s7, hI7, hF7, rfl, rfl, fl7⟩ := h
  show GG _ _ _ _ _ _ _ _ [] _ _ _
  refine g_aload_n 11 (gd rfl) rfl rfl ?_
  refine g_getA (q2 := 82) 14 (gd rfl) rfl rfl rfl rfl ?_
  refine g_iconst (-1) 15 (gd rfl) rfl rfl ?_
  refine g_calls (As := [.ref (A 82), .int (Int32.ofInt (-1))]) (r := []) 18 (gd rfl) rfl rfl rfl rfl rfl (Nat.le_of_ble_eq_true rfl) (Nat.zero_le _) (Nat.zero_le _) (k_fillI 82 (by omega) hI7 (in_c (-1) rfl) (n := 32) rfl rfl rfl rfl) (fun v u h => ?_)
  obtain ⟨s15, hI15, hF15, rfl, rfl, fl15⟩ := h
  show GG _ _ _ _ _ _ _ _ [] _ _ _
  refine g_iconst 0 19 (gd rfl) rfl rfl ?_
  refine g_istore 21 (gd rfl) rfl (Nat.le_of_ble_eq_true rfl) ?_
  have n21 : ((Int32.ofInt 0)).toInt + (c1m (s15.1 83) 32 : Int) ≤ 32 := by have hq := c1m_le (w := s15.1 83) 32; have c0 : (Int32.ofInt 0).toInt = 0 := (by decide); omega
  have n21a : ∀ v : Nat, v < 32 → (s15.1 83 v).toInt < ((Int32.ofInt 0)).toInt := by intro v hv; rw [hF15.1 83 rfl, fl7 v hv]; decide
  exact gg_w (by omega) (gg_f (gf_cons rfl (gf_cons rfl (gf_cons rfl (gf_cons rfl (gf_cons rfl gf_nil))))) (ct21 33 s15 (Int32.ofInt 0) (Int32.ofInt 0) hI15 (fr_tr rfl (fr_tr rfl fr_rf hF7) hF15) (in_w 0 32 (in_c 0 rfl) rfl) (in_w 0 32 (in_c 0 rfl) rfl) n21 n21a (m_in 33 (in_w 0 32 (in_c 0 rfl) rfl) rfl)))

def fm_184_76 : FM := ([83], [], [], [])
/-- GraphHouse$Trees.nameOthers -/
theorem k_184_76 {Z : AmZ} {A : Nat → Nat} {s : GS} {ex : va_W} {d : Nat} {X : AmX} {x1 : Int32} {x2 : Int32} (hd : 1 ≤ d) (hI : Inv s) (h1 : In x1 0 32) (h2 : In x2 0 32) (q_0 : (x2).toInt + (c1m (s.1 83) 32 : Int) ≤ 32) (q_1 : ∀ v : Nat, v < 32 → (s.1 83 v).toInt < (x2).toInt) : GC Z d 184 [.ref (A 76), .int x1, .int x2] (WW Z A s ++ ex) 0 0 (fun v u => ∃ t : GS, Inv t ∧ Fr fm_184_76 s t ∧ ∃ z : Int32, v = some (.int z) ∧ u = WW Z A t ++ ex ∧ In z 0 32 ∧ (RN t (x1).toInt (z).toInt)) X := by
  intro post xp hP hX
  have ct5 : ∀ (k5 : Nat) (sc5 : GS) (y5_3 : Int32) (y5_4 : Int32), Inv sc5 → Fr fm_184_76 s sc5 → (In y5_3 0 32) → (In y5_4 0 32) → ((y5_3).toInt + (c1m (sc5.1 83) 32 : Int) ≤ 32) → (∀ v : Nat, v < 32 → (sc5.1 83 v).toInt < (y5_3).toInt) → (∀ i : Nat, (i : Int) < (y5_4).toInt → 0 ≤ (sc5.1 83 i).toInt) → 32 - (y5_4).toInt < (k5 : Int) → GG Z (d - 1) 184 post (gx xp) (1 + k5 * 900) 5 (fun j => xlook j [(0, .ref (A 76)), (1, .int x1), (2, .int x2), (3, .int y5_3), (4, .int y5_4)]) [] (WW Z A sc5 ++ ex) 0 0 := by
    intro k5
    induction k5 with
    | zero => intro sc5 y5_3 y5_4 hIc5 hFc5 j5_3 j5_4 g5_0 g5_1 g5_2 mm5; exact m_no mm5 j5_4 rfl
    | succ k5 ih5 =>
      intro sc5 y5_3 y5_4 hIc5 hFc5 j5_3 j5_4 g5_0 g5_1 g5_2 mm5
      refine gg_w (M := 1 + k5 * 900 + 900) (by omega) ?_
      refine g_iload 7 (gd rfl) rfl rfl ?_
      refine g_iload_n 8 (gd rfl) rfl rfl ?_
      refine g_cmp_ge 11 39 (gd rfl) rfl rfl (fun c8 => ?_) (fun c8 => ?_)
      · skip
        refine g_iload_n 40 (gd rfl) rfl rfl ?_
        have n40 : RN sc5 (x1).toInt (y5_3).toInt := by exact fun v hv => ⟨g5_1 v hv, fun h => g5_2 v (by have a0 := h2; unfold In at a0; have a1 := h1; unfold In at a1; have a2 := j5_4; unfold In at a2; have a3 := j5_3; unfold In at a3; omega)⟩
        exact g_ireturn (gd rfl) rfl rfl (hP _ _ ⟨sc5, hIc5, hFc5, y5_3, rfl, rfl, in_w 0 32 j5_3 rfl, n40⟩)
      · skip
        have i8 := r_lt1 0 31 c8 j5_4 h1 rfl
        have i8a := r_lt2 1 32 c8 j5_4 h1 rfl
        refine g_aload_n 12 (gd rfl) rfl rfl ?_
        refine g_getA (q2 := 83) 15 (gd rfl) rfl rfl rfl rfl ?_
        refine g_iload 17 (gd rfl) rfl rfl ?_
        refine g_iaload 18 (gd rfl) rfl (n := 32) rfl (in_ix i8 rfl) (fun z17 e17 => ?_)
        have i17 := inv_I hIc5 (n := 32) (t := 0) (-1) 31 rfl (in_ix i8 rfl) rfl e17
        refine g_iconst (-1) 19 (gd rfl) rfl rfl ?_
        refine g_cmp_ne 22 33 (gd rfl) rfl rfl (fun c19 => ?_) (fun c19 => ?_)
        · skip
          have i19 := r_ne1 0 31 c19 i17 (in_c (-1) rfl) rfl
          refine g_iinc 36 (gd rfl) rfl rfl (Nat.le_of_ble_eq_true rfl) (fun z33 e33 => ?_)
          have i33 := in_add 1 32 e33 i8 (in_c 1 rfl) rfl rfl
          refine g_goto 5 (gd rfl) rfl ?_
          have n5 : (y5_3).toInt + (c1m (sc5.1 83) 32 : Int) ≤ 32 := by exact g5_0
          have n5a : ∀ v : Nat, v < 32 → (sc5.1 83 v).toInt < (y5_3).toInt := by exact g5_1
          have n5b : ∀ i : Nat, (i : Int) < (z33).toInt → 0 ≤ (sc5.1 83 i).toInt := by intro i hi; by_cases hq : i = (y5_4).toNatClampNeg; (rw [hq, ← e17]; have c0 : (Int32.ofInt (-1)).toInt = -1 := (by decide); have h7 := i17; unfold In at h7; have a0 := h2; unfold In at a0; have a1 := i8a; unfold In at a1; have a2 := i8; unfold In at a2; have a3 := j5_3; unfold In at a3; have a4 := i33; unfold In at a4; have a5 := t_add e33 i8 (in_c 1 rfl) rfl; have a6 := (in_c 1 rfl); unfold In at a6; omega); (exact g5_2 i (by have e9 : (y5_4).toNatClampNeg = (y5_4).toInt.toNat := rfl; have a0 := h2; unfold In at a0; have a1 := i8a; unfold In at a1; have a2 := i8; unfold In at a2; have a3 := j5_3; unfold In at a3; have a4 := i33; unfold In at a4; have a5 := t_add e33 i8 (in_c 1 rfl) rfl; have a6 := (in_c 1 rfl); unfold In at a6; omega))
          exact gg_w (by omega) (gg_f (gf_cons rfl (gf_cons rfl (gf_cons rfl (gf_cons rfl (gf_cons rfl gf_nil))))) (ih5 sc5 y5_3 z33 hIc5 hFc5 (in_w 0 32 j5_3 rfl) (in_w 0 32 i33 rfl) n5 n5a n5b (m_up mm5 (t_add e33 i8 (in_c 1 rfl) rfl) (in_w 1 1 (in_c 1 rfl) rfl))))
        · skip
          have i19 := r_eq1 (-1) (-1) c19 i17 (in_c (-1) rfl) rfl
          refine g_aload_n 23 (gd rfl) rfl rfl ?_
          refine g_getA (q2 := 83) 26 (gd rfl) rfl rfl rfl rfl ?_
          refine g_iload 28 (gd rfl) rfl rfl ?_
          refine g_iload_n 29 (gd rfl) rfl rfl ?_
          have i29 : In y5_3 0 31 := by have hq := c1m_pos (w := sc5.1 83) (n := 32) (by rw [← e17]; exact c19.trans (by decide)) (show (y5_4).toNatClampNeg < 32 from (by show (y5_4).toInt.toNat < 32; have a0 := h2; unfold In at a0; have a1 := i8a; unfold In at a1; have a2 := i8; unfold In at a2; have a3 := j5_3; unfold In at a3; omega)); have h := g5_0; exact ⟨by have a0 := h2; unfold In at a0; have a1 := i8a; unfold In at a1; have a2 := i8; unfold In at a2; have a3 := j5_3; unfold In at a3; omega, by have a0 := h2; unfold In at a0; have a1 := i8a; unfold In at a1; have a2 := i8; unfold In at a2; have a3 := j5_3; unfold In at a3; omega⟩
          refine g_iastore 30 (gd rfl) rfl (n := 32) rfl (in_ix i8 rfl) ?_
          have hI29 := inv_sI (q := 83) (j := y5_4.toNatClampNeg) hIc5 rfl (in_w (-1) 31 i29 rfl)
          have hup := c1m_up (w := sc5.1 83) (j := (y5_4).toNatClampNeg) (x := y5_3) (by rw [← e17]; exact c19.trans (by decide)) (by have a0 := h2; unfold In at a0; have a1 := i8a; unfold In at a1; have a2 := i8; unfold In at a2; have a3 := i29; unfold In at a3; omega) (n := 32) (show (y5_4).toNatClampNeg < 32 from (by show (y5_4).toInt.toNat < 32; have a0 := h2; unfold In at a0; have a1 := i8a; unfold In at a1; have a2 := i8; unfold In at a2; have a3 := i29; unfold In at a3; omega))
          refine g_iinc 33 (gd rfl) rfl rfl (Nat.le_of_ble_eq_true rfl) (fun z30 e30 => ?_)
          have i30 := in_add 1 32 e30 i29 (in_c 1 rfl) rfl rfl
          refine g_iinc 36 (gd rfl) rfl rfl (Nat.le_of_ble_eq_true rfl) (fun z33 e33 => ?_)
          have i33 := in_add 1 32 e33 i8 (in_c 1 rfl) rfl rfl
          refine g_goto 5 (gd rfl) rfl ?_
          have n5 : (z30).toInt + (c1m ((sI sc5 83 y5_4.toNatClampNeg y5_3).1 83) 32 : Int) ≤ 32 := by rw [sI_q]; have a0 := h2; unfold In at a0; have a1 := i8a; unfold In at a1; have a2 := i8; unfold In at a2; have a3 := i29; unfold In at a3; have a4 := i33; unfold In at a4; have a5 := t_add e33 i8 (in_c 1 rfl) rfl; have a6 := (in_c 1 rfl); unfold In at a6; have a7 := i30; unfold In at a7; have a8 := t_add e30 i29 (in_c 1 rfl) rfl; omega
          have n5a : ∀ v : Nat, v < 32 → ((sI sc5 83 y5_4.toNatClampNeg y5_3).1 83 v).toInt < (z30).toInt := by intro v hv; rw [sI_q]; unfold upd; by_cases hq : v = (y5_4).toNatClampNeg; (rw [if_pos hq]; have a0 := h2; unfold In at a0; have a1 := i8a; unfold In at a1; have a2 := i8; unfold In at a2; have a3 := i29; unfold In at a3; have a4 := i33; unfold In at a4; have a5 := t_add e33 i8 (in_c 1 rfl) rfl; have a6 := (in_c 1 rfl); unfold In at a6; have a7 := i30; unfold In at a7; have a8 := t_add e30 i29 (in_c 1 rfl) rfl; omega); (rw [if_neg hq]; have h := g5_1 v hv; have a0 := h2; unfold In at a0; have a1 := i8a; unfold In at a1; have a2 := i8; unfold In at a2; have a3 := i29; unfold In at a3; have a4 := i33; unfold In at a4; have a5 := t_add e33 i8 (in_c 1 rfl) rfl; have a6 := (in_c 1 rfl); unfold In at a6; have a7 := i30; unfold In at a7; have a8 := t_add e30 i29 (in_c 1 rfl) rfl; omega)
          have n5b : ∀ i : Nat, (i : Int) < (z33).toInt → 0 ≤ ((sI sc5 83 y5_4.toNatClampNeg y5_3).1 83 i).toInt := by intro i hi; rw [sI_q]; unfold upd; by_cases hq : i = (y5_4).toNatClampNeg; (rw [if_pos hq]; have a0 := h2; unfold In at a0; have a1 := i8a; unfold In at a1; have a2 := i8; unfold In at a2; have a3 := i29; unfold In at a3; have a4 := i33; unfold In at a4; have a5 := t_add e33 i8 (in_c 1 rfl) rfl; have a6 := (in_c 1 rfl); unfold In at a6; have a7 := i30; unfold In at a7; have a8 := t_add e30 i29 (in_c 1 rfl) rfl; omega); (rw [if_neg hq]; exact g5_2 i (by have e9 : (y5_4).toNatClampNeg = (y5_4).toInt.toNat := rfl; have a0 := h2; unfold In at a0; have a1 := i8a; unfold In at a1; have a2 := i8; unfold In at a2; have a3 := i29; unfold In at a3; have a4 := i33; unfold In at a4; have a5 := t_add e33 i8 (in_c 1 rfl) rfl; have a6 := (in_c 1 rfl); unfold In at a6; have a7 := i30; unfold In at a7; have a8 := t_add e30 i29 (in_c 1 rfl) rfl; omega))
          exact gg_w (by omega) (gg_f (gf_cons rfl (gf_cons rfl (gf_cons rfl (gf_cons rfl (gf_cons rfl gf_nil))))) (ih5 (sI sc5 83 y5_4.toNatClampNeg y5_3) z30 z33 hI29 (fr_sI rfl hFc5) (in_w 0 32 i30 rfl) (in_w 0 32 i33 rfl) n5 n5a n5b (m_up mm5 (t_add e33 i8 (in_c 1 rfl) rfl) (in_w 1 1 (in_c 1 rfl) rfl))))
  refine g_enter2 (k := 184) (N := 30601) (by omega) rfl (Nat.le_of_ble_eq_true rfl) ?_
  refine g_iload_n 1 (gd rfl) rfl rfl ?_
  refine g_istore_n 2 (gd rfl) rfl (Nat.le_of_ble_eq_true rfl) ?_
  refine g_iconst 0 3 (gd rfl) rfl rfl ?_
  refine g_istore 5 (gd rfl) rfl (Nat.le_of_ble_eq_true rfl) ?_
  have n5 : (x2).toInt + (c1m (s.1 83) 32 : Int) ≤ 32 := by exact q_0
  have n5a : ∀ v : Nat, v < 32 → (s.1 83 v).toInt < (x2).toInt := by exact q_1
  have n5b : ∀ i : Nat, (i : Int) < ((Int32.ofInt 0)).toInt → 0 ≤ (s.1 83 i).toInt := by intro i hi; exfalso; have c0 : (Int32.ofInt 0).toInt = 0 := (by decide); omega
  exact gg_w (by omega) (gg_f (gf_cons rfl (gf_cons rfl (gf_cons rfl (gf_cons rfl (gf_cons rfl gf_nil))))) (ct5 33 s x2 (Int32.ofInt 0) hI fr_rf (in_w 0 32 h2 rfl) (in_w 0 32 (in_c 0 rfl) rfl) n5 n5a n5b (m_in 33 (in_w 0 32 (in_c 0 rfl) rfl) rfl)))

def fm_185_76 : FM := ([77, 78], [79], [], [])
/-- GraphHouse$Trees.shrinkRings -/
theorem k_185_76 {Z : AmZ} {A : Nat → Nat} {s : GS} {ex : va_W} {d : Nat} {X : AmX}  (hd : 1 ≤ d) (hI : Inv s) (q_0 : ∃ n m : Int, AE s n ∧ n ≤ 32 ∧ RN s n m) : GC Z d 185 [.ref (A 76)] (WW Z A s ++ ex) 0 0 (fun v u => ∃ t : GS, Inv t ∧ Fr fm_185_76 s t ∧ v = none ∧ u = WW Z A t ++ ex ∧ (∀ n m : Int, AE s n → n ≤ 32 → RN s n m → AE t m)) X := by
  intro post xp hP hX
  obtain ⟨u_76_0, e_76_0⟩ : ∃ w, w = s.2.2.1 76 0 := ⟨_, rfl⟩
  have ro_76_0 := inv_F hI 0 160 rfl e_76_0
  have ct2 : ∀ (k2 : Nat) (sc2 : GS) (y2_1 : Int32), Inv sc2 → Fr fm_185_76 s sc2 → (In y2_1 0 160) → (SHR s sc2 (y2_1).toInt.toNat) → 160 - (y2_1).toInt < (k2 : Int) → GG Z (d - 1) 185 post (gx xp) (1 + k2 * 900) 2 (fun j => xlook j [(0, .ref (A 76)), (1, .int y2_1)]) [] (WW Z A sc2 ++ ex) 0 0 := by
    intro k2
    induction k2 with
    | zero => intro sc2 y2_1 hIc2 hFc2 j2_1 g2_0 mm2; exact m_no mm2 j2_1 rfl
    | succ k2 ih2 =>
      intro sc2 y2_1 hIc2 hFc2 j2_1 g2_0 mm2
      refine gg_w (M := 1 + k2 * 900 + 900) (by omega) ?_
      refine g_iload_n 3 (gd rfl) rfl rfl ?_
      refine g_aload_n 4 (gd rfl) rfl rfl ?_
      refine g_getI 7 (gd rfl) rfl rfl rfl (fun z4 e4 => ?_)
      have q4 : u_76_0 = z4 := (fr_F e_76_0 hFc2 rfl).trans e4.symm
      subst q4
      refine g_cmp_ge 10 74 (gd rfl) rfl rfl (fun c7 => ?_) (fun c7 => ?_)
      · skip
        have n74 : ∀ n m : Int, AE s n → n ≤ 32 → RN s n m → AE sc2 m := by have hFF : Fr fm_185_76 s sc2 := hFc2; exact fun n m ha hn hr => shr_ae g2_0 ha hn hr (by rw [← e_76_0]; have a0 := ro_76_0; unfold In at a0; have a1 := j2_1; unfold In at a1; omega) (hFF.2.2.1 76 0 rfl)
        exact g_return (gd rfl) rfl (hP _ _ ⟨sc2, hIc2, hFc2, rfl, rfl, n74⟩)
      · skip
        have i7 := r_lt1 0 159 c7 j2_1 ro_76_0 rfl
        have i7a := r_lt2 1 160 c7 j2_1 ro_76_0 rfl
        refine g_aload_n 11 (gd rfl) rfl rfl ?_
        refine g_getA (q2 := 78) 14 (gd rfl) rfl rfl rfl rfl ?_
        refine g_iload_n 15 (gd rfl) rfl rfl ?_
        refine g_iaload 16 (gd rfl) rfl (n := 160) rfl (in_ix i7 rfl) (fun z15 e15 => ?_)
        have i15 := inv_I hIc2 (n := 160) (t := 0) 0 31 rfl (in_ix i7 rfl) rfl e15
        refine g_istore_n 17 (gd rfl) rfl (Nat.le_of_ble_eq_true rfl) ?_
        refine g_aload_n 18 (gd rfl) rfl rfl ?_
        refine g_getA (q2 := 77) 21 (gd rfl) rfl rfl rfl rfl ?_
        refine g_iload_n 22 (gd rfl) rfl rfl ?_
        refine g_iaload 23 (gd rfl) rfl (n := 160) rfl (in_ix i7 rfl) (fun z22 e22 => ?_)
        have i22 := inv_I hIc2 (n := 160) (t := 0) 0 31 rfl (in_ix i7 rfl) rfl e22
        refine g_istore_n 24 (gd rfl) rfl (Nat.le_of_ble_eq_true rfl) ?_
        obtain ⟨n9, m9, a9, b9, r9⟩ := q_0
        have hae := a9 (y2_1).toInt.toNat (by rw [← e_76_0]; have a0 := i7a; unfold In at a0; have a1 := i7; unfold In at a1; have a2 := i22; unfold In at a2; have a3 := i15; unfold In at a3; omega)
        have ht : z22 = s.1 77 (y2_1).toInt.toNat := (by rw [e22]; exact (g2_0.2 _ (Nat.le_refl _)).1)
        have hh : z15 = s.1 78 (y2_1).toInt.toNat := (by rw [e15]; exact (g2_0.2 _ (Nat.le_refl _)).2)
        rw [← ht, ← hh] at hae
        have rt := r9 (z22).toNatClampNeg (by show (z22).toInt.toNat < 32; omega)
        have rh := r9 (z15).toNatClampNeg (by show (z15).toInt.toNat < 32; omega)
        have kt : (((z22).toNatClampNeg : Nat) : Int) = (z22).toInt := (by show ((z22).toInt.toNat : Int) = _; omega)
        have kh : (((z15).toNatClampNeg : Nat) : Int) = (z15).toInt := (by show ((z15).toInt.toNat : Int) = _; omega)
        refine g_iload_n 25 (gd rfl) rfl rfl ?_
        refine g_iload_n 26 (gd rfl) rfl rfl ?_
        refine g_cmp_eq 29 44 (gd rfl) rfl rfl (fun c26 => ?_) (fun c26 => ?_)
        · skip
          refine g_aload_n 45 (gd rfl) rfl rfl ?_
          refine g_getA (q2 := 77) 48 (gd rfl) rfl rfl rfl rfl ?_
          refine g_iload_n 49 (gd rfl) rfl rfl ?_
          refine g_aload_n 50 (gd rfl) rfl rfl ?_
          refine g_getA (q2 := 83) 53 (gd rfl) rfl rfl rfl rfl ?_
          refine g_iload_n 54 (gd rfl) rfl rfl ?_
          refine g_iaload 55 (gd rfl) rfl (n := 32) rfl (in_ix i22 rfl) (fun z54 e54 => ?_)
          have i54 := inv_I hIc2 (n := 32) (t := 0) (-1) 31 rfl (in_ix i22 rfl) rfl e54
          have h54 : z54 = s.1 83 (z22).toNatClampNeg := (by rw [e54]; exact congrFun (hFc2.1 83 rfl) _)
          have i55 : In z54 0 31 := by have h9 := rt.2 (by omega); rw [← h54] at h9; exact ⟨h9, i54.2⟩
          refine g_iastore 56 (gd rfl) rfl (n := 160) rfl (in_ix i7 rfl) ?_
          have hI55 := inv_sI (q := 77) (j := y2_1.toNatClampNeg) hIc2 rfl (in_w 0 31 i55 rfl)
          refine g_aload_n 57 (gd rfl) rfl rfl ?_
          refine g_getA (q2 := 78) 60 (gd rfl) rfl rfl rfl rfl ?_
          refine g_iload_n 61 (gd rfl) rfl rfl ?_
          refine g_aload_n 62 (gd rfl) rfl rfl ?_
          refine g_getA (q2 := 83) 65 (gd rfl) rfl rfl rfl rfl ?_
          refine g_iload_n 66 (gd rfl) rfl rfl ?_
          refine g_iaload 67 (gd rfl) rfl (n := 32) rfl (in_ix i15 rfl) (fun z66 e66 => ?_)
          have i66 := inv_I hI55 (n := 32) (t := 0) (-1) 31 rfl (in_ix i15 rfl) rfl e66
          have h66 : z66 = s.1 83 (z15).toNatClampNeg := (by rw [e66, sI_r rfl]; exact congrFun (hFc2.1 83 rfl) _)
          have i67 : In z66 0 31 := by have h9 := rh.2 (by omega); rw [← h66] at h9; exact ⟨h9, i66.2⟩
          refine g_iastore 68 (gd rfl) rfl (n := 160) rfl (in_ix i7 rfl) ?_
          have hI67 := inv_sI (q := 78) (j := y2_1.toNatClampNeg) hI55 rfl (in_w 0 31 i67 rfl)
          refine g_iinc 71 (gd rfl) rfl rfl (Nat.le_of_ble_eq_true rfl) (fun z68 e68 => ?_)
          have i68 := in_add 1 160 e68 i7 (in_c 1 rfl) rfl rfl
          refine g_goto 2 (gd rfl) rfl ?_
          have n2 : SHR s (sI (sI sc2 77 y2_1.toNatClampNeg z54) 78 y2_1.toNatClampNeg z66) (z68).toInt.toNat := by rw [show (z68).toInt.toNat = (y2_1).toInt.toNat + 1 from (by have a0 := i7a; unfold In at a0; have a1 := i7; unfold In at a1; have a2 := i22; unfold In at a2; have a3 := i15; unfold In at a3; have a4 := i68; unfold In at a4; have a5 := t_add e68 i7 (in_c 1 rfl) rfl; have a6 := (in_c 1 rfl); unfold In at a6; omega)]; exact shr_s g2_0 (by rw [sI_r rfl, sI_q]; rfl) (by rw [sI_q, sI_r rfl]; rfl) (by rw [h54, ht]) (by rw [h66, hh])
          exact gg_w (by omega) (gg_f (gf_cons rfl (gf_cons rfl gf_nil)) (ih2 (sI (sI sc2 77 y2_1.toNatClampNeg z54) 78 y2_1.toNatClampNeg z66) z68 hI67 (fr_sI rfl (fr_sI rfl hFc2)) (in_w 0 160 i68 rfl) n2 (m_up mm2 (t_add e68 i7 (in_c 1 rfl) rfl) (in_w 1 1 (in_c 1 rfl) rfl))))
        · skip
          refine g_aload_n 30 (gd rfl) rfl rfl ?_
          refine g_getA (q2 := 79) 33 (gd rfl) rfl rfl rfl rfl ?_
          refine g_iload_n 34 (gd rfl) rfl rfl ?_
          refine g_dup2 35 (gd rfl) rfl rfl rfl ?_
          refine g_laload 36 (gd rfl) rfl (n := 160) rfl (in_ix i7 rfl) (fun z35 e35 => ?_)
          refine g_aload_n 37 (gd rfl) rfl rfl ?_
          refine g_getA (q2 := 80) 40 (gd rfl) rfl rfl rfl rfl ?_
          refine g_iload_n 41 (gd rfl) rfl rfl ?_
          refine g_laload 42 (gd rfl) rfl (n := 32) rfl (in_ix i15 rfl) (fun z41 e41 => ?_)
          refine g_lsub 43 (gd rfl) rfl (fun z42 e42 => ?_)
          refine g_lastore 44 (gd rfl) rfl (n := 160) rfl (in_ix i7 rfl) ?_
          have hI43 := inv_sL (q := 79) (j := y2_1.toNatClampNeg) (x := z42) hIc2 rfl (l_rng z42)
          refine g_aload_n 45 (gd rfl) rfl rfl ?_
          refine g_getA (q2 := 77) 48 (gd rfl) rfl rfl rfl rfl ?_
          refine g_iload_n 49 (gd rfl) rfl rfl ?_
          refine g_aload_n 50 (gd rfl) rfl rfl ?_
          refine g_getA (q2 := 83) 53 (gd rfl) rfl rfl rfl rfl ?_
          refine g_iload_n 54 (gd rfl) rfl rfl ?_
          refine g_iaload 55 (gd rfl) rfl (n := 32) rfl (in_ix i22 rfl) (fun z54 e54 => ?_)
          have i54 := inv_I hI43 (n := 32) (t := 0) (-1) 31 rfl (in_ix i22 rfl) rfl e54
          have h54 : z54 = s.1 83 (z22).toNatClampNeg := (by rw [e54]; exact congrFun (hFc2.1 83 rfl) _)
          have i55 : In z54 0 31 := by have h9 := rt.2 (by omega); rw [← h54] at h9; exact ⟨h9, i54.2⟩
          refine g_iastore 56 (gd rfl) rfl (n := 160) rfl (in_ix i7 rfl) ?_
          have hI55 := inv_sI (q := 77) (j := y2_1.toNatClampNeg) hI43 rfl (in_w 0 31 i55 rfl)
          refine g_aload_n 57 (gd rfl) rfl rfl ?_
          refine g_getA (q2 := 78) 60 (gd rfl) rfl rfl rfl rfl ?_
          refine g_iload_n 61 (gd rfl) rfl rfl ?_
          refine g_aload_n 62 (gd rfl) rfl rfl ?_
          refine g_getA (q2 := 83) 65 (gd rfl) rfl rfl rfl rfl ?_
          refine g_iload_n 66 (gd rfl) rfl rfl ?_
          refine g_iaload 67 (gd rfl) rfl (n := 32) rfl (in_ix i15 rfl) (fun z66 e66 => ?_)
          have i66 := inv_I hI55 (n := 32) (t := 0) (-1) 31 rfl (in_ix i15 rfl) rfl e66
          have h66 : z66 = s.1 83 (z15).toNatClampNeg := (by rw [e66, sI_r rfl]; exact congrFun (hFc2.1 83 rfl) _)
          have i67 : In z66 0 31 := by have h9 := rh.2 (by omega); rw [← h66] at h9; exact ⟨h9, i66.2⟩
          refine g_iastore 68 (gd rfl) rfl (n := 160) rfl (in_ix i7 rfl) ?_
          have hI67 := inv_sI (q := 78) (j := y2_1.toNatClampNeg) hI55 rfl (in_w 0 31 i67 rfl)
          refine g_iinc 71 (gd rfl) rfl rfl (Nat.le_of_ble_eq_true rfl) (fun z68 e68 => ?_)
          have i68 := in_add 1 160 e68 i7 (in_c 1 rfl) rfl rfl
          refine g_goto 2 (gd rfl) rfl ?_
          have n2 : SHR s (sI (sI (sL sc2 79 y2_1.toNatClampNeg z42) 77 y2_1.toNatClampNeg z54) 78 y2_1.toNatClampNeg z66) (z68).toInt.toNat := by rw [show (z68).toInt.toNat = (y2_1).toInt.toNat + 1 from (by have a0 := i7a; unfold In at a0; have a1 := i7; unfold In at a1; have a2 := i22; unfold In at a2; have a3 := i15; unfold In at a3; have a4 := i68; unfold In at a4; have a5 := t_add e68 i7 (in_c 1 rfl) rfl; have a6 := (in_c 1 rfl); unfold In at a6; omega)]; exact shr_s g2_0 (by rw [sI_r rfl, sI_q]; rfl) (by rw [sI_q, sI_r rfl]; rfl) (by rw [h54, ht]) (by rw [h66, hh])
          exact gg_w (by omega) (gg_f (gf_cons rfl (gf_cons rfl gf_nil)) (ih2 (sI (sI (sL sc2 79 y2_1.toNatClampNeg z42) 77 y2_1.toNatClampNeg z54) 78 y2_1.toNatClampNeg z66) z68 hI67 (fr_sI rfl (fr_sI rfl (fr_sL rfl hFc2))) (in_w 0 160 i68 rfl) n2 (m_up mm2 (t_add e68 i7 (in_c 1 rfl) rfl) (in_w 1 1 (in_c 1 rfl) rfl))))
  refine g_enter2 (k := 185) (N := 145801) (by omega) rfl (Nat.le_of_ble_eq_true rfl) ?_
  refine g_iconst 0 1 (gd rfl) rfl rfl ?_
  refine g_istore_n 2 (gd rfl) rfl (Nat.le_of_ble_eq_true rfl) ?_
  have n2 : SHR s s ((Int32.ofInt 0)).toInt.toNat := by exact shr_0
  exact gg_w (by omega) (gg_f (gf_cons rfl (gf_cons rfl gf_nil)) (ct2 161 s (Int32.ofInt 0) hI fr_rf (in_w 0 160 (in_c 0 rfl) rfl) n2 (m_in 161 (in_w 0 160 (in_c 0 rfl) rfl) rfl)))

def fm_180_76_2 : FM := ([77, 78, 81, 82, 83], [79, 80], [(76, 0)], [])
/-- GraphHouse$Trees.leastRooted -/
theorem k_180_76_2 {Z : AmZ} {A : Nat → Nat} {s : GS} {ex : va_W} {d : Nat} {X : AmX} {x2 : Int32} {u_2_1 : Int32} (hd : 4 ≤ d) (hI : Inv s) (h2 : In x2 0 31) (e_2_1 : u_2_1 = s.2.2.1 2 1) (p_0 : (x2).toInt < (u_2_1).toInt) (q_0 : KN (s.1 4) (s.1 5) (s.2.2.1 2 1)) : GC Z d 180 [.ref (A 76), .ref (A 2), .int x2] (WW Z A s ++ ex) 0 0 (fun v u => ∃ t : GS, Inv t ∧ Fr fm_180_76_2 s t ∧ ∃ z : Int64, v = some (.long z) ∧ u = WW Z A t ++ ex) X := by
  intro post xp hP hX
  have ro_2_1 := inv_F hI 0 32 rfl e_2_1
  have ct19 : ∀ (k19 : Nat) (sc19 : GS) (y19_3 : Int64) (y19_5 : Int32) (y19_6 : Int32) (y19_7 : Int32), Inv sc19 → Fr fm_180_76_2 s sc19 → (In y19_5 0 32) → (In y19_6 0 31) → (In y19_7 0 32) → ((y19_6).toInt < (y19_5).toInt) → (AE sc19 (y19_5).toInt) → 32 - (y19_7).toInt < (k19 : Int) → GG Z (d - 1) 180 post (gx xp) (1 + k19 * 32401) 19 (fun j => xlook j [(0, .ref (A 76)), (1, .ref (A 2)), (2, .int x2), (3, .long y19_3), (5, .int y19_5), (6, .int y19_6), (7, .int y19_7)]) [] (WW Z A sc19 ++ ex) 0 0 := by
    intro k19
    induction k19 with
    | zero => intro sc19 y19_3 y19_5 y19_6 y19_7 hIc19 hFc19 j19_5 j19_6 j19_7 n19_0 g19_0 mm19; exact m_no mm19 j19_7 rfl
    | succ k19 ih19 =>
      intro sc19 y19_3 y19_5 y19_6 y19_7 hIc19 hFc19 j19_5 j19_6 j19_7 n19_0 g19_0 mm19
      refine gg_w (M := 1 + k19 * 32401 + 32401) (by omega) ?_
      have ct44 : ∀ (k44 : Nat) (sc44 : GS) (y44_3 : Int64) (y44_8 : Int32), Inv sc44 → Fr fm_180_76_2 s sc44 → (In y19_7 0 31) → (In y44_8 0 32) → (AE sc44 (y19_5).toInt) → 32 - (y44_8).toInt < (k44 : Int) → GG Z (d - 1) 180 post (gx xp) (1 + k19 * 32401 + 1 + k44 * 900) 44 (fun j => xlook j [(0, .ref (A 76)), (1, .ref (A 2)), (2, .int x2), (3, .long y44_3), (5, .int y19_5), (6, .int y19_6), (7, .int y19_7), (8, .int y44_8)]) [] (WW Z A sc44 ++ ex) 0 0 := by
        intro k44
        induction k44 with
        | zero => intro sc44 y44_3 y44_8 hIc44 hFc44 j44_7 j44_8 g44_0 mm44; exact m_no mm44 j44_8 rfl
        | succ k44 ih44 =>
          intro sc44 y44_3 y44_8 hIc44 hFc44 j44_7 j44_8 g44_0 mm44
          refine gg_w (M := 1 + k19 * 32401 + 1 + k44 * 900 + 900) (by omega) ?_
          refine g_iload 46 (gd rfl) rfl rfl ?_
          refine g_iload 48 (gd rfl) rfl rfl ?_
          refine g_cmp_ge 51 67 (gd rfl) rfl rfl (fun c48 => ?_) (fun c48 => ?_)
          · skip
            refine g_aload_n 68 (gd rfl) rfl rfl ?_
            refine g_iload 70 (gd rfl) rfl rfl ?_
            refine g_iload 72 (gd rfl) rfl rfl ?_
            refine g_callv (X := _) (As := [.int y19_5, .int y19_6]) (r := []) (b := A 76) (q := 76) 75 (gd rfl) rfl rfl rfl rfl rfl (ww_o rfl) (Nat.le_of_ble_eq_true rfl) (Nat.zero_le _) (Nat.zero_le _) (k_183_76 (by omega) hIc44 (in_w 0 32 j19_5 rfl) (in_w 0 31 j19_6 rfl)) (fun e u h => h) (fun v u h => ?_)
            obtain ⟨s72, hI72, hF72, z72, rfl, rfl, i72, p72, p72a⟩ := h
            show GG _ _ _ _ _ _ _ _ [.int z72] _ _ _
            refine g_istore 77 (gd rfl) rfl (Nat.le_of_ble_eq_true rfl) ?_
            refine g_iload 79 (gd rfl) rfl rfl ?_
            refine g_if_ne 82 84 (gd rfl) rfl rfl (fun c79 => ?_) (fun c79 => ?_)
            · skip
              have i79 := z_ne 1 32 c79 i72 rfl
              refine g_aload_n 85 (gd rfl) rfl rfl ?_
              refine g_iload 87 (gd rfl) rfl rfl ?_
              refine g_iload 89 (gd rfl) rfl rfl ?_
              have p89 : (z72).toInt + (c1m (s72.1 83) 32 : Int) ≤ 32 := by exact p72
              have p89a : ∀ v : Nat, v < 32 → (s72.1 83 v).toInt < (z72).toInt := by exact p72a
              refine g_callv (X := _) (As := [.int y19_5, .int z72]) (r := []) (b := A 76) (q := 76) 92 (gd rfl) rfl rfl rfl rfl rfl (ww_o rfl) (Nat.le_of_ble_eq_true rfl) (Nat.zero_le _) (Nat.zero_le _) (k_184_76 (by omega) hI72 (in_w 0 32 j19_5 rfl) (in_w 0 32 i79 rfl) p89 p89a) (fun e u h => h) (fun v u h => ?_)
              obtain ⟨s89, hI89, hF89, z89, rfl, rfl, i89, p89b⟩ := h
              show GG _ _ _ _ _ _ _ _ [.int z89] _ _ _
              refine g_istore 94 (gd rfl) rfl (Nat.le_of_ble_eq_true rfl) ?_
              refine g_aload_n 95 (gd rfl) rfl rfl ?_
              have p95 : ∃ n m : Int, AE s89 n ∧ n ≤ 32 ∧ RN s89 n m := by exact ⟨(y19_5).toInt, (z89).toInt, ae_fr (ae_fr g44_0 hF72 rfl) hF89 rfl, by have a0 := j44_7; unfold In at a0; have a1 := j19_6; unfold In at a1; have a2 := j19_5; unfold In at a2; have a3 := h2; unfold In at a3; have a4 := ro_2_1; unfold In at a4; have a5 := j44_8; unfold In at a5; have a6 := i89; unfold In at a6; have a7 := i79; unfold In at a7; omega, p89b⟩
              refine g_callv (X := _) (As := []) (r := []) (b := A 76) (q := 76) 98 (gd rfl) rfl rfl rfl rfl rfl (ww_o rfl) (Nat.le_of_ble_eq_true rfl) (Nat.zero_le _) (Nat.zero_le _) (k_185_76 (by omega) hI89 p95) (fun e u h => h) (fun v u h => ?_)
              obtain ⟨s95, hI95, hF95, rfl, rfl, p95a⟩ := h
              show GG _ _ _ _ _ _ _ _ [] _ _ _
              refine g_aload_n 99 (gd rfl) rfl rfl ?_
              refine g_getA (q2 := 83) 102 (gd rfl) rfl rfl rfl rfl ?_
              refine g_iload 104 (gd rfl) rfl rfl ?_
              refine g_iaload 105 (gd rfl) rfl (n := 32) rfl (in_ix j19_6 rfl) (fun z104 e104 => ?_)
              have i104 := inv_I hI95 (n := 32) (t := 0) (-1) 31 rfl (in_ix j19_6 rfl) rfl e104
              have hr := p89b (y19_6).toNatClampNeg (by show (y19_6).toInt.toNat < 32; have a0 := j44_7; unfold In at a0; have a1 := j19_6; unfold In at a1; have a2 := j19_5; unfold In at a2; have a3 := h2; unfold In at a3; have a4 := ro_2_1; unfold In at a4; have a5 := j44_8; unfold In at a5; have a6 := i89; unfold In at a6; have a7 := i79; unfold In at a7; omega)
              rw [← hF95.1 83 rfl, ← e104] at hr
              have i105 : In z104 0 31 := by have h9 := hr.2 (by have e9 : (y19_6).toNatClampNeg = (y19_6).toInt.toNat := rfl; have a0 := j44_7; unfold In at a0; have a1 := j19_6; unfold In at a1; have a2 := j19_5; unfold In at a2; have a3 := h2; unfold In at a3; have a4 := ro_2_1; unfold In at a4; have a5 := j44_8; unfold In at a5; have a6 := i89; unfold In at a6; have a7 := i79; unfold In at a7; omega); exact ⟨h9, i104.2⟩
              have hr1 := hr.1
              refine g_istore 107 (gd rfl) rfl (Nat.le_of_ble_eq_true rfl) ?_
              refine g_iload 109 (gd rfl) rfl rfl ?_
              refine g_istore 111 (gd rfl) rfl (Nat.le_of_ble_eq_true rfl) ?_
              refine g_iinc 114 (gd rfl) rfl rfl (Nat.le_of_ble_eq_true rfl) (fun z111 e111 => ?_)
              have i111 := in_add 1 32 e111 j44_7 (in_c 1 rfl) rfl rfl
              refine g_goto 19 (gd rfl) rfl ?_
              have n19 : (z104).toInt < (z89).toInt := by have a0 := j44_7; unfold In at a0; have a1 := j19_6; unfold In at a1; have a2 := j19_5; unfold In at a2; have a3 := h2; unfold In at a3; have a4 := ro_2_1; unfold In at a4; have a5 := j44_8; unfold In at a5; have a6 := i89; unfold In at a6; have a7 := i79; unfold In at a7; have a8 := i111; unfold In at a8; have a9 := t_add e111 j44_7 (in_c 1 rfl) rfl; have a10 := (in_c 1 rfl); unfold In at a10; have a11 := i105; unfold In at a11; omega
              have n19a : AE s95 (z89).toInt := by exact p95a (y19_5).toInt (z89).toInt (ae_fr (ae_fr g44_0 hF72 rfl) hF89 rfl) (by have a0 := j44_7; unfold In at a0; have a1 := j19_6; unfold In at a1; have a2 := j19_5; unfold In at a2; have a3 := h2; unfold In at a3; have a4 := ro_2_1; unfold In at a4; have a5 := j44_8; unfold In at a5; have a6 := i89; unfold In at a6; have a7 := i79; unfold In at a7; have a8 := i111; unfold In at a8; have a9 := t_add e111 j44_7 (in_c 1 rfl) rfl; have a10 := (in_c 1 rfl); unfold In at a10; have a11 := i105; unfold In at a11; omega) p89b
              exact gg_w (by omega) (gg_f (gf_cons rfl (gf_cons rfl (gf_cons rfl (gf_cons rfl (gf_cons rfl (gf_cons rfl (gf_cons rfl gf_nil))))))) (ih19 s95 y44_3 z89 z104 z111 hI95 (fr_tr rfl (fr_tr rfl (fr_tr rfl hFc44 hF72) hF89) hF95) (in_w 0 32 i89 rfl) (in_w 0 31 i105 rfl) (in_w 0 32 i111 rfl) n19 n19a (m_up mm19 (t_add e111 j44_7 (in_c 1 rfl) rfl) (in_w 1 1 (in_c 1 rfl) rfl))))
            · skip
              have i79 := z_eq 0 0 c79 i72 rfl
              refine g_lload_n 83 (gd rfl) rfl rfl ?_
              exact g_lreturn (gd rfl) rfl (hP _ _ ⟨s72, hI72, (fr_tr rfl hFc44 hF72), y44_3, rfl, rfl⟩)
          · skip
            have i48 := r_lt1 0 31 c48 j44_8 j19_5 rfl
            have i48a := r_lt2 1 32 c48 j44_8 j19_5 rfl
            refine g_lload_n 52 (gd rfl) rfl rfl ?_
            refine g_aload_n 53 (gd rfl) rfl rfl ?_
            refine g_getA (q2 := 80) 56 (gd rfl) rfl rfl rfl rfl ?_
            refine g_iload 58 (gd rfl) rfl rfl ?_
            refine g_laload 59 (gd rfl) rfl (n := 32) rfl (in_ix i48 rfl) (fun z58 e58 => ?_)
            refine g_ladd 60 (gd rfl) rfl (fun z59 e59 => ?_)
            refine g_lstore_n 61 (gd rfl) rfl (Nat.le_of_ble_eq_true rfl) ?_
            refine g_iinc 64 (gd rfl) rfl rfl (Nat.le_of_ble_eq_true rfl) (fun z61 e61 => ?_)
            have i61 := in_add 1 32 e61 i48 (in_c 1 rfl) rfl rfl
            refine g_goto 44 (gd rfl) rfl ?_
            have n44 : AE sc44 (y19_5).toInt := by exact g44_0
            exact gg_w (by omega) (gg_f (gf_cons rfl (gf_cons rfl (gf_cons rfl (gf_cons rfl (gf_cons rfl (gf_cons rfl (gf_cons rfl (gf_cons rfl gf_nil)))))))) (ih44 sc44 z59 z61 hIc44 hFc44 (in_w 0 31 j44_7 rfl) (in_w 0 32 i61 rfl) n44 (m_up mm44 (t_add e61 i48 (in_c 1 rfl) rfl) (in_w 1 1 (in_c 1 rfl) rfl))))
      refine g_iload 21 (gd rfl) rfl rfl ?_
      refine g_bipush 32 23 (gd rfl) rfl rfl ?_
      refine g_cmp_ge 26 117 (gd rfl) rfl rfl (fun c23 => ?_) (fun c23 => ?_)
      · skip
        have i23 := r_le2 32 32 c23 (in_c 32 rfl) j19_7 rfl
        refine g_lload_n 118 (gd rfl) rfl rfl ?_
        exact g_lreturn (gd rfl) rfl (hP _ _ ⟨sc19, hIc19, hFc19, y19_3, rfl, rfl⟩)
      · skip
        have i23 := r_lt1 0 31 c23 j19_7 (in_c 32 rfl) rfl
        refine g_aload_n 27 (gd rfl) rfl rfl ?_
        refine g_iload 29 (gd rfl) rfl rfl ?_
        refine g_iload 31 (gd rfl) rfl rfl ?_
        refine g_callv (X := _) (As := [.int y19_5, .int y19_6]) (r := []) (b := A 76) (q := 76) 34 (gd rfl) rfl rfl rfl rfl rfl (ww_o rfl) (Nat.le_of_ble_eq_true rfl) (Nat.zero_le _) (Nat.zero_le _) (k_182_76 (by omega) hIc19 (in_w 0 32 j19_5 rfl) (in_w 0 31 j19_6 rfl)) (fun e u h => h) (fun v u h => ?_)
        obtain ⟨s31, hI31, hF31, z31, rfl, rfl, i31⟩ := h
        show GG _ _ _ _ _ _ _ _ [.int z31] _ _ _
        refine g_if_ne 37 41 (gd rfl) rfl rfl (fun c34 => ?_) (fun c34 => ?_)
        · skip
          have i34 := z_ne 1 1 c34 i31 rfl
          refine g_iconst 0 42 (gd rfl) rfl rfl ?_
          refine g_istore 44 (gd rfl) rfl (Nat.le_of_ble_eq_true rfl) ?_
          have n44 : AE s31 (y19_5).toInt := by exact ae_fr g19_0 hF31 rfl
          exact gg_w (by omega) (gg_f (gf_cons rfl (gf_cons rfl (gf_cons rfl (gf_cons rfl (gf_cons rfl (gf_cons rfl (gf_cons rfl (gf_cons rfl gf_nil)))))))) (ct44 33 s31 y19_3 (Int32.ofInt 0) hI31 (fr_tr rfl hFc19 hF31) (in_w 0 31 i23 rfl) (in_w 0 32 (in_c 0 rfl) rfl) n44 (m_in 33 (in_w 0 32 (in_c 0 rfl) rfl) rfl)))
        · skip
          have i34 := z_eq 0 0 c34 i31 rfl
          refine g_ldc2_w 9000000000000000 40 (gd rfl) rfl rfl ?_
          exact g_lreturn (gd rfl) rfl (hP _ _ ⟨s31, hI31, (fr_tr rfl hFc19 hF31), (Int64.ofInt 9000000000000000), rfl, rfl⟩)
  refine g_enter2 (k := 180) (N := 1070134) (by omega) rfl (Nat.le_of_ble_eq_true rfl) ?_
  refine g_aload_n 1 (gd rfl) rfl rfl ?_
  refine g_aload_n 2 (gd rfl) rfl rfl ?_
  have p2 : KN (s.1 4) (s.1 5) (s.2.2.1 2 1) := by exact q_0
  refine g_callv (X := _) (As := [.ref (A 2)]) (r := []) (b := A 76) (q := 76) 5 (gd rfl) rfl rfl rfl rfl rfl (ww_o rfl) (Nat.le_of_ble_eq_true rfl) (Nat.zero_le _) (Nat.zero_le _) (k_181_76_2 (by omega) hI p2) (fun e u h => h) (fun v u h => ?_)
  obtain ⟨s2, hI2, hF2, rfl, rfl, p2a⟩ := h
  show GG _ _ _ _ _ _ _ _ [] _ _ _
  refine g_lconst 0 6 (gd rfl) rfl rfl ?_
  refine g_lstore_n 7 (gd rfl) rfl (Nat.le_of_ble_eq_true rfl) ?_
  refine g_aload_n 8 (gd rfl) rfl rfl ?_
  refine g_getI 11 (gd rfl) rfl rfl rfl (fun z8 e8 => ?_)
  have q8 : u_2_1 = z8 := (fr_F (e_2_1) hF2 rfl).trans e8.symm
  subst q8
  refine g_istore 13 (gd rfl) rfl (Nat.le_of_ble_eq_true rfl) ?_
  refine g_iload_n 14 (gd rfl) rfl rfl ?_
  refine g_istore 16 (gd rfl) rfl (Nat.le_of_ble_eq_true rfl) ?_
  refine g_iconst 0 17 (gd rfl) rfl rfl ?_
  refine g_istore 19 (gd rfl) rfl (Nat.le_of_ble_eq_true rfl) ?_
  have n19 : (x2).toInt < (u_2_1).toInt := by have a0 := (inv_F hI 0 32 rfl e_2_1); unfold In at a0; have a1 := h2; unfold In at a1; have a2 := (in_c 0 rfl); unfold In at a2; omega
  have n19a : AE s2 (u_2_1).toInt := by rw [e_2_1]; exact p2a
  exact gg_w (by omega) (gg_f (gf_cons rfl (gf_cons rfl (gf_cons rfl (gf_cons rfl (gf_cons rfl (gf_cons rfl (gf_cons rfl gf_nil))))))) (ct19 33 s2 (Int64.ofInt 0) u_2_1 x2 (Int32.ofInt 0) hI2 (fr_tr rfl fr_rf hF2) (in_w 0 32 (inv_F hI 0 32 rfl e_2_1) rfl) (in_w 0 31 h2 rfl) (in_w 0 32 (in_c 0 rfl) rfl) n19 n19a (m_in 33 (in_w 0 32 (in_c 0 rfl) rfl) rfl)))

def fm_180_76_32 : FM := ([77, 78, 81, 82, 83], [79, 80], [(76, 0)], [])
/-- GraphHouse$Trees.leastRooted -/
theorem k_180_76_32 {Z : AmZ} {A : Nat → Nat} {s : GS} {ex : va_W} {d : Nat} {X : AmX} {x2 : Int32} {u_32_1 : Int32} (hd : 4 ≤ d) (hI : Inv s) (h2 : In x2 0 31) (e_32_1 : u_32_1 = s.2.2.1 32 1) (p_0 : (x2).toInt < (u_32_1).toInt) (q_0 : KN (s.1 34) (s.1 35) (s.2.2.1 32 1)) : GC Z d 180 [.ref (A 76), .ref (A 32), .int x2] (WW Z A s ++ ex) 0 0 (fun v u => ∃ t : GS, Inv t ∧ Fr fm_180_76_32 s t ∧ ∃ z : Int64, v = some (.long z) ∧ u = WW Z A t ++ ex) X := by
  intro post xp hP hX
  have ro_32_1 := inv_F hI 0 32 rfl e_32_1
  have ct19 : ∀ (k19 : Nat) (sc19 : GS) (y19_3 : Int64) (y19_5 : Int32) (y19_6 : Int32) (y19_7 : Int32), Inv sc19 → Fr fm_180_76_32 s sc19 → (In y19_5 0 32) → (In y19_6 0 31) → (In y19_7 0 32) → ((y19_6).toInt < (y19_5).toInt) → (AE sc19 (y19_5).toInt) → 32 - (y19_7).toInt < (k19 : Int) → GG Z (d - 1) 180 post (gx xp) (1 + k19 * 32401) 19 (fun j => xlook j [(0, .ref (A 76)), (1, .ref (A 32)), (2, .int x2), (3, .long y19_3), (5, .int y19_5), (6, .int y19_6), (7, .int y19_7)]) [] (WW Z A sc19 ++ ex) 0 0 := by
    intro k19
    induction k19 with
    | zero => intro sc19 y19_3 y19_5 y19_6 y19_7 hIc19 hFc19 j19_5 j19_6 j19_7 n19_0 g19_0 mm19; exact m_no mm19 j19_7 rfl
    | succ k19 ih19 =>
      intro sc19 y19_3 y19_5 y19_6 y19_7 hIc19 hFc19 j19_5 j19_6 j19_7 n19_0 g19_0 mm19
      refine gg_w (M := 1 + k19 * 32401 + 32401) (by omega) ?_
      have ct44 : ∀ (k44 : Nat) (sc44 : GS) (y44_3 : Int64) (y44_8 : Int32), Inv sc44 → Fr fm_180_76_32 s sc44 → (In y19_7 0 31) → (In y44_8 0 32) → (AE sc44 (y19_5).toInt) → 32 - (y44_8).toInt < (k44 : Int) → GG Z (d - 1) 180 post (gx xp) (1 + k19 * 32401 + 1 + k44 * 900) 44 (fun j => xlook j [(0, .ref (A 76)), (1, .ref (A 32)), (2, .int x2), (3, .long y44_3), (5, .int y19_5), (6, .int y19_6), (7, .int y19_7), (8, .int y44_8)]) [] (WW Z A sc44 ++ ex) 0 0 := by
        intro k44
        induction k44 with
        | zero => intro sc44 y44_3 y44_8 hIc44 hFc44 j44_7 j44_8 g44_0 mm44; exact m_no mm44 j44_8 rfl
        | succ k44 ih44 =>
          intro sc44 y44_3 y44_8 hIc44 hFc44 j44_7 j44_8 g44_0 mm44
          refine gg_w (M := 1 + k19 * 32401 + 1 + k44 * 900 + 900) (by omega) ?_
          refine g_iload 46 (gd rfl) rfl rfl ?_
          refine g_iload 48 (gd rfl) rfl rfl ?_
          refine g_cmp_ge 51 67 (gd rfl) rfl rfl (fun c48 => ?_) (fun c48 => ?_)
          · skip
            refine g_aload_n 68 (gd rfl) rfl rfl ?_
            refine g_iload 70 (gd rfl) rfl rfl ?_
            refine g_iload 72 (gd rfl) rfl rfl ?_
            refine g_callv (X := _) (As := [.int y19_5, .int y19_6]) (r := []) (b := A 76) (q := 76) 75 (gd rfl) rfl rfl rfl rfl rfl (ww_o rfl) (Nat.le_of_ble_eq_true rfl) (Nat.zero_le _) (Nat.zero_le _) (k_183_76 (by omega) hIc44 (in_w 0 32 j19_5 rfl) (in_w 0 31 j19_6 rfl)) (fun e u h => h) (fun v u h => ?_)
            obtain ⟨s72, hI72, hF72, z72, rfl, rfl, i72, p72, p72a⟩ := h
            show GG _ _ _ _ _ _ _ _ [.int z72] _ _ _
            refine g_istore 77 (gd rfl) rfl (Nat.le_of_ble_eq_true rfl) ?_
            refine g_iload 79 (gd rfl) rfl rfl ?_
            refine g_if_ne 82 84 (gd rfl) rfl rfl (fun c79 => ?_) (fun c79 => ?_)
            · skip
              have i79 := z_ne 1 32 c79 i72 rfl
              refine g_aload_n 85 (gd rfl) rfl rfl ?_
              refine g_iload 87 (gd rfl) rfl rfl ?_
              refine g_iload 89 (gd rfl) rfl rfl ?_
              have p89 : (z72).toInt + (c1m (s72.1 83) 32 : Int) ≤ 32 := by exact p72
              have p89a : ∀ v : Nat, v < 32 → (s72.1 83 v).toInt < (z72).toInt := by exact p72a
              refine g_callv (X := _) (As := [.int y19_5, .int z72]) (r := []) (b := A 76) (q := 76) 92 (gd rfl) rfl rfl rfl rfl rfl (ww_o rfl) (Nat.le_of_ble_eq_true rfl) (Nat.zero_le _) (Nat.zero_le _) (k_184_76 (by omega) hI72 (in_w 0 32 j19_5 rfl) (in_w 0 32 i79 rfl) p89 p89a) (fun e u h => h) (fun v u h => ?_)
              obtain ⟨s89, hI89, hF89, z89, rfl, rfl, i89, p89b⟩ := h
              show GG _ _ _ _ _ _ _ _ [.int z89] _ _ _
              refine g_istore 94 (gd rfl) rfl (Nat.le_of_ble_eq_true rfl) ?_
              refine g_aload_n 95 (gd rfl) rfl rfl ?_
              have p95 : ∃ n m : Int, AE s89 n ∧ n ≤ 32 ∧ RN s89 n m := by exact ⟨(y19_5).toInt, (z89).toInt, ae_fr (ae_fr g44_0 hF72 rfl) hF89 rfl, by have a0 := j44_7; unfold In at a0; have a1 := j19_6; unfold In at a1; have a2 := j19_5; unfold In at a2; have a3 := h2; unfold In at a3; have a4 := ro_32_1; unfold In at a4; have a5 := j44_8; unfold In at a5; have a6 := i89; unfold In at a6; have a7 := i79; unfold In at a7; omega, p89b⟩
              refine g_callv (X := _) (As := []) (r := []) (b := A 76) (q := 76) 98 (gd rfl) rfl rfl rfl rfl rfl (ww_o rfl) (Nat.le_of_ble_eq_true rfl) (Nat.zero_le _) (Nat.zero_le _) (k_185_76 (by omega) hI89 p95) (fun e u h => h) (fun v u h => ?_)
              obtain ⟨s95, hI95, hF95, rfl, rfl, p95a⟩ := h
              show GG _ _ _ _ _ _ _ _ [] _ _ _
              refine g_aload_n 99 (gd rfl) rfl rfl ?_
              refine g_getA (q2 := 83) 102 (gd rfl) rfl rfl rfl rfl ?_
              refine g_iload 104 (gd rfl) rfl rfl ?_
              refine g_iaload 105 (gd rfl) rfl (n := 32) rfl (in_ix j19_6 rfl) (fun z104 e104 => ?_)
              have i104 := inv_I hI95 (n := 32) (t := 0) (-1) 31 rfl (in_ix j19_6 rfl) rfl e104
              have hr := p89b (y19_6).toNatClampNeg (by show (y19_6).toInt.toNat < 32; have a0 := j44_7; unfold In at a0; have a1 := j19_6; unfold In at a1; have a2 := j19_5; unfold In at a2; have a3 := h2; unfold In at a3; have a4 := ro_32_1; unfold In at a4; have a5 := j44_8; unfold In at a5; have a6 := i89; unfold In at a6; have a7 := i79; unfold In at a7; omega)
              rw [← hF95.1 83 rfl, ← e104] at hr
              have i105 : In z104 0 31 := by have h9 := hr.2 (by have e9 : (y19_6).toNatClampNeg = (y19_6).toInt.toNat := rfl; have a0 := j44_7; unfold In at a0; have a1 := j19_6; unfold In at a1; have a2 := j19_5; unfold In at a2; have a3 := h2; unfold In at a3; have a4 := ro_32_1; unfold In at a4; have a5 := j44_8; unfold In at a5; have a6 := i89; unfold In at a6; have a7 := i79; unfold In at a7; omega); exact ⟨h9, i104.2⟩
              have hr1 := hr.1
              refine g_istore 107 (gd rfl) rfl (Nat.le_of_ble_eq_true rfl) ?_
              refine g_iload 109 (gd rfl) rfl rfl ?_
              refine g_istore 111 (gd rfl) rfl (Nat.le_of_ble_eq_true rfl) ?_
              refine g_iinc 114 (gd rfl) rfl rfl (Nat.le_of_ble_eq_true rfl) (fun z111 e111 => ?_)
              have i111 := in_add 1 32 e111 j44_7 (in_c 1 rfl) rfl rfl
              refine g_goto 19 (gd rfl) rfl ?_
              have n19 : (z104).toInt < (z89).toInt := by have a0 := j44_7; unfold In at a0; have a1 := j19_6; unfold In at a1; have a2 := j19_5; unfold In at a2; have a3 := h2; unfold In at a3; have a4 := ro_32_1; unfold In at a4; have a5 := j44_8; unfold In at a5; have a6 := i89; unfold In at a6; have a7 := i79; unfold In at a7; have a8 := i111; unfold In at a8; have a9 := t_add e111 j44_7 (in_c 1 rfl) rfl; have a10 := (in_c 1 rfl); unfold In at a10; have a11 := i105; unfold In at a11; omega
              have n19a : AE s95 (z89).toInt := by exact p95a (y19_5).toInt (z89).toInt (ae_fr (ae_fr g44_0 hF72 rfl) hF89 rfl) (by have a0 := j44_7; unfold In at a0; have a1 := j19_6; unfold In at a1; have a2 := j19_5; unfold In at a2; have a3 := h2; unfold In at a3; have a4 := ro_32_1; unfold In at a4; have a5 := j44_8; unfold In at a5; have a6 := i89; unfold In at a6; have a7 := i79; unfold In at a7; have a8 := i111; unfold In at a8; have a9 := t_add e111 j44_7 (in_c 1 rfl) rfl; have a10 := (in_c 1 rfl); unfold In at a10; have a11 := i105; unfold In at a11; omega) p89b
              exact gg_w (by omega) (gg_f (gf_cons rfl (gf_cons rfl (gf_cons rfl (gf_cons rfl (gf_cons rfl (gf_cons rfl (gf_cons rfl gf_nil))))))) (ih19 s95 y44_3 z89 z104 z111 hI95 (fr_tr rfl (fr_tr rfl (fr_tr rfl hFc44 hF72) hF89) hF95) (in_w 0 32 i89 rfl) (in_w 0 31 i105 rfl) (in_w 0 32 i111 rfl) n19 n19a (m_up mm19 (t_add e111 j44_7 (in_c 1 rfl) rfl) (in_w 1 1 (in_c 1 rfl) rfl))))
            · skip
              have i79 := z_eq 0 0 c79 i72 rfl
              refine g_lload_n 83 (gd rfl) rfl rfl ?_
              exact g_lreturn (gd rfl) rfl (hP _ _ ⟨s72, hI72, (fr_tr rfl hFc44 hF72), y44_3, rfl, rfl⟩)
          · skip
            have i48 := r_lt1 0 31 c48 j44_8 j19_5 rfl
            have i48a := r_lt2 1 32 c48 j44_8 j19_5 rfl
            refine g_lload_n 52 (gd rfl) rfl rfl ?_
            refine g_aload_n 53 (gd rfl) rfl rfl ?_
            refine g_getA (q2 := 80) 56 (gd rfl) rfl rfl rfl rfl ?_
            refine g_iload 58 (gd rfl) rfl rfl ?_
            refine g_laload 59 (gd rfl) rfl (n := 32) rfl (in_ix i48 rfl) (fun z58 e58 => ?_)
            refine g_ladd 60 (gd rfl) rfl (fun z59 e59 => ?_)
            refine g_lstore_n 61 (gd rfl) rfl (Nat.le_of_ble_eq_true rfl) ?_
            refine g_iinc 64 (gd rfl) rfl rfl (Nat.le_of_ble_eq_true rfl) (fun z61 e61 => ?_)
            have i61 := in_add 1 32 e61 i48 (in_c 1 rfl) rfl rfl
            refine g_goto 44 (gd rfl) rfl ?_
            have n44 : AE sc44 (y19_5).toInt := by exact g44_0
            exact gg_w (by omega) (gg_f (gf_cons rfl (gf_cons rfl (gf_cons rfl (gf_cons rfl (gf_cons rfl (gf_cons rfl (gf_cons rfl (gf_cons rfl gf_nil)))))))) (ih44 sc44 z59 z61 hIc44 hFc44 (in_w 0 31 j44_7 rfl) (in_w 0 32 i61 rfl) n44 (m_up mm44 (t_add e61 i48 (in_c 1 rfl) rfl) (in_w 1 1 (in_c 1 rfl) rfl))))
      refine g_iload 21 (gd rfl) rfl rfl ?_
      refine g_bipush 32 23 (gd rfl) rfl rfl ?_
      refine g_cmp_ge 26 117 (gd rfl) rfl rfl (fun c23 => ?_) (fun c23 => ?_)
      · skip
        have i23 := r_le2 32 32 c23 (in_c 32 rfl) j19_7 rfl
        refine g_lload_n 118 (gd rfl) rfl rfl ?_
        exact g_lreturn (gd rfl) rfl (hP _ _ ⟨sc19, hIc19, hFc19, y19_3, rfl, rfl⟩)
      · skip
        have i23 := r_lt1 0 31 c23 j19_7 (in_c 32 rfl) rfl
        refine g_aload_n 27 (gd rfl) rfl rfl ?_
        refine g_iload 29 (gd rfl) rfl rfl ?_
        refine g_iload 31 (gd rfl) rfl rfl ?_
        refine g_callv (X := _) (As := [.int y19_5, .int y19_6]) (r := []) (b := A 76) (q := 76) 34 (gd rfl) rfl rfl rfl rfl rfl (ww_o rfl) (Nat.le_of_ble_eq_true rfl) (Nat.zero_le _) (Nat.zero_le _) (k_182_76 (by omega) hIc19 (in_w 0 32 j19_5 rfl) (in_w 0 31 j19_6 rfl)) (fun e u h => h) (fun v u h => ?_)
        obtain ⟨s31, hI31, hF31, z31, rfl, rfl, i31⟩ := h
        show GG _ _ _ _ _ _ _ _ [.int z31] _ _ _
        refine g_if_ne 37 41 (gd rfl) rfl rfl (fun c34 => ?_) (fun c34 => ?_)
        · skip
          have i34 := z_ne 1 1 c34 i31 rfl
          refine g_iconst 0 42 (gd rfl) rfl rfl ?_
          refine g_istore 44 (gd rfl) rfl (Nat.le_of_ble_eq_true rfl) ?_
          have n44 : AE s31 (y19_5).toInt := by exact ae_fr g19_0 hF31 rfl
          exact gg_w (by omega) (gg_f (gf_cons rfl (gf_cons rfl (gf_cons rfl (gf_cons rfl (gf_cons rfl (gf_cons rfl (gf_cons rfl (gf_cons rfl gf_nil)))))))) (ct44 33 s31 y19_3 (Int32.ofInt 0) hI31 (fr_tr rfl hFc19 hF31) (in_w 0 31 i23 rfl) (in_w 0 32 (in_c 0 rfl) rfl) n44 (m_in 33 (in_w 0 32 (in_c 0 rfl) rfl) rfl)))
        · skip
          have i34 := z_eq 0 0 c34 i31 rfl
          refine g_ldc2_w 9000000000000000 40 (gd rfl) rfl rfl ?_
          exact g_lreturn (gd rfl) rfl (hP _ _ ⟨s31, hI31, (fr_tr rfl hFc19 hF31), (Int64.ofInt 9000000000000000), rfl, rfl⟩)
  refine g_enter2 (k := 180) (N := 1070134) (by omega) rfl (Nat.le_of_ble_eq_true rfl) ?_
  refine g_aload_n 1 (gd rfl) rfl rfl ?_
  refine g_aload_n 2 (gd rfl) rfl rfl ?_
  have p2 : KN (s.1 34) (s.1 35) (s.2.2.1 32 1) := by exact q_0
  refine g_callv (X := _) (As := [.ref (A 32)]) (r := []) (b := A 76) (q := 76) 5 (gd rfl) rfl rfl rfl rfl rfl (ww_o rfl) (Nat.le_of_ble_eq_true rfl) (Nat.zero_le _) (Nat.zero_le _) (k_181_76_32 (by omega) hI p2) (fun e u h => h) (fun v u h => ?_)
  obtain ⟨s2, hI2, hF2, rfl, rfl, p2a⟩ := h
  show GG _ _ _ _ _ _ _ _ [] _ _ _
  refine g_lconst 0 6 (gd rfl) rfl rfl ?_
  refine g_lstore_n 7 (gd rfl) rfl (Nat.le_of_ble_eq_true rfl) ?_
  refine g_aload_n 8 (gd rfl) rfl rfl ?_
  refine g_getI 11 (gd rfl) rfl rfl rfl (fun z8 e8 => ?_)
  have q8 : u_32_1 = z8 := (fr_F (e_32_1) hF2 rfl).trans e8.symm
  subst q8
  refine g_istore 13 (gd rfl) rfl (Nat.le_of_ble_eq_true rfl) ?_
  refine g_iload_n 14 (gd rfl) rfl rfl ?_
  refine g_istore 16 (gd rfl) rfl (Nat.le_of_ble_eq_true rfl) ?_
  refine g_iconst 0 17 (gd rfl) rfl rfl ?_
  refine g_istore 19 (gd rfl) rfl (Nat.le_of_ble_eq_true rfl) ?_
  have n19 : (x2).toInt < (u_32_1).toInt := by have a0 := (inv_F hI 0 32 rfl e_32_1); unfold In at a0; have a1 := h2; unfold In at a1; have a2 := (in_c 0 rfl); unfold In at a2; omega
  have n19a : AE s2 (u_32_1).toInt := by rw [e_32_1]; exact p2a
  exact gg_w (by omega) (gg_f (gf_cons rfl (gf_cons rfl (gf_cons rfl (gf_cons rfl (gf_cons rfl (gf_cons rfl (gf_cons rfl gf_nil))))))) (ct19 33 s2 (Int64.ofInt 0) u_32_1 x2 (Int32.ofInt 0) hI2 (fr_tr rfl fr_rf hF2) (in_w 0 32 (inv_F hI 0 32 rfl e_32_1) rfl) (in_w 0 31 h2 rfl) (in_w 0 32 (in_c 0 rfl) rfl) n19 n19a (m_in 33 (in_w 0 32 (in_c 0 rfl) rfl) rfl)))

def fm_245_0 : FM := ([77, 78, 81, 82, 83], [79, 80], [(76, 0)], [])
/-- GraphHouse.tree -/
theorem k_245_0 {Z : AmZ} {A : Nat → Nat} {s : GS} {ex : va_W} {d : Nat} {x1 : Int32} {u_2_1 : Int32} {u_32_1 : Int32} (hd : 7 ≤ d) (hI : Inv s) (e_2_1 : u_2_1 = s.2.2.1 2 1) (e_32_1 : u_32_1 = s.2.2.1 32 1) (q_0 : KL s) : GC Z d 245 [.ref (A 0), .int x1] (WW Z A s ++ ex) 3 18 (fun v u => ∃ t : GS, Inv t ∧ Fr fm_245_0 s t ∧ ∃ z : Int64, v = some (.long z) ∧ u = WW Z A t ++ ex) (gE1 Z A ex ([], [], [], []) s) := by
  intro post xp hP hX
  obtain ⟨u_0_2, e_0_2⟩ : ∃ w, w = s.2.2.1 0 2 := ⟨_, rfl⟩
  have ro_0_2 := inv_F hI (-1) 4000 rfl e_0_2
  have ro_2_1 := inv_F hI 0 32 rfl e_2_1
  have ro_32_1 := inv_F hI 0 32 rfl e_32_1
  refine g_enter2 (k := 245) (N := 900) (by omega) rfl (Nat.le_of_ble_eq_true rfl) ?_
  refine g_aload_n 1 (gd rfl) rfl rfl ?_
  refine g_callv (X := _) (As := []) (r := []) (b := A 0) (q := 0) 4 (gd rfl) rfl rfl rfl rfl rfl (ww_o rfl) (Nat.le_of_ble_eq_true rfl) (mc := 0) (ms := 0) (Nat.zero_le _) (Nat.zero_le _) (P := fun v u => _) ?_ (fun e u h => h) (fun v u h => h)
  intro po1 xx1 hp1 hx1
  refine g_enter2 (k := 259) (N := 300) (by omega) rfl (Nat.le_of_ble_eq_true rfl) ?_
  refine g_aload_n 1 (gd rfl) rfl rfl ?_
  refine g_getI 4 (gd rfl) rfl rfl rfl (fun z1x1 e1x1 => ?_)
  have q1x1 : u_0_2 = z1x1 := (e_0_2).trans e1x1.symm
  subst q1x1
  refine g_iconst (-1) 5 (gd rfl) rfl rfl ?_
  refine g_cmp_ne 8 18 (gd rfl) rfl rfl (fun c1x5 => ?_) (fun c1x5 => ?_)
  · skip
    have i1x5 := r_ne1 0 4000 c1x5 ro_0_2 (in_c (-1) rfl) rfl
    refine g_aload_n 19 (gd rfl) rfl rfl ?_
    refine g_getA (q2 := 32) 22 (gd rfl) rfl rfl rfl rfl ?_
    refine g_areturn (gd rfl) rfl (hp1 _ _ ?_)
    show GG _ _ _ _ _ _ _ _ [.ref (A 32)] _ _ _
    refine g_astore_n 5 (gd rfl) rfl (Nat.le_of_ble_eq_true rfl) ?_
    refine g_aload_n 6 (gd rfl) rfl rfl ?_
    refine g_iload_n 7 (gd rfl) rfl rfl ?_
    refine g_callv (X := _) (As := [.int x1]) (r := []) (b := A 32) (q := 32) 10 (gd rfl) rfl rfl rfl rfl rfl (ww_o rfl) (Nat.le_of_ble_eq_true rfl) (mc := 0) (ms := 0) (Nat.zero_le _) (Nat.zero_le _) (P := fun v u => _) ?_ (fun e u h => h) (fun v u h => h)
    intro po7 xx7 hp7 hx7
    refine g_enter2 (k := 94) (N := 300) (by omega) rfl (Nat.le_of_ble_eq_true rfl) ?_
    refine g_iload_n 1 (gd rfl) rfl rfl ?_
    refine g_if_lt 4 16 (gd rfl) rfl rfl (fun c7x1 => ?_) (fun c7x1 => ?_)
    · skip
      have i7x1 := z_lt (-2147483648) (-1) c7x1 (i_rng x1) rfl
      refine g_iconst 0 17 (gd rfl) rfl rfl ?_
      refine g_ireturn (gd rfl) rfl (nb01 (in_w 0 1 (in_c 0 rfl) rfl)) (hp7 _ _ ?_)
      show GG _ _ _ _ _ _ _ _ [.int (Int32.ofInt 0)] _ _ _
      refine g_thr (E := am_IA) (y := yX11_allow) 13 (gd rfl) rfl rfl (Or.inl ⟨rfl, rfl, rfl⟩) (by omega) (Nat.le_of_ble_eq_true rfl) (Nat.le_of_ble_eq_true rfl) (Nat.le_of_ble_eq_true rfl) (fun c10 => ?_) (fun c10 => ?_)
      · skip
        exact zn_ne c10 (in_c 0 rfl) rfl
      · skip
        exact (hX _ _ ⟨rfl, s, hI, fr_rf, rfl⟩)
    · skip
      have i7x1 := z_ge 0 2147483647 c7x1 (i_rng x1) rfl
      refine g_iload_n 5 (gd rfl) rfl rfl ?_
      refine g_aload_n 6 (gd rfl) rfl rfl ?_
      refine g_getI 9 (gd rfl) rfl rfl rfl (fun z7x6 e7x6 => ?_)
      have q7x6 : u_32_1 = z7x6 := (e_32_1).trans e7x6.symm
      subst q7x6
      refine g_cmp_ge 12 16 (gd rfl) rfl rfl (fun c7x9 => ?_) (fun c7x9 => ?_)
      · skip
        refine g_iconst 0 17 (gd rfl) rfl rfl ?_
        refine g_ireturn (gd rfl) rfl (nb01 (in_w 0 1 (in_c 0 rfl) rfl)) (hp7 _ _ ?_)
        show GG _ _ _ _ _ _ _ _ [.int (Int32.ofInt 0)] _ _ _
        refine g_thr (E := am_IA) (y := yX11_allow) 13 (gd rfl) rfl rfl (Or.inl ⟨rfl, rfl, rfl⟩) (by omega) (Nat.le_of_ble_eq_true rfl) (Nat.le_of_ble_eq_true rfl) (Nat.le_of_ble_eq_true rfl) (fun c10 => ?_) (fun c10 => ?_)
        · skip
          exact zn_ne c10 (in_c 0 rfl) rfl
        · skip
          exact (hX _ _ ⟨rfl, s, hI, fr_rf, rfl⟩)
      · skip
        have i7x9 := r_lt1 0 31 c7x9 i7x1 (inv_F hI 0 32 rfl e_32_1) rfl
        have i7x9a := r_lt2 1 32 c7x9 i7x1 (inv_F hI 0 32 rfl e_32_1) rfl
        refine g_iconst 1 13 (gd rfl) rfl rfl ?_
        refine g_goto 17 (gd rfl) rfl ?_
        refine g_ireturn (gd rfl) rfl (nb01 (in_w 0 1 (in_c 1 rfl) rfl)) (hp7 _ _ ?_)
        show GG _ _ _ _ _ _ _ _ [.int (Int32.ofInt 1)] _ _ _
        refine g_thr (E := am_IA) (y := yX11_allow) 13 (gd rfl) rfl rfl (Or.inl ⟨rfl, rfl, rfl⟩) (by omega) (Nat.le_of_ble_eq_true rfl) (Nat.le_of_ble_eq_true rfl) (Nat.le_of_ble_eq_true rfl) (fun c10 => ?_) (fun c10 => ?_)
        · skip
          refine g_aload_n 14 (gd rfl) rfl rfl ?_
          refine g_getA (q2 := 76) 17 (gd rfl) rfl rfl rfl rfl ?_
          refine g_aload_n 18 (gd rfl) rfl rfl ?_
          refine g_iload_n 19 (gd rfl) rfl rfl ?_
          have n19 : (x1).toInt < (u_32_1).toInt := by have a0 := i7x9; unfold In at a0; have a1 := i1x5; unfold In at a1; have a2 := i7x9a; unfold In at a2; have a3 := (inv_F hI 0 32 rfl e_2_1); unfold In at a3; omega
          have p19 : KN (s.1 34) (s.1 35) (s.2.2.1 32 1) := by first | exact q_0.2.2.2.1.2 | exact q_0.2.2.2.2.2
          refine g_callv (X := _) (As := [.ref (A 32), .int x1]) (r := []) (b := A 76) (q := 76) 22 (gd rfl) rfl rfl rfl rfl rfl (ww_o rfl) (Nat.le_of_ble_eq_true rfl) (Nat.zero_le _) (Nat.zero_le _) (k_180_76_32 (by omega) hI (in_w 0 31 i7x9 rfl) e_32_1 n19 p19) (fun e u h => h) (fun v u h => ?_)
          obtain ⟨s19, hI19, hF19, z19, rfl, rfl⟩ := h
          show GG _ _ _ _ _ _ _ _ [.long z19] _ _ _
          exact g_lreturn (gd rfl) rfl (hP _ _ ⟨s19, hI19, (fr_tr rfl fr_rf hF19), z19, rfl, rfl⟩)
        · skip
          exact zn_eq c10 (in_c 1 rfl) rfl
  · skip
    have i1x5 := r_eq1 (-1) (-1) c1x5 ro_0_2 (in_c (-1) rfl) rfl
    refine g_aload_n 9 (gd rfl) rfl rfl ?_
    refine g_getA (q2 := 1) 12 (gd rfl) rfl rfl rfl rfl ?_
    refine g_getA (q2 := 2) 15 (gd rfl) rfl rfl rfl rfl ?_
    refine g_goto 22 (gd rfl) rfl ?_
    refine g_areturn (gd rfl) rfl (hp1 _ _ ?_)
    show GG _ _ _ _ _ _ _ _ [.ref (A 2)] _ _ _
    refine g_astore_n 5 (gd rfl) rfl (Nat.le_of_ble_eq_true rfl) ?_
    refine g_aload_n 6 (gd rfl) rfl rfl ?_
    refine g_iload_n 7 (gd rfl) rfl rfl ?_
    refine g_callv (X := _) (As := [.int x1]) (r := []) (b := A 2) (q := 2) 10 (gd rfl) rfl rfl rfl rfl rfl (ww_o rfl) (Nat.le_of_ble_eq_true rfl) (mc := 0) (ms := 0) (Nat.zero_le _) (Nat.zero_le _) (P := fun v u => _) ?_ (fun e u h => h) (fun v u h => h)
    intro po7 xx7 hp7 hx7
    refine g_enter2 (k := 94) (N := 300) (by omega) rfl (Nat.le_of_ble_eq_true rfl) ?_
    refine g_iload_n 1 (gd rfl) rfl rfl ?_
    refine g_if_lt 4 16 (gd rfl) rfl rfl (fun c7x1 => ?_) (fun c7x1 => ?_)
    · skip
      have i7x1 := z_lt (-2147483648) (-1) c7x1 (i_rng x1) rfl
      refine g_iconst 0 17 (gd rfl) rfl rfl ?_
      refine g_ireturn (gd rfl) rfl (nb01 (in_w 0 1 (in_c 0 rfl) rfl)) (hp7 _ _ ?_)
      show GG _ _ _ _ _ _ _ _ [.int (Int32.ofInt 0)] _ _ _
      refine g_thr (E := am_IA) (y := yX11_allow) 13 (gd rfl) rfl rfl (Or.inl ⟨rfl, rfl, rfl⟩) (by omega) (Nat.le_of_ble_eq_true rfl) (Nat.le_of_ble_eq_true rfl) (Nat.le_of_ble_eq_true rfl) (fun c10 => ?_) (fun c10 => ?_)
      · skip
        exact zn_ne c10 (in_c 0 rfl) rfl
      · skip
        exact (hX _ _ ⟨rfl, s, hI, fr_rf, rfl⟩)
    · skip
      have i7x1 := z_ge 0 2147483647 c7x1 (i_rng x1) rfl
      refine g_iload_n 5 (gd rfl) rfl rfl ?_
      refine g_aload_n 6 (gd rfl) rfl rfl ?_
      refine g_getI 9 (gd rfl) rfl rfl rfl (fun z7x6 e7x6 => ?_)
      have q7x6 : u_2_1 = z7x6 := (e_2_1).trans e7x6.symm
      subst q7x6
      refine g_cmp_ge 12 16 (gd rfl) rfl rfl (fun c7x9 => ?_) (fun c7x9 => ?_)
      · skip
        refine g_iconst 0 17 (gd rfl) rfl rfl ?_
        refine g_ireturn (gd rfl) rfl (nb01 (in_w 0 1 (in_c 0 rfl) rfl)) (hp7 _ _ ?_)
        show GG _ _ _ _ _ _ _ _ [.int (Int32.ofInt 0)] _ _ _
        refine g_thr (E := am_IA) (y := yX11_allow) 13 (gd rfl) rfl rfl (Or.inl ⟨rfl, rfl, rfl⟩) (by omega) (Nat.le_of_ble_eq_true rfl) (Nat.le_of_ble_eq_true rfl) (Nat.le_of_ble_eq_true rfl) (fun c10 => ?_) (fun c10 => ?_)
        · skip
          exact zn_ne c10 (in_c 0 rfl) rfl
        · skip
          exact (hX _ _ ⟨rfl, s, hI, fr_rf, rfl⟩)
      · skip
        have i7x9 := r_lt1 0 31 c7x9 i7x1 (inv_F hI 0 32 rfl e_2_1) rfl
        have i7x9a := r_lt2 1 32 c7x9 i7x1 (inv_F hI 0 32 rfl e_2_1) rfl
        refine g_iconst 1 13 (gd rfl) rfl rfl ?_
        refine g_goto 17 (gd rfl) rfl ?_
        refine g_ireturn (gd rfl) rfl (nb01 (in_w 0 1 (in_c 1 rfl) rfl)) (hp7 _ _ ?_)
        show GG _ _ _ _ _ _ _ _ [.int (Int32.ofInt 1)] _ _ _
        refine g_thr (E := am_IA) (y := yX11_allow) 13 (gd rfl) rfl rfl (Or.inl ⟨rfl, rfl, rfl⟩) (by omega) (Nat.le_of_ble_eq_true rfl) (Nat.le_of_ble_eq_true rfl) (Nat.le_of_ble_eq_true rfl) (fun c10 => ?_) (fun c10 => ?_)
        · skip
          refine g_aload_n 14 (gd rfl) rfl rfl ?_
          refine g_getA (q2 := 76) 17 (gd rfl) rfl rfl rfl rfl ?_
          refine g_aload_n 18 (gd rfl) rfl rfl ?_
          refine g_iload_n 19 (gd rfl) rfl rfl ?_
          have n19 : (x1).toInt < (u_2_1).toInt := by have a0 := i7x9; unfold In at a0; have a1 := i1x5; unfold In at a1; have a2 := (inv_F hI 0 32 rfl e_32_1); unfold In at a2; have a3 := i7x9a; unfold In at a3; omega
          have p19 : KN (s.1 4) (s.1 5) (s.2.2.1 2 1) := by first | exact q_0.2.2.2.1.2 | exact q_0.2.2.2.2.2
          refine g_callv (X := _) (As := [.ref (A 2), .int x1]) (r := []) (b := A 76) (q := 76) 22 (gd rfl) rfl rfl rfl rfl rfl (ww_o rfl) (Nat.le_of_ble_eq_true rfl) (Nat.zero_le _) (Nat.zero_le _) (k_180_76_2 (by omega) hI (in_w 0 31 i7x9 rfl) e_2_1 n19 p19) (fun e u h => h) (fun v u h => ?_)
          obtain ⟨s19, hI19, hF19, z19, rfl, rfl⟩ := h
          show GG _ _ _ _ _ _ _ _ [.long z19] _ _ _
          exact g_lreturn (gd rfl) rfl (hP _ _ ⟨s19, hI19, (fr_tr rfl fr_rf hF19), z19, rfl, rfl⟩)
        · skip
          exact zn_eq c10 (in_c 1 rfl) rfl
