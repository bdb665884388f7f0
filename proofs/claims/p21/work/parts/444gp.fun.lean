/-! FUNCTIONAL CONTRACTS, by fgen.py -/
theorem oc_200_49_32 : (Int32.ofInt (-1)).toInt = (-1) ∧ (Int32.ofInt 0).toInt = 0 ∧ (Int32.ofInt 1).toInt = 1 ∧ (Int32.ofInt 32).toInt = 32 ∧ (Int32.ofInt 1000001).toInt = 1000001 := ⟨rfl, rfl, rfl, rfl, rfl⟩
set_option maxHeartbeats 4000000 in
/-- GraphHouse$Ways.widest -/
theorem f_200_49_32 {Z : AmZ} {A : Nat → Nat} {s : GS} {ex : va_W} {d : Nat} {X : AmX} {x2 : Int32} {x3 : Int32} (hd : 5 ≤ d) (hI : Inv s) (h2 : In x2 0 31) (h3 : In x3 0 31) (q_0 : TQD s) (q_1 : NDQ (gvD s)) (q_2 : (x3).toInt < (s.2.2.1 32 1).toInt) : GC Z d 200 [.ref (A 49), .ref (A 32), .int x2, .int x3] (WW Z A s ++ ex) 0 0 (fun v u => ∃ t : GS, Inv t ∧ Fr fm_200_49_32 s t ∧ ∃ z : Int32, v = some (.int z) ∧ u = WW Z A t ++ ex ∧ In z (-1) 1000001 ∧ (WDS (gvD s) (x2).toNatClampNeg (x3).toNatClampNeg (z).toInt)) X := by
  intro post xp hP hX
  obtain ⟨u_32_1, e_32_1⟩ : ∃ w, w = s.2.2.1 32 1 := ⟨_, rfl⟩
  have ro_32_1 := inv_F hI 0 32 rfl e_32_1
  have ct29 : ∀ (k29 : Nat) (sc29 : GS) (y29_4 : Int32) (y29_5 : Int32), Inv sc29 → Fr fm_200_49_32 s sc29 → (In y29_5 0 32) → ((cb y29_4 : Int) = (u_32_1).toInt - (y29_5).toInt) → (WDD (gvD s) (x2).toNatClampNeg (s.2.2.1 32 1).toInt.toNat (y29_4) ((sc29).1 51)) → ((((sc29).2.2.1 32 4).toInt = ((sc29).2.2.1 32 0).toInt)) → 32 - (y29_5).toInt < (k29 : Int) → GG Z (d - 1) 200 post (gx xp) (1 + k29 * 147601) 29 (fun j => xlook j [(0, .ref (A 49)), (1, .ref (A 32)), (2, .int x2), (3, .int x3), (4, .int y29_4), (5, .int y29_5)]) [] (WW Z A sc29 ++ ex) 0 0 := by
    intro k29
    induction k29 with
    | zero => intro sc29 y29_4 y29_5 hIc29 hFc29 j29_5 g29_0 g29_1 g29_2 mm29; exact m_no mm29 j29_5 rfl
    | succ k29 ih29 =>
      intro sc29 y29_4 y29_5 hIc29 hFc29 j29_5 g29_0 g29_1 g29_2 mm29
      refine gg_w (M := 1 + k29 * 147601 + 147601) gws ?_
      have ct90 : ∀ (k90 : Nat) (sc90 : GS) (y90_4 : Int32) (y90_6 : Int32) (y90_7 : Int32), Inv sc90 → Fr fm_200_49_32 s sc90 → (In y29_5 0 31) → (In y90_6 0 31) → (In y90_7 0 160) → ((cb y90_4 : Int) = (u_32_1).toInt - (y29_5).toInt - 1) → (WDI (gvD s) (x2).toNatClampNeg (s.2.2.1 32 1).toInt.toNat (y90_4) (y90_6).toNatClampNeg ((y90_7).toInt - ((sc90).1 42 (y90_6).toNatClampNeg).toInt) ((sc90).1 51)) → ((((sc90).2.2.1 32 4).toInt = ((sc90).2.2.1 32 0).toInt)) → ((((sc90).1 42 (y90_6).toNatClampNeg).toInt ≤ (y90_7).toInt)) → 160 - (y90_7).toInt < (k90 : Int) → GG Z (d - 1) 200 post (gx xp) (1 + k29 * 147601 + 1 + k90 * 900) 90 (fun j => xlook j [(0, .ref (A 49)), (1, .ref (A 32)), (2, .int x2), (3, .int x3), (4, .int y90_4), (5, .int y29_5), (6, .int y90_6), (7, .int y90_7)]) [] (WW Z A sc90 ++ ex) 0 0 := by
        intro k90
        induction k90 with
        | zero => intro sc90 y90_4 y90_6 y90_7 hIc90 hFc90 j90_5 j90_6 j90_7 g90_0 g90_1 g90_2 g90_3 mm90; exact m_no mm90 j90_7 rfl
        | succ k90 ih90 =>
          intro sc90 y90_4 y90_6 y90_7 hIc90 hFc90 j90_5 j90_6 j90_7 g90_0 g90_1 g90_2 g90_3 mm90
          refine gg_w (M := 1 + k29 * 147601 + 1 + k90 * 900 + 900) gws ?_
          refine g_iload 92 (gd rfl) rfl rfl ?_
          refine g_aload_n 93 (gd rfl) rfl rfl ?_
          refine g_getA (q2 := 42) 96 (gd rfl) rfl rfl rfl rfl ?_
          refine g_iload 98 (gd rfl) rfl rfl ?_
          refine g_iconst 1 99 (gd rfl) rfl rfl ?_
          refine g_iadd 100 (gd rfl) rfl (fun z99 e99 => ?_)
          have i99 := in_add 1 32 e99 j90_6 (in_c 1 rfl) rfl rfl
          refine g_iaload 101 (gd rfl) rfl (n := 33) rfl (in_ix i99 rfl) (fun z100 e100 => ?_)
          have i100 := inv_I hIc90 (n := 33) (t := 0) 0 160 rfl (in_ix i99 rfl) rfl e100
          refine g_cmp_ge 104 163 (gd rfl) rfl rfl (fun c101 => ?_) (fun c101 => ?_)
          · skip
            refine g_iinc 166 (gd rfl) rfl rfl (Nat.le_of_ble_eq_true rfl) (fun z163 e163 => ?_)
            have i163 := in_add 1 32 e163 j90_5 (in_c 1 rfl) rfl rfl
            refine g_goto 29 (gd rfl) rfl ?_
            have n29 : (cb y90_4 : Int) = (u_32_1).toInt - (z163).toInt := by first | (have hcb := cb_m1; exact (have a0 := in_u j90_5; have a1 := in_u h3; have a2 := in_u h2; have a3 := in_u ro_32_1; have a4 := in_u j90_7; have a5 := in_u j90_6; have a6 := in_u i163; have a7 := t_add e163 j90_5 (in_c 1 rfl) rfl; have a8 := in_u ((in_c 1 rfl)); have a9 := in_u i99; have a10 := t_add e99 j90_6 (in_c 1 rfl) rfl; have oc := oc_200_49_32; by omega)) | (have hcb := cb_all e21x18 e21x20 ‹_›; exact (have a0 := in_u j90_5; have a1 := in_u h3; have a2 := in_u h2; have a3 := in_u ro_32_1; have a4 := in_u j90_7; have a5 := in_u j90_6; have a6 := in_u i163; have a7 := t_add e163 j90_5 (in_c 1 rfl) rfl; have a8 := in_u ((in_c 1 rfl)); have a9 := in_u i99; have a10 := t_add e99 j90_6 (in_c 1 rfl) rfl; have oc := oc_200_49_32; by omega)) | (exact (have a0 := in_u j90_5; have a1 := in_u h3; have a2 := in_u h2; have a3 := in_u ro_32_1; have a4 := in_u j90_7; have a5 := in_u j90_6; have a6 := in_u i163; have a7 := t_add e163 j90_5 (in_c 1 rfl) rfl; have a8 := in_u ((in_c 1 rfl)); have a9 := in_u i99; have a10 := t_add e99 j90_6 (in_c 1 rfl) rfl; have oc := oc_200_49_32; by omega))
            have n29a : WDD (gvD s) (x2).toNatClampNeg (s.2.2.1 32 1).toInt.toNat (y90_4) ((sc90).1 51) := by have ex := clx (x := y90_6) j90_6.1; have rx := row_32_0 hIc90 hFc90 rfl rfl rfl g90_2 q_0 j90_6 rfl (e100.trans (congrArg (sc90.1 42) (show z99.toInt.toNat = (y90_6.toInt + 1).toNat from (by rw [show z99.toInt = y90_6.toInt + 1 from (by exact (have a0 := in_u j90_5; have a1 := in_u h3; have a2 := in_u h2; have a3 := in_u ro_32_1; have a4 := in_u j90_7; have a5 := in_u j90_6; have a6 := in_u i163; have a7 := t_add e163 j90_5 (in_c 1 rfl) rfl; have a8 := in_u ((in_c 1 rfl)); have a9 := in_u i99; have a10 := t_add e99 j90_6 (in_c 1 rfl) rfl; have oc := oc_200_49_32; by omega))])))); exact wdi_e g90_1 (fun p hp hf => by rw [ex] at hf ⊢; have h9 := rx.2.1 p hp hf; have h8 := c101; omega)
            have n29b : (((sc90).2.2.1 32 4).toInt = ((sc90).2.2.1 32 0).toInt) := by exact g90_2
            exact gg_w (by first | exact Nat.le_add_right _ _ | exact gw2 | exact gw3 | exact gwe rfl | exact gwf rfl | exact gwg rfl | exact gwh rfl | omega) (gg_f (gf_cons rfl (gf_cons rfl (gf_cons rfl (gf_cons rfl (gf_cons rfl (gf_cons rfl gf_nil)))))) (ih29 sc90 y90_4 z163 hIc90 hFc90 (in_w 0 32 i163 rfl) n29 n29a n29b (m_up mm29 (t_add e163 j90_5 (in_c 1 rfl) rfl) (in_w 1 1 (in_c 1 rfl) rfl))))
          · skip
            have i101 := r_lt1 0 159 c101 j90_7 i100 rfl
            have i101a := r_lt2 1 160 c101 j90_7 i100 rfl
            refine g_aload_n 105 (gd rfl) rfl rfl ?_
            refine g_getA (q2 := 43) 108 (gd rfl) rfl rfl rfl rfl ?_
            refine g_iload 110 (gd rfl) rfl rfl ?_
            refine g_iaload 111 (gd rfl) rfl (n := 160) rfl (in_ix i101 rfl) (fun z110 e110 => ?_)
            have i110 := inv_I hIc90 (n := 160) (t := 0) 0 159 rfl (in_ix i101 rfl) rfl e110
            refine g_istore 113 (gd rfl) rfl (Nat.le_of_ble_eq_true rfl) ?_
            refine g_aload_n 114 (gd rfl) rfl rfl ?_
            refine g_getA (q2 := 51) 117 (gd rfl) rfl rfl rfl rfl ?_
            refine g_aload_n 118 (gd rfl) rfl rfl ?_
            refine g_getA (q2 := 35) 121 (gd rfl) rfl rfl rfl rfl ?_
            refine g_iload 123 (gd rfl) rfl rfl ?_
            refine g_iaload 124 (gd rfl) rfl (n := 160) rfl (in_ix i110 rfl) (fun z123 e123 => ?_)
            have i123 := inv_I hIc90 (n := 160) (t := 0) 0 31 rfl (in_ix i110 rfl) rfl e123
            refine g_aload_n 125 (gd rfl) rfl rfl ?_
            refine g_getA (q2 := 51) 128 (gd rfl) rfl rfl rfl rfl ?_
            refine g_aload_n 129 (gd rfl) rfl rfl ?_
            refine g_getA (q2 := 35) 132 (gd rfl) rfl rfl rfl rfl ?_
            refine g_iload 134 (gd rfl) rfl rfl ?_
            refine g_iaload 135 (gd rfl) rfl (n := 160) rfl (in_ix i110 rfl) (fun z134 e134 => ?_)
            have q134 : z123 = z134 := (e123).trans e134.symm
            subst q134
            refine g_iaload 136 (gd rfl) rfl (n := 32) rfl (in_ix i123 rfl) (fun z135 e135 => ?_)
            have i135 := inv_I hIc90 (n := 32) (t := 0) (-1) 1000001 rfl (in_ix i123 rfl) rfl e135
            refine g_aload_n 137 (gd rfl) rfl rfl ?_
            refine g_getA (q2 := 51) 140 (gd rfl) rfl rfl rfl rfl ?_
            refine g_iload 142 (gd rfl) rfl rfl ?_
            refine g_iaload 143 (gd rfl) rfl (n := 32) rfl (in_ix j90_6 rfl) (fun z142 e142 => ?_)
            have i142 := inv_I hIc90 (n := 32) (t := 0) (-1) 1000001 rfl (in_ix j90_6 rfl) rfl e142
            refine g_aload_n 144 (gd rfl) rfl rfl ?_
            refine g_getA (q2 := 37) 147 (gd rfl) rfl rfl rfl rfl ?_
            refine g_iload 149 (gd rfl) rfl rfl ?_
            refine g_iaload 150 (gd rfl) rfl (n := 160) rfl (in_ix i110 rfl) (fun z149 e149 => ?_)
            have i149 := inv_I hIc90 (n := 160) (t := 0) 0 1000000 rfl (in_ix i110 rfl) rfl e149
            refine g_calls (As := [.int z142, .int z149]) (r := [.int z135, .int z123, .ref (A 51)]) 153 (gd rfl) rfl rfl rfl rfl rfl (Nat.le_of_ble_eq_true rfl) (mc := 0) (ms := 0) (Nat.zero_le _) (Nat.zero_le _) (P := fun v u => _) ?_ (fun v u h => h)
            intro po150 xx150 hp150 hx150
            refine g_enter2 (k := 424) (N := 300) (by first | exact dq1 hd rfl | exact dq0 hd rfl | exact dq2 hd rfl | exact dq3 hd rfl | omega) rfl (Nat.le_of_ble_eq_true rfl) ?_
            refine g_iload_n 1 (gd rfl) rfl rfl ?_
            refine g_iload_n 2 (gd rfl) rfl rfl ?_
            refine g_cmp_gt 5 9 (gd rfl) rfl rfl (fun c150x2 => ?_) (fun c150x2 => ?_)
            · skip
              have i150x2 := r_lt2 1 1000001 c150x2 i149 i142 rfl
              refine g_iload_n 10 (gd rfl) rfl rfl ?_
              refine g_ireturn (gd rfl) rfl rfl (hp150 _ _ ?_)
              show GG _ _ _ _ _ _ _ _ [.int z149, .int z135, .int z123, .ref (A 51)] _ _ _
              refine g_calls (As := [.int z135, .int z149]) (r := [.int z123, .ref (A 51)]) 156 (gd rfl) rfl rfl rfl rfl rfl (Nat.le_of_ble_eq_true rfl) (mc := 0) (ms := 0) (Nat.zero_le _) (Nat.zero_le _) (P := fun v u => _) ?_ (fun v u h => h)
              intro po153 xx153 hp153 hx153
              refine g_enter2 (k := 422) (N := 300) (by first | exact dq1 hd rfl | exact dq0 hd rfl | exact dq2 hd rfl | exact dq3 hd rfl | omega) rfl (Nat.le_of_ble_eq_true rfl) ?_
              refine g_iload_n 1 (gd rfl) rfl rfl ?_
              refine g_iload_n 2 (gd rfl) rfl rfl ?_
              refine g_cmp_lt 5 9 (gd rfl) rfl rfl (fun c153x2 => ?_) (fun c153x2 => ?_)
              · skip
                have i153x2 := r_lt1 (-1) 999999 c153x2 i135 i149 rfl
                refine g_iload_n 10 (gd rfl) rfl rfl ?_
                refine g_ireturn (gd rfl) rfl rfl (hp153 _ _ ?_)
                show GG _ _ _ _ _ _ _ _ [.int z149, .int z123, .ref (A 51)] _ _ _
                refine g_iastore 157 (gd rfl) rfl (n := 32) rfl (in_ix i123 rfl) ?_
                have hI156 := inv_sI (q := 51) (j := z123.toNatClampNeg) hIc90 rfl (in_w (-1) 1000001 i149 rfl)
                refine g_iinc 160 (gd rfl) rfl rfl (Nat.le_of_ble_eq_true rfl) (fun z157 e157 => ?_)
                have i157 := in_add 1 160 e157 i101 (in_c 1 rfl) rfl rfl
                refine g_goto 90 (gd rfl) rfl ?_
                have n90 : (cb y90_4 : Int) = (u_32_1).toInt - (y29_5).toInt - 1 := by first | exact g90_0 | (exact (have a0 := in_u j90_5; have a1 := in_u h3; have a2 := in_u h2; have a3 := in_u ro_32_1; have a4 := in_u i101; have a5 := in_u j90_6; have a6 := in_u i110; have a7 := in_u i157; have a8 := t_add e157 i101 (in_c 1 rfl) rfl; have a9 := in_u ((in_c 1 rfl)); have a10 := in_u i99; have a11 := t_add e99 j90_6 (in_c 1 rfl) rfl; have oc := oc_200_49_32; by omega))
                have n90a : WDI (gvD s) (x2).toNatClampNeg (s.2.2.1 32 1).toInt.toNat (y90_4) (y90_6).toNatClampNeg ((z157).toInt - (((sI sc90 51 z123.toNatClampNeg z149)).1 42 (y90_6).toNatClampNeg).toInt) (((sI sc90 51 z123.toNatClampNeg z149)).1 51) := by have ex := clx (x := y90_6) j90_6.1; have rx := row_32_0 hIc90 hFc90 rfl rfl rfl g90_2 q_0 j90_6 rfl (e100.trans (congrArg (sc90.1 42) (show z99.toInt.toNat = (y90_6.toInt + 1).toNat from (by rw [show z99.toInt = y90_6.toInt + 1 from (by exact (have a0 := in_u j90_5; have a1 := in_u h3; have a2 := in_u h2; have a3 := in_u ro_32_1; have a4 := in_u i101; have a5 := in_u j90_6; have a6 := in_u i110; have a7 := in_u i157; have a8 := t_add e157 i101 (in_c 1 rfl) rfl; have a9 := in_u ((in_c 1 rfl)); have a10 := in_u i99; have a11 := t_add e99 j90_6 (in_c 1 rfl) rfl; have oc := oc_200_49_32; by omega))])))); obtain ⟨p, p1, p2, p3, p4⟩ := rx.1 y90_7 z110 g90_3 (by exact (have a0 := in_u j90_5; have a1 := in_u h3; have a2 := in_u h2; have a3 := in_u ro_32_1; have a4 := in_u i101; have a5 := in_u j90_6; have a6 := in_u i110; have a7 := in_u i157; have a8 := t_add e157 i101 (in_c 1 rfl) rfl; have a9 := in_u ((in_c 1 rfl)); have a10 := in_u i99; have a11 := t_add e99 j90_6 (in_c 1 rfl) rfl; have oc := oc_200_49_32; by omega)) e110; have pz : z110.toNatClampNeg = p := (by show z110.toInt.toNat = p; omega); have hv : z123 = (gvD s).2.2.1 p := (by rw [← pz]; exact (e123.trans (congrFun (hFc90.1 35 rfl) _))); have hr : z149 = (gvD s).2.2.2.2.1 p := (by rw [← pz]; exact (e149.trans (congrFun (hFc90.1 37 rfl) _))); rw [sI_q, (show (sI sc90 51 _ _).1 42 = sc90.1 42 from sI_p rfl)]; exact wdi_s g90_1 q_1 (show ((((s.2.2.1 32 1).toInt.toNat : Nat)) : Int) = (gvD s).2.2.2.2.2.2.1 from (by show _ = (s.2.2.1 32 1).toInt; rw [← e_32_1]; exact (have a0 := in_u j90_5; have a1 := in_u h3; have a2 := in_u h2; have a3 := in_u ro_32_1; have a4 := in_u i101; have a5 := in_u j90_6; have a6 := in_u i110; have a7 := in_u i157; have a8 := t_add e157 i101 (in_c 1 rfl) rfl; have a9 := in_u ((in_c 1 rfl)); have a10 := in_u i99; have a11 := t_add e99 j90_6 (in_c 1 rfl) rfl; have oc := oc_200_49_32; by omega))) p1 (by rw [ex]; exact p2) (by rw [ex]; exact p3) (by exact (have a0 := in_u j90_5; have a1 := in_u h3; have a2 := in_u h2; have a3 := in_u ro_32_1; have a4 := in_u i101; have a5 := in_u j90_6; have a6 := in_u i110; have a7 := in_u i157; have a8 := t_add e157 i101 (in_c 1 rfl) rfl; have a9 := in_u ((in_c 1 rfl)); have a10 := in_u i99; have a11 := t_add e99 j90_6 (in_c 1 rfl) rfl; have oc := oc_200_49_32; by omega)) hv hr e135 e142 (by exact (have a0 := in_u j90_5; have a1 := in_u h3; have a2 := in_u h2; have a3 := in_u ro_32_1; have a4 := in_u i101; have a5 := in_u j90_6; have a6 := in_u i110; have a7 := in_u i157; have a8 := t_add e157 i101 (in_c 1 rfl) rfl; have a9 := in_u ((in_c 1 rfl)); have a10 := in_u i99; have a11 := t_add e99 j90_6 (in_c 1 rfl) rfl; have oc := oc_200_49_32; by omega)) (by exact (have a0 := in_u j90_5; have a1 := in_u h3; have a2 := in_u h2; have a3 := in_u ro_32_1; have a4 := in_u i101; have a5 := in_u j90_6; have a6 := in_u i110; have a7 := in_u i157; have a8 := t_add e157 i101 (in_c 1 rfl) rfl; have a9 := in_u ((in_c 1 rfl)); have a10 := in_u i99; have a11 := t_add e99 j90_6 (in_c 1 rfl) rfl; have oc := oc_200_49_32; by omega)) (by exact (have a0 := in_u j90_5; have a1 := in_u h3; have a2 := in_u h2; have a3 := in_u ro_32_1; have a4 := in_u i101; have a5 := in_u j90_6; have a6 := in_u i110; have a7 := in_u i157; have a8 := t_add e157 i101 (in_c 1 rfl) rfl; have a9 := in_u ((in_c 1 rfl)); have a10 := in_u i99; have a11 := t_add e99 j90_6 (in_c 1 rfl) rfl; have oc := oc_200_49_32; by omega))
                have n90b : ((((sI sc90 51 z123.toNatClampNeg z149)).2.2.1 32 4).toInt = (((sI sc90 51 z123.toNatClampNeg z149)).2.2.1 32 0).toInt) := by exact g90_2
                have n90c : ((((sI sc90 51 z123.toNatClampNeg z149)).1 42 (y90_6).toNatClampNeg).toInt ≤ (z157).toInt) := by rw [(show (sI sc90 51 _ _).1 42 = sc90.1 42 from sI_p rfl)]; have h9 := g90_3; exact (have a0 := in_u j90_5; have a1 := in_u h3; have a2 := in_u h2; have a3 := in_u ro_32_1; have a4 := in_u i101; have a5 := in_u j90_6; have a6 := in_u i110; have a7 := in_u i157; have a8 := t_add e157 i101 (in_c 1 rfl) rfl; have a9 := in_u ((in_c 1 rfl)); have a10 := in_u i99; have a11 := t_add e99 j90_6 (in_c 1 rfl) rfl; have oc := oc_200_49_32; by omega)
                exact gg_w (by first | exact Nat.le_add_right _ _ | exact gw2 | exact gw3 | exact gwe rfl | exact gwf rfl | exact gwg rfl | exact gwh rfl | omega) (gg_f (gf_cons rfl (gf_cons rfl (gf_cons rfl (gf_cons rfl (gf_cons rfl (gf_cons rfl (gf_cons rfl (gf_cons rfl gf_nil)))))))) (ih90 (sI sc90 51 z123.toNatClampNeg z149) y90_4 y90_6 z157 hI156 (fr_sI rfl hFc90) (in_w 0 31 j90_5 rfl) (in_w 0 31 j90_6 rfl) (in_w 0 160 i157 rfl) n90 n90a n90b n90c (m_up mm90 (t_add e157 i101 (in_c 1 rfl) rfl) (in_w 1 1 (in_c 1 rfl) rfl))))
              · skip
                have i153x2 := r_le2 0 1000001 c153x2 i149 i135 rfl
                refine g_iload_n 6 (gd rfl) rfl rfl ?_
                refine g_goto 10 (gd rfl) rfl ?_
                refine g_ireturn (gd rfl) rfl rfl (hp153 _ _ ?_)
                show GG _ _ _ _ _ _ _ _ [.int z135, .int z123, .ref (A 51)] _ _ _
                refine g_iastore 157 (gd rfl) rfl (n := 32) rfl (in_ix i123 rfl) ?_
                have hI156 := inv_sI (q := 51) (j := z123.toNatClampNeg) hIc90 rfl (in_w (-1) 1000001 i153x2 rfl)
                refine g_iinc 160 (gd rfl) rfl rfl (Nat.le_of_ble_eq_true rfl) (fun z157 e157 => ?_)
                have i157 := in_add 1 160 e157 i101 (in_c 1 rfl) rfl rfl
                refine g_goto 90 (gd rfl) rfl ?_
                have n90 : (cb y90_4 : Int) = (u_32_1).toInt - (y29_5).toInt - 1 := by first | exact g90_0 | (exact (have a0 := in_u j90_5; have a1 := in_u h3; have a2 := in_u h2; have a3 := in_u ro_32_1; have a4 := in_u i101; have a5 := in_u j90_6; have a6 := in_u i110; have a7 := in_u i157; have a8 := t_add e157 i101 (in_c 1 rfl) rfl; have a9 := in_u ((in_c 1 rfl)); have a10 := in_u i99; have a11 := t_add e99 j90_6 (in_c 1 rfl) rfl; have oc := oc_200_49_32; by omega))
                have n90a : WDI (gvD s) (x2).toNatClampNeg (s.2.2.1 32 1).toInt.toNat (y90_4) (y90_6).toNatClampNeg ((z157).toInt - (((sI sc90 51 z123.toNatClampNeg z135)).1 42 (y90_6).toNatClampNeg).toInt) (((sI sc90 51 z123.toNatClampNeg z135)).1 51) := by have ex := clx (x := y90_6) j90_6.1; have rx := row_32_0 hIc90 hFc90 rfl rfl rfl g90_2 q_0 j90_6 rfl (e100.trans (congrArg (sc90.1 42) (show z99.toInt.toNat = (y90_6.toInt + 1).toNat from (by rw [show z99.toInt = y90_6.toInt + 1 from (by exact (have a0 := in_u j90_5; have a1 := in_u h3; have a2 := in_u h2; have a3 := in_u ro_32_1; have a4 := in_u i101; have a5 := in_u j90_6; have a6 := in_u i110; have a7 := in_u i157; have a8 := t_add e157 i101 (in_c 1 rfl) rfl; have a9 := in_u ((in_c 1 rfl)); have a10 := in_u i99; have a11 := t_add e99 j90_6 (in_c 1 rfl) rfl; have oc := oc_200_49_32; by omega))])))); obtain ⟨p, p1, p2, p3, p4⟩ := rx.1 y90_7 z110 g90_3 (by exact (have a0 := in_u j90_5; have a1 := in_u h3; have a2 := in_u h2; have a3 := in_u ro_32_1; have a4 := in_u i101; have a5 := in_u j90_6; have a6 := in_u i110; have a7 := in_u i157; have a8 := t_add e157 i101 (in_c 1 rfl) rfl; have a9 := in_u ((in_c 1 rfl)); have a10 := in_u i99; have a11 := t_add e99 j90_6 (in_c 1 rfl) rfl; have oc := oc_200_49_32; by omega)) e110; have pz : z110.toNatClampNeg = p := (by show z110.toInt.toNat = p; omega); have hv : z123 = (gvD s).2.2.1 p := (by rw [← pz]; exact (e123.trans (congrFun (hFc90.1 35 rfl) _))); have hr : z149 = (gvD s).2.2.2.2.1 p := (by rw [← pz]; exact (e149.trans (congrFun (hFc90.1 37 rfl) _))); rw [sI_q, (show (sI sc90 51 _ _).1 42 = sc90.1 42 from sI_p rfl)]; exact wdi_s g90_1 q_1 (show ((((s.2.2.1 32 1).toInt.toNat : Nat)) : Int) = (gvD s).2.2.2.2.2.2.1 from (by show _ = (s.2.2.1 32 1).toInt; rw [← e_32_1]; exact (have a0 := in_u j90_5; have a1 := in_u h3; have a2 := in_u h2; have a3 := in_u ro_32_1; have a4 := in_u i101; have a5 := in_u j90_6; have a6 := in_u i110; have a7 := in_u i157; have a8 := t_add e157 i101 (in_c 1 rfl) rfl; have a9 := in_u ((in_c 1 rfl)); have a10 := in_u i99; have a11 := t_add e99 j90_6 (in_c 1 rfl) rfl; have oc := oc_200_49_32; by omega))) p1 (by rw [ex]; exact p2) (by rw [ex]; exact p3) (by exact (have a0 := in_u j90_5; have a1 := in_u h3; have a2 := in_u h2; have a3 := in_u ro_32_1; have a4 := in_u i101; have a5 := in_u j90_6; have a6 := in_u i110; have a7 := in_u i157; have a8 := t_add e157 i101 (in_c 1 rfl) rfl; have a9 := in_u ((in_c 1 rfl)); have a10 := in_u i99; have a11 := t_add e99 j90_6 (in_c 1 rfl) rfl; have oc := oc_200_49_32; by omega)) hv hr e135 e142 (by exact (have a0 := in_u j90_5; have a1 := in_u h3; have a2 := in_u h2; have a3 := in_u ro_32_1; have a4 := in_u i101; have a5 := in_u j90_6; have a6 := in_u i110; have a7 := in_u i157; have a8 := t_add e157 i101 (in_c 1 rfl) rfl; have a9 := in_u ((in_c 1 rfl)); have a10 := in_u i99; have a11 := t_add e99 j90_6 (in_c 1 rfl) rfl; have oc := oc_200_49_32; by omega)) (by exact (have a0 := in_u j90_5; have a1 := in_u h3; have a2 := in_u h2; have a3 := in_u ro_32_1; have a4 := in_u i101; have a5 := in_u j90_6; have a6 := in_u i110; have a7 := in_u i157; have a8 := t_add e157 i101 (in_c 1 rfl) rfl; have a9 := in_u ((in_c 1 rfl)); have a10 := in_u i99; have a11 := t_add e99 j90_6 (in_c 1 rfl) rfl; have oc := oc_200_49_32; by omega)) (by exact (have a0 := in_u j90_5; have a1 := in_u h3; have a2 := in_u h2; have a3 := in_u ro_32_1; have a4 := in_u i101; have a5 := in_u j90_6; have a6 := in_u i110; have a7 := in_u i157; have a8 := t_add e157 i101 (in_c 1 rfl) rfl; have a9 := in_u ((in_c 1 rfl)); have a10 := in_u i99; have a11 := t_add e99 j90_6 (in_c 1 rfl) rfl; have oc := oc_200_49_32; by omega))
                have n90b : ((((sI sc90 51 z123.toNatClampNeg z135)).2.2.1 32 4).toInt = (((sI sc90 51 z123.toNatClampNeg z135)).2.2.1 32 0).toInt) := by exact g90_2
                have n90c : ((((sI sc90 51 z123.toNatClampNeg z135)).1 42 (y90_6).toNatClampNeg).toInt ≤ (z157).toInt) := by rw [(show (sI sc90 51 _ _).1 42 = sc90.1 42 from sI_p rfl)]; have h9 := g90_3; exact (have a0 := in_u j90_5; have a1 := in_u h3; have a2 := in_u h2; have a3 := in_u ro_32_1; have a4 := in_u i101; have a5 := in_u j90_6; have a6 := in_u i110; have a7 := in_u i157; have a8 := t_add e157 i101 (in_c 1 rfl) rfl; have a9 := in_u ((in_c 1 rfl)); have a10 := in_u i99; have a11 := t_add e99 j90_6 (in_c 1 rfl) rfl; have oc := oc_200_49_32; by omega)
                exact gg_w (by first | exact Nat.le_add_right _ _ | exact gw2 | exact gw3 | exact gwe rfl | exact gwf rfl | exact gwg rfl | exact gwh rfl | omega) (gg_f (gf_cons rfl (gf_cons rfl (gf_cons rfl (gf_cons rfl (gf_cons rfl (gf_cons rfl (gf_cons rfl (gf_cons rfl gf_nil)))))))) (ih90 (sI sc90 51 z123.toNatClampNeg z135) y90_4 y90_6 z157 hI156 (fr_sI rfl hFc90) (in_w 0 31 j90_5 rfl) (in_w 0 31 j90_6 rfl) (in_w 0 160 i157 rfl) n90 n90a n90b n90c (m_up mm90 (t_add e157 i101 (in_c 1 rfl) rfl) (in_w 1 1 (in_c 1 rfl) rfl))))
            · skip
              have i150x2 := r_le1 (-1) 1000000 c150x2 i142 i149 rfl
              refine g_iload_n 6 (gd rfl) rfl rfl ?_
              refine g_goto 10 (gd rfl) rfl ?_
              refine g_ireturn (gd rfl) rfl rfl (hp150 _ _ ?_)
              show GG _ _ _ _ _ _ _ _ [.int z142, .int z135, .int z123, .ref (A 51)] _ _ _
              refine g_calls (As := [.int z135, .int z142]) (r := [.int z123, .ref (A 51)]) 156 (gd rfl) rfl rfl rfl rfl rfl (Nat.le_of_ble_eq_true rfl) (mc := 0) (ms := 0) (Nat.zero_le _) (Nat.zero_le _) (P := fun v u => _) ?_ (fun v u h => h)
              intro po153 xx153 hp153 hx153
              refine g_enter2 (k := 422) (N := 300) (by first | exact dq1 hd rfl | exact dq0 hd rfl | exact dq2 hd rfl | exact dq3 hd rfl | omega) rfl (Nat.le_of_ble_eq_true rfl) ?_
              refine g_iload_n 1 (gd rfl) rfl rfl ?_
              refine g_iload_n 2 (gd rfl) rfl rfl ?_
              refine g_cmp_lt 5 9 (gd rfl) rfl rfl (fun c153x2 => ?_) (fun c153x2 => ?_)
              · skip
                have i153x2 := r_lt1 (-1) 999999 c153x2 i135 i150x2 rfl
                have i153x2a := r_lt2 0 1000000 c153x2 i135 i150x2 rfl
                refine g_iload_n 10 (gd rfl) rfl rfl ?_
                refine g_ireturn (gd rfl) rfl rfl (hp153 _ _ ?_)
                show GG _ _ _ _ _ _ _ _ [.int z142, .int z123, .ref (A 51)] _ _ _
                refine g_iastore 157 (gd rfl) rfl (n := 32) rfl (in_ix i123 rfl) ?_
                have hI156 := inv_sI (q := 51) (j := z123.toNatClampNeg) hIc90 rfl (in_w (-1) 1000001 i153x2a rfl)
                refine g_iinc 160 (gd rfl) rfl rfl (Nat.le_of_ble_eq_true rfl) (fun z157 e157 => ?_)
                have i157 := in_add 1 160 e157 i101 (in_c 1 rfl) rfl rfl
                refine g_goto 90 (gd rfl) rfl ?_
                have n90 : (cb y90_4 : Int) = (u_32_1).toInt - (y29_5).toInt - 1 := by first | exact g90_0 | (exact (have a0 := in_u j90_5; have a1 := in_u h3; have a2 := in_u h2; have a3 := in_u ro_32_1; have a4 := in_u i101; have a5 := in_u j90_6; have a6 := in_u i110; have a7 := in_u i157; have a8 := t_add e157 i101 (in_c 1 rfl) rfl; have a9 := in_u ((in_c 1 rfl)); have a10 := in_u i99; have a11 := t_add e99 j90_6 (in_c 1 rfl) rfl; have oc := oc_200_49_32; by omega))
                have n90a : WDI (gvD s) (x2).toNatClampNeg (s.2.2.1 32 1).toInt.toNat (y90_4) (y90_6).toNatClampNeg ((z157).toInt - (((sI sc90 51 z123.toNatClampNeg z142)).1 42 (y90_6).toNatClampNeg).toInt) (((sI sc90 51 z123.toNatClampNeg z142)).1 51) := by have ex := clx (x := y90_6) j90_6.1; have rx := row_32_0 hIc90 hFc90 rfl rfl rfl g90_2 q_0 j90_6 rfl (e100.trans (congrArg (sc90.1 42) (show z99.toInt.toNat = (y90_6.toInt + 1).toNat from (by rw [show z99.toInt = y90_6.toInt + 1 from (by exact (have a0 := in_u j90_5; have a1 := in_u h3; have a2 := in_u h2; have a3 := in_u ro_32_1; have a4 := in_u i101; have a5 := in_u j90_6; have a6 := in_u i110; have a7 := in_u i157; have a8 := t_add e157 i101 (in_c 1 rfl) rfl; have a9 := in_u ((in_c 1 rfl)); have a10 := in_u i99; have a11 := t_add e99 j90_6 (in_c 1 rfl) rfl; have oc := oc_200_49_32; by omega))])))); obtain ⟨p, p1, p2, p3, p4⟩ := rx.1 y90_7 z110 g90_3 (by exact (have a0 := in_u j90_5; have a1 := in_u h3; have a2 := in_u h2; have a3 := in_u ro_32_1; have a4 := in_u i101; have a5 := in_u j90_6; have a6 := in_u i110; have a7 := in_u i157; have a8 := t_add e157 i101 (in_c 1 rfl) rfl; have a9 := in_u ((in_c 1 rfl)); have a10 := in_u i99; have a11 := t_add e99 j90_6 (in_c 1 rfl) rfl; have oc := oc_200_49_32; by omega)) e110; have pz : z110.toNatClampNeg = p := (by show z110.toInt.toNat = p; omega); have hv : z123 = (gvD s).2.2.1 p := (by rw [← pz]; exact (e123.trans (congrFun (hFc90.1 35 rfl) _))); have hr : z149 = (gvD s).2.2.2.2.1 p := (by rw [← pz]; exact (e149.trans (congrFun (hFc90.1 37 rfl) _))); rw [sI_q, (show (sI sc90 51 _ _).1 42 = sc90.1 42 from sI_p rfl)]; exact wdi_s g90_1 q_1 (show ((((s.2.2.1 32 1).toInt.toNat : Nat)) : Int) = (gvD s).2.2.2.2.2.2.1 from (by show _ = (s.2.2.1 32 1).toInt; rw [← e_32_1]; exact (have a0 := in_u j90_5; have a1 := in_u h3; have a2 := in_u h2; have a3 := in_u ro_32_1; have a4 := in_u i101; have a5 := in_u j90_6; have a6 := in_u i110; have a7 := in_u i157; have a8 := t_add e157 i101 (in_c 1 rfl) rfl; have a9 := in_u ((in_c 1 rfl)); have a10 := in_u i99; have a11 := t_add e99 j90_6 (in_c 1 rfl) rfl; have oc := oc_200_49_32; by omega))) p1 (by rw [ex]; exact p2) (by rw [ex]; exact p3) (by exact (have a0 := in_u j90_5; have a1 := in_u h3; have a2 := in_u h2; have a3 := in_u ro_32_1; have a4 := in_u i101; have a5 := in_u j90_6; have a6 := in_u i110; have a7 := in_u i157; have a8 := t_add e157 i101 (in_c 1 rfl) rfl; have a9 := in_u ((in_c 1 rfl)); have a10 := in_u i99; have a11 := t_add e99 j90_6 (in_c 1 rfl) rfl; have oc := oc_200_49_32; by omega)) hv hr e135 e142 (by exact (have a0 := in_u j90_5; have a1 := in_u h3; have a2 := in_u h2; have a3 := in_u ro_32_1; have a4 := in_u i101; have a5 := in_u j90_6; have a6 := in_u i110; have a7 := in_u i157; have a8 := t_add e157 i101 (in_c 1 rfl) rfl; have a9 := in_u ((in_c 1 rfl)); have a10 := in_u i99; have a11 := t_add e99 j90_6 (in_c 1 rfl) rfl; have oc := oc_200_49_32; by omega)) (by exact (have a0 := in_u j90_5; have a1 := in_u h3; have a2 := in_u h2; have a3 := in_u ro_32_1; have a4 := in_u i101; have a5 := in_u j90_6; have a6 := in_u i110; have a7 := in_u i157; have a8 := t_add e157 i101 (in_c 1 rfl) rfl; have a9 := in_u ((in_c 1 rfl)); have a10 := in_u i99; have a11 := t_add e99 j90_6 (in_c 1 rfl) rfl; have oc := oc_200_49_32; by omega)) (by exact (have a0 := in_u j90_5; have a1 := in_u h3; have a2 := in_u h2; have a3 := in_u ro_32_1; have a4 := in_u i101; have a5 := in_u j90_6; have a6 := in_u i110; have a7 := in_u i157; have a8 := t_add e157 i101 (in_c 1 rfl) rfl; have a9 := in_u ((in_c 1 rfl)); have a10 := in_u i99; have a11 := t_add e99 j90_6 (in_c 1 rfl) rfl; have oc := oc_200_49_32; by omega))
                have n90b : ((((sI sc90 51 z123.toNatClampNeg z142)).2.2.1 32 4).toInt = (((sI sc90 51 z123.toNatClampNeg z142)).2.2.1 32 0).toInt) := by exact g90_2
                have n90c : ((((sI sc90 51 z123.toNatClampNeg z142)).1 42 (y90_6).toNatClampNeg).toInt ≤ (z157).toInt) := by rw [(show (sI sc90 51 _ _).1 42 = sc90.1 42 from sI_p rfl)]; have h9 := g90_3; exact (have a0 := in_u j90_5; have a1 := in_u h3; have a2 := in_u h2; have a3 := in_u ro_32_1; have a4 := in_u i101; have a5 := in_u j90_6; have a6 := in_u i110; have a7 := in_u i157; have a8 := t_add e157 i101 (in_c 1 rfl) rfl; have a9 := in_u ((in_c 1 rfl)); have a10 := in_u i99; have a11 := t_add e99 j90_6 (in_c 1 rfl) rfl; have oc := oc_200_49_32; by omega)
                exact gg_w (by first | exact Nat.le_add_right _ _ | exact gw2 | exact gw3 | exact gwe rfl | exact gwf rfl | exact gwg rfl | exact gwh rfl | omega) (gg_f (gf_cons rfl (gf_cons rfl (gf_cons rfl (gf_cons rfl (gf_cons rfl (gf_cons rfl (gf_cons rfl (gf_cons rfl gf_nil)))))))) (ih90 (sI sc90 51 z123.toNatClampNeg z142) y90_4 y90_6 z157 hI156 (fr_sI rfl hFc90) (in_w 0 31 j90_5 rfl) (in_w 0 31 j90_6 rfl) (in_w 0 160 i157 rfl) n90 n90a n90b n90c (m_up mm90 (t_add e157 i101 (in_c 1 rfl) rfl) (in_w 1 1 (in_c 1 rfl) rfl))))
              · skip
                refine g_iload_n 6 (gd rfl) rfl rfl ?_
                refine g_goto 10 (gd rfl) rfl ?_
                refine g_ireturn (gd rfl) rfl rfl (hp153 _ _ ?_)
                show GG _ _ _ _ _ _ _ _ [.int z135, .int z123, .ref (A 51)] _ _ _
                refine g_iastore 157 (gd rfl) rfl (n := 32) rfl (in_ix i123 rfl) ?_
                have hI156 := inv_sI (q := 51) (j := z123.toNatClampNeg) hIc90 rfl (in_w (-1) 1000001 i135 rfl)
                refine g_iinc 160 (gd rfl) rfl rfl (Nat.le_of_ble_eq_true rfl) (fun z157 e157 => ?_)
                have i157 := in_add 1 160 e157 i101 (in_c 1 rfl) rfl rfl
                refine g_goto 90 (gd rfl) rfl ?_
                have n90 : (cb y90_4 : Int) = (u_32_1).toInt - (y29_5).toInt - 1 := by first | exact g90_0 | (exact (have a0 := in_u j90_5; have a1 := in_u h3; have a2 := in_u h2; have a3 := in_u ro_32_1; have a4 := in_u i101; have a5 := in_u j90_6; have a6 := in_u i110; have a7 := in_u i157; have a8 := t_add e157 i101 (in_c 1 rfl) rfl; have a9 := in_u ((in_c 1 rfl)); have a10 := in_u i99; have a11 := t_add e99 j90_6 (in_c 1 rfl) rfl; have oc := oc_200_49_32; by omega))
                have n90a : WDI (gvD s) (x2).toNatClampNeg (s.2.2.1 32 1).toInt.toNat (y90_4) (y90_6).toNatClampNeg ((z157).toInt - (((sI sc90 51 z123.toNatClampNeg z135)).1 42 (y90_6).toNatClampNeg).toInt) (((sI sc90 51 z123.toNatClampNeg z135)).1 51) := by have ex := clx (x := y90_6) j90_6.1; have rx := row_32_0 hIc90 hFc90 rfl rfl rfl g90_2 q_0 j90_6 rfl (e100.trans (congrArg (sc90.1 42) (show z99.toInt.toNat = (y90_6.toInt + 1).toNat from (by rw [show z99.toInt = y90_6.toInt + 1 from (by exact (have a0 := in_u j90_5; have a1 := in_u h3; have a2 := in_u h2; have a3 := in_u ro_32_1; have a4 := in_u i101; have a5 := in_u j90_6; have a6 := in_u i110; have a7 := in_u i157; have a8 := t_add e157 i101 (in_c 1 rfl) rfl; have a9 := in_u ((in_c 1 rfl)); have a10 := in_u i99; have a11 := t_add e99 j90_6 (in_c 1 rfl) rfl; have oc := oc_200_49_32; by omega))])))); obtain ⟨p, p1, p2, p3, p4⟩ := rx.1 y90_7 z110 g90_3 (by exact (have a0 := in_u j90_5; have a1 := in_u h3; have a2 := in_u h2; have a3 := in_u ro_32_1; have a4 := in_u i101; have a5 := in_u j90_6; have a6 := in_u i110; have a7 := in_u i157; have a8 := t_add e157 i101 (in_c 1 rfl) rfl; have a9 := in_u ((in_c 1 rfl)); have a10 := in_u i99; have a11 := t_add e99 j90_6 (in_c 1 rfl) rfl; have oc := oc_200_49_32; by omega)) e110; have pz : z110.toNatClampNeg = p := (by show z110.toInt.toNat = p; omega); have hv : z123 = (gvD s).2.2.1 p := (by rw [← pz]; exact (e123.trans (congrFun (hFc90.1 35 rfl) _))); have hr : z149 = (gvD s).2.2.2.2.1 p := (by rw [← pz]; exact (e149.trans (congrFun (hFc90.1 37 rfl) _))); rw [sI_q, (show (sI sc90 51 _ _).1 42 = sc90.1 42 from sI_p rfl)]; exact wdi_s g90_1 q_1 (show ((((s.2.2.1 32 1).toInt.toNat : Nat)) : Int) = (gvD s).2.2.2.2.2.2.1 from (by show _ = (s.2.2.1 32 1).toInt; rw [← e_32_1]; exact (have a0 := in_u j90_5; have a1 := in_u h3; have a2 := in_u h2; have a3 := in_u ro_32_1; have a4 := in_u i101; have a5 := in_u j90_6; have a6 := in_u i110; have a7 := in_u i157; have a8 := t_add e157 i101 (in_c 1 rfl) rfl; have a9 := in_u ((in_c 1 rfl)); have a10 := in_u i99; have a11 := t_add e99 j90_6 (in_c 1 rfl) rfl; have oc := oc_200_49_32; by omega))) p1 (by rw [ex]; exact p2) (by rw [ex]; exact p3) (by exact (have a0 := in_u j90_5; have a1 := in_u h3; have a2 := in_u h2; have a3 := in_u ro_32_1; have a4 := in_u i101; have a5 := in_u j90_6; have a6 := in_u i110; have a7 := in_u i157; have a8 := t_add e157 i101 (in_c 1 rfl) rfl; have a9 := in_u ((in_c 1 rfl)); have a10 := in_u i99; have a11 := t_add e99 j90_6 (in_c 1 rfl) rfl; have oc := oc_200_49_32; by omega)) hv hr e135 e142 (by exact (have a0 := in_u j90_5; have a1 := in_u h3; have a2 := in_u h2; have a3 := in_u ro_32_1; have a4 := in_u i101; have a5 := in_u j90_6; have a6 := in_u i110; have a7 := in_u i157; have a8 := t_add e157 i101 (in_c 1 rfl) rfl; have a9 := in_u ((in_c 1 rfl)); have a10 := in_u i99; have a11 := t_add e99 j90_6 (in_c 1 rfl) rfl; have oc := oc_200_49_32; by omega)) (by exact (have a0 := in_u j90_5; have a1 := in_u h3; have a2 := in_u h2; have a3 := in_u ro_32_1; have a4 := in_u i101; have a5 := in_u j90_6; have a6 := in_u i110; have a7 := in_u i157; have a8 := t_add e157 i101 (in_c 1 rfl) rfl; have a9 := in_u ((in_c 1 rfl)); have a10 := in_u i99; have a11 := t_add e99 j90_6 (in_c 1 rfl) rfl; have oc := oc_200_49_32; by omega)) (by exact (have a0 := in_u j90_5; have a1 := in_u h3; have a2 := in_u h2; have a3 := in_u ro_32_1; have a4 := in_u i101; have a5 := in_u j90_6; have a6 := in_u i110; have a7 := in_u i157; have a8 := t_add e157 i101 (in_c 1 rfl) rfl; have a9 := in_u ((in_c 1 rfl)); have a10 := in_u i99; have a11 := t_add e99 j90_6 (in_c 1 rfl) rfl; have oc := oc_200_49_32; by omega))
                have n90b : ((((sI sc90 51 z123.toNatClampNeg z135)).2.2.1 32 4).toInt = (((sI sc90 51 z123.toNatClampNeg z135)).2.2.1 32 0).toInt) := by exact g90_2
                have n90c : ((((sI sc90 51 z123.toNatClampNeg z135)).1 42 (y90_6).toNatClampNeg).toInt ≤ (z157).toInt) := by rw [(show (sI sc90 51 _ _).1 42 = sc90.1 42 from sI_p rfl)]; have h9 := g90_3; exact (have a0 := in_u j90_5; have a1 := in_u h3; have a2 := in_u h2; have a3 := in_u ro_32_1; have a4 := in_u i101; have a5 := in_u j90_6; have a6 := in_u i110; have a7 := in_u i157; have a8 := t_add e157 i101 (in_c 1 rfl) rfl; have a9 := in_u ((in_c 1 rfl)); have a10 := in_u i99; have a11 := t_add e99 j90_6 (in_c 1 rfl) rfl; have oc := oc_200_49_32; by omega)
                exact gg_w (by first | exact Nat.le_add_right _ _ | exact gw2 | exact gw3 | exact gwe rfl | exact gwf rfl | exact gwg rfl | exact gwh rfl | omega) (gg_f (gf_cons rfl (gf_cons rfl (gf_cons rfl (gf_cons rfl (gf_cons rfl (gf_cons rfl (gf_cons rfl (gf_cons rfl gf_nil)))))))) (ih90 (sI sc90 51 z123.toNatClampNeg z135) y90_4 y90_6 z157 hI156 (fr_sI rfl hFc90) (in_w 0 31 j90_5 rfl) (in_w 0 31 j90_6 rfl) (in_w 0 160 i157 rfl) n90 n90a n90b n90c (m_up mm90 (t_add e157 i101 (in_c 1 rfl) rfl) (in_w 1 1 (in_c 1 rfl) rfl))))
      refine g_iload 31 (gd rfl) rfl rfl ?_
      refine g_aload_n 32 (gd rfl) rfl rfl ?_
      refine g_getI 35 (gd rfl) rfl rfl rfl (fun z32 e32 => ?_)
      have q32 : u_32_1 = z32 := (fr_F e_32_1 hFc29 rfl).trans e32.symm
      subst q32
      refine g_cmp_ge 38 169 (gd rfl) rfl rfl (fun c35 => ?_) (fun c35 => ?_)
      · skip
        refine g_aload_n 170 (gd rfl) rfl rfl ?_
        refine g_getA (q2 := 51) 173 (gd rfl) rfl rfl rfl rfl ?_
        refine g_iload_n 174 (gd rfl) rfl rfl ?_
        refine g_iaload 175 (gd rfl) rfl (n := 32) rfl (in_ix h3 rfl) (fun z174 e174 => ?_)
        have i174 := inv_I hIc29 (n := 32) (t := 0) (-1) 1000001 rfl (in_ix h3 rfl) rfl e174
        have n175 : WDS (gvD s) (x2).toNatClampNeg (x3).toNatClampNeg (z174).toInt := by exact wds_c g29_1 (show (x3).toNatClampNeg < (s.2.2.1 32 1).toInt.toNat from (by have h9 := q_2; rw [← e_32_1] at h9 ⊢; show (x3).toInt.toNat < _; exact (have a0 := in_u h3; have a1 := in_u h2; have a2 := in_u ro_32_1; have a3 := in_u j29_5; have oc := oc_200_49_32; by omega))) e174 (fun v hv => by exfalso; have h9 := g29_0; have h8 := cb_pos hv; exact (have a0 := in_u h3; have a1 := in_u h2; have a2 := in_u ro_32_1; have a3 := in_u j29_5; have oc := oc_200_49_32; by omega))
        exact g_ireturn (gd rfl) rfl rfl (hP _ _ ⟨sc29, hIc29, hFc29, z174, rfl, rfl, in_w (-1) 1000001 i174 rfl, n175⟩)
      · skip
        have i35 := r_lt1 0 31 c35 j29_5 ro_32_1 rfl
        have i35a := r_lt2 1 32 c35 j29_5 ro_32_1 rfl
        refine g_aload_n 39 (gd rfl) rfl rfl ?_
        refine g_iload 41 (gd rfl) rfl rfl ?_
        have nz41 : (y29_4).toInt ≠ 0 := by exact cb_nz (by exact (have a0 := in_u h3; have a1 := in_u h2; have a2 := in_u i35a; have a3 := in_u i35; have oc := oc_200_49_32; by omega))
        refine g_callv (X := _) (As := [.int y29_4]) (r := []) (b := A 49) (q := 49) 44 (gd rfl) rfl rfl rfl rfl rfl (ww_o rfl) (Nat.le_of_ble_eq_true rfl) (Nat.zero_le _) (Nat.zero_le _) (f_201_49 (by first | exact dq1 hd rfl | exact dq0 hd rfl | exact dq2 hd rfl | exact dq3 hd rfl | omega) hIc29 nz41) (fun e u h => h) (fun v u h => ?_)
        obtain ⟨z41, rfl, rfl, i41, p41, p41a⟩ := h
        show GG _ _ _ _ _ _ _ _ [.int z41] _ _ _
        refine g_istore 46 (gd rfl) rfl (Nat.le_of_ble_eq_true rfl) ?_
        refine g_iload 48 (gd rfl) rfl rfl ?_
        refine g_iload_n 49 (gd rfl) rfl rfl ?_
        refine g_cmp_eq 52 63 (gd rfl) rfl rfl (fun c49 => ?_) (fun c49 => ?_)
        · skip
          refine g_aload_n 64 (gd rfl) rfl rfl ?_
          refine g_getA (q2 := 51) 67 (gd rfl) rfl rfl rfl rfl ?_
          refine g_iload_n 68 (gd rfl) rfl rfl ?_
          refine g_iaload 69 (gd rfl) rfl (n := 32) rfl (in_ix h3 rfl) (fun z68 e68 => ?_)
          have i68 := inv_I hIc29 (n := 32) (t := 0) (-1) 1000001 rfl (in_ix h3 rfl) rfl e68
          have n69 : WDS (gvD s) (x2).toNatClampNeg (x3).toNatClampNeg (z68).toInt := by exact wds_c g29_1 (show (x3).toNatClampNeg < (s.2.2.1 32 1).toInt.toNat from (by have h9 := q_2; rw [← e_32_1] at h9 ⊢; show (x3).toInt.toNat < _; exact (have a0 := in_u h3; have a1 := in_u h2; have a2 := in_u i35a; have a3 := in_u i35; have a4 := in_u i41; have oc := oc_200_49_32; by omega))) e68 (fun v hv => by have h9 := p41a v hv; rw [show z41.toNatClampNeg = (x3).toNatClampNeg from (by show z41.toInt.toNat = (x3).toInt.toNat; exact (have a0 := in_u h3; have a1 := in_u h2; have a2 := in_u i35a; have a3 := in_u i35; have a4 := in_u i41; have oc := oc_200_49_32; by omega)), ← e68] at h9; exact h9)
          exact g_ireturn (gd rfl) rfl rfl (hP _ _ ⟨sc29, hIc29, hFc29, z68, rfl, rfl, in_w (-1) 1000001 i68 rfl, n69⟩)
        · skip
          refine g_aload_n 53 (gd rfl) rfl rfl ?_
          refine g_getA (q2 := 51) 56 (gd rfl) rfl rfl rfl rfl ?_
          refine g_iload 58 (gd rfl) rfl rfl ?_
          refine g_iaload 59 (gd rfl) rfl (n := 32) rfl (in_ix i41 rfl) (fun z58 e58 => ?_)
          have i58 := inv_I hIc29 (n := 32) (t := 0) (-1) 1000001 rfl (in_ix i41 rfl) rfl e58
          refine g_iconst (-1) 60 (gd rfl) rfl rfl ?_
          refine g_cmp_ne 63 70 (gd rfl) rfl rfl (fun c60 => ?_) (fun c60 => ?_)
          · skip
            have i60 := r_ne1 0 1000001 c60 i58 (in_c (-1) rfl) rfl
            refine g_iload 72 (gd rfl) rfl rfl ?_
            refine g_iconst 1 73 (gd rfl) rfl rfl ?_
            refine g_iload 75 (gd rfl) rfl rfl ?_
            refine g_ishl 76 (gd rfl) rfl (fun z75 e75 => ?_)
            refine g_iconst (-1) 77 (gd rfl) rfl rfl ?_
            refine g_ixor 78 (gd rfl) rfl (fun z77 e77 => ?_)
            refine g_iand 79 (gd rfl) rfl (fun z78 e78 => ?_)
            have hcb := cb_clr e75 e77 e78 i41 p41
            refine g_istore 81 (gd rfl) rfl (Nat.le_of_ble_eq_true rfl) ?_
            refine g_aload_n 82 (gd rfl) rfl rfl ?_
            refine g_getA (q2 := 42) 85 (gd rfl) rfl rfl rfl rfl ?_
            refine g_iload 87 (gd rfl) rfl rfl ?_
            refine g_iaload 88 (gd rfl) rfl (n := 33) rfl (in_ix i41 rfl) (fun z87 e87 => ?_)
            have i87 := inv_I hIc29 (n := 33) (t := 0) 0 160 rfl (in_ix i41 rfl) rfl e87
            refine g_istore 90 (gd rfl) rfl (Nat.le_of_ble_eq_true rfl) ?_
            have n90 : (cb z78 : Int) = (u_32_1).toInt - (y29_5).toInt - 1 := by exact (have a0 := in_u h3; have a1 := in_u h2; have a2 := in_u i35a; have a3 := in_u i35; have a4 := in_u i87; have a5 := in_u i41; have oc := oc_200_49_32; by omega)
            have n90a : WDI (gvD s) (x2).toNatClampNeg (s.2.2.1 32 1).toInt.toNat (z78) (z41).toNatClampNeg ((z87).toInt - ((sc29).1 42 (z41).toNatClampNeg).toInt) ((sc29).1 51) := by exact wdi_0 g29_1 p41 p41a (fun k hk => bt_clr e75 e77 e78 i41 hk) (show (s.2.2.1 32 1).toInt.toNat ≤ 32 from (by rw [← e_32_1]; exact (have a0 := in_u h3; have a1 := in_u h2; have a2 := in_u i35a; have a3 := in_u i35; have a4 := in_u i87; have a5 := in_u i41; have oc := oc_200_49_32; by omega))) (by rw [← e87]; omega)
            have n90b : (((sc29).2.2.1 32 4).toInt = ((sc29).2.2.1 32 0).toInt) := by exact g29_2
            have n90c : (((sc29).1 42 (z41).toNatClampNeg).toInt ≤ (z87).toInt) := by rw [← e87]; exact Int.le_refl _
            exact gg_w (by first | exact Nat.le_add_right _ _ | exact gw2 | exact gw3 | exact gwe rfl | exact gwf rfl | exact gwg rfl | exact gwh rfl | omega) (gg_f (gf_cons rfl (gf_cons rfl (gf_cons rfl (gf_cons rfl (gf_cons rfl (gf_cons rfl (gf_cons rfl (gf_cons rfl gf_nil)))))))) (ct90 161 sc29 z78 z41 z87 hIc29 hFc29 (in_w 0 31 i35 rfl) (in_w 0 31 i41 rfl) (in_w 0 160 i87 rfl) n90 n90a n90b n90c (m_in 161 (in_w 0 160 i87 rfl) rfl)))
          · skip
            have i60 := r_eq1 (-1) (-1) c60 i58 (in_c (-1) rfl) rfl
            refine g_aload_n 64 (gd rfl) rfl rfl ?_
            refine g_getA (q2 := 51) 67 (gd rfl) rfl rfl rfl rfl ?_
            refine g_iload_n 68 (gd rfl) rfl rfl ?_
            refine g_iaload 69 (gd rfl) rfl (n := 32) rfl (in_ix h3 rfl) (fun z68 e68 => ?_)
            have i68 := inv_I hIc29 (n := 32) (t := 0) (-1) 1000001 rfl (in_ix h3 rfl) rfl e68
            have n69 : WDS (gvD s) (x2).toNatClampNeg (x3).toNatClampNeg (z68).toInt := by exact wds_c g29_1 (show (x3).toNatClampNeg < (s.2.2.1 32 1).toInt.toNat from (by have h9 := q_2; rw [← e_32_1] at h9 ⊢; show (x3).toInt.toNat < _; exact (have a0 := in_u h3; have a1 := in_u h2; have a2 := in_u i35a; have a3 := in_u i35; have a4 := in_u i41; have oc := oc_200_49_32; by omega))) e68 (fun v hv => by have h9 := p41a v hv; rw [← e58] at h9; have h8 := i68; unfold In at h8; exact (have a0 := in_u h3; have a1 := in_u h2; have a2 := in_u i35a; have a3 := in_u i35; have a4 := in_u i41; have oc := oc_200_49_32; by omega))
            exact g_ireturn (gd rfl) rfl rfl (hP _ _ ⟨sc29, hIc29, hFc29, z68, rfl, rfl, in_w (-1) 1000001 i68 rfl, n69⟩)
  refine g_enter2 (k := 200) (N := 4871734) (by first | exact dq1 hd rfl | exact dq0 hd rfl | exact dq2 hd rfl | exact dq3 hd rfl | omega) rfl (Nat.le_of_ble_eq_true rfl) ?_
  refine g_aload_n 1 (gd rfl) rfl rfl ?_
  refine g_callv (X := _) (As := []) (r := []) (b := A 32) (q := 32) 4 (gd rfl) rfl rfl rfl rfl rfl (ww_o rfl) (Nat.le_of_ble_eq_true rfl) (Nat.zero_le _) (Nat.zero_le _) (k_106_32 (by first | exact dq1 hd rfl | exact dq0 hd rfl | exact dq2 hd rfl | exact dq3 hd rfl | omega) hI ) (fun e u h => h) (fun v u h => ?_)
  obtain ⟨s1, hI1, hF1, n1, rfl, rfl⟩ := h
  obtain ⟨z1a, e1⟩ : ∃ w, w = s1.2.2.1 32 4 := ⟨_, rfl⟩
  have i1a := inv_F hI1 (-1) 4000 rfl e1
  obtain ⟨z1b, e1a⟩ : ∃ w, w = s1.2.2.1 32 0 := ⟨_, rfl⟩
  have i1b := inv_F hI1 0 4000 rfl e1a
  rw [← (show z1a = s1.2.2.1 32 4 from e1)] at n1
  rw [← (show z1b = s1.2.2.1 32 0 from e1a)] at n1
  show GG _ _ _ _ _ _ _ _ [] _ _ _
  refine g_aload_n 5 (gd rfl) rfl rfl ?_
  refine g_getA (q2 := 51) 8 (gd rfl) rfl rfl rfl rfl ?_
  refine g_iconst (-1) 9 (gd rfl) rfl rfl ?_
  refine g_calls (As := [.ref (A 51), .int (Int32.ofInt (-1))]) (r := []) 12 (gd rfl) rfl rfl rfl rfl rfl (Nat.le_of_ble_eq_true rfl) (Nat.zero_le _) (Nat.zero_le _) (k_fillI 51 (by first | exact dq1 hd rfl | exact dq0 hd rfl | exact dq2 hd rfl | exact dq3 hd rfl | omega) hI1 (in_c (-1) rfl) (n := 32) rfl rfl rfl rfl) (fun v u h => ?_)
  obtain ⟨s9, hI9, hF9, rfl, rfl, fl9⟩ := h
  show GG _ _ _ _ _ _ _ _ [] _ _ _
  refine g_aload_n 13 (gd rfl) rfl rfl ?_
  refine g_getA (q2 := 51) 16 (gd rfl) rfl rfl rfl rfl ?_
  refine g_iload_n 17 (gd rfl) rfl rfl ?_
  refine g_ldc 1000001 19 (gd rfl) rfl rfl ?_
  refine g_iastore 20 (gd rfl) rfl (n := 32) rfl (in_ix h2 rfl) ?_
  have hI19 := inv_sI (q := 51) (j := x2.toNatClampNeg) hI9 rfl (in_w (-1) 1000001 (in_c 1000001 rfl) rfl)
  refine g_aload_n 21 (gd rfl) rfl rfl ?_
  refine g_callv (X := _) (As := []) (r := []) (b := A 32) (q := 32) 24 (gd rfl) rfl rfl rfl rfl rfl (ww_o rfl) (Nat.le_of_ble_eq_true rfl) (mc := 0) (ms := 0) (Nat.zero_le _) (Nat.zero_le _) (P := fun v u => _) ?_ (fun e u h => h) (fun v u h => h)
  intro po21 xx21 hp21 hx21
  refine g_enter2 (k := 102) (N := 300) (by first | exact dq1 hd rfl | exact dq0 hd rfl | exact dq2 hd rfl | exact dq3 hd rfl | omega) rfl (Nat.le_of_ble_eq_true rfl) ?_
  refine g_aload_n 1 (gd rfl) rfl rfl ?_
  refine g_getI 4 (gd rfl) rfl rfl rfl (fun z21x1 e21x1 => ?_)
  have q21x1 : u_32_1 = z21x1 := (sI_F (fr_F (fr_F (e_32_1) hF1 rfl) hF9 rfl)).trans e21x1.symm
  subst q21x1
  refine g_bipush 32 6 (gd rfl) rfl rfl ?_
  refine g_cmp_lt 9 13 (gd rfl) rfl rfl (fun c21x6 => ?_) (fun c21x6 => ?_)
  · skip
    have i21x6 := r_lt1 0 31 c21x6 ro_32_1 (in_c 32 rfl) rfl
    refine g_iconst 1 14 (gd rfl) rfl rfl ?_
    refine g_aload_n 15 (gd rfl) rfl rfl ?_
    refine g_getI 18 (gd rfl) rfl rfl rfl (fun z21x15 e21x15 => ?_)
    have q21x15 : u_32_1 = z21x15 := (sI_F (fr_F (fr_F (e_32_1) hF1 rfl) hF9 rfl)).trans e21x15.symm
    subst q21x15
    refine g_ishl 19 (gd rfl) rfl (fun z21x18 e21x18 => ?_)
    refine g_iconst 1 20 (gd rfl) rfl rfl ?_
    refine g_isub 21 (gd rfl) rfl (fun z21x20 e21x20 => ?_)
    refine g_ireturn (gd rfl) rfl rfl (hp21 _ _ ?_)
    show GG _ _ _ _ _ _ _ _ [.int z21x20] _ _ _
    refine g_istore 26 (gd rfl) rfl (Nat.le_of_ble_eq_true rfl) ?_
    refine g_iconst 0 27 (gd rfl) rfl rfl ?_
    refine g_istore 29 (gd rfl) rfl (Nat.le_of_ble_eq_true rfl) ?_
    have n29 : (cb z21x20 : Int) = (u_32_1).toInt - ((Int32.ofInt 0)).toInt := by first | (have hcb := cb_m1; exact (have a0 := in_u i21x6; have a1 := in_u h3; have a2 := in_u h2; have a3 := in_u ((in_c 0 rfl)); have a4 := in_u i1b; have a5 := in_u i1a; have oc := oc_200_49_32; by omega)) | (have hcb := cb_all e21x18 e21x20 ‹_›; exact (have a0 := in_u i21x6; have a1 := in_u h3; have a2 := in_u h2; have a3 := in_u ((in_c 0 rfl)); have a4 := in_u i1b; have a5 := in_u i1a; have oc := oc_200_49_32; by omega)) | (exact (have a0 := in_u i21x6; have a1 := in_u h3; have a2 := in_u h2; have a3 := in_u ((in_c 0 rfl)); have a4 := in_u i1b; have a5 := in_u i1a; have oc := oc_200_49_32; by omega))
    have n29a : WDD (gvD s) (x2).toNatClampNeg (s.2.2.1 32 1).toInt.toNat (z21x20) (((sI s9 51 x2.toNatClampNeg (Int32.ofInt 1000001))).1 51) := by exact wdd_0 (x := x2) q_1 (show ((((s.2.2.1 32 1).toInt.toNat : Nat)) : Int) = (gvD s).2.2.2.2.2.2.1 from (by show _ = (s.2.2.1 32 1).toInt; rw [← e_32_1]; exact (have a0 := in_u i21x6; have a1 := in_u h3; have a2 := in_u h2; have a3 := in_u ((in_c 0 rfl)); have a4 := in_u i1b; have a5 := in_u i1a; have oc := oc_200_49_32; by omega))) (show (s.2.2.1 32 1).toInt.toNat ≤ 32 from (by rw [← e_32_1]; exact (have a0 := in_u i21x6; have a1 := in_u h3; have a2 := in_u h2; have a3 := in_u ((in_c 0 rfl)); have a4 := in_u i1b; have a5 := in_u i1a; have oc := oc_200_49_32; by omega))) (fun v => by rw [(show ((((s.2.2.1 32 1).toInt.toNat : Nat)) : Int) = (u_32_1).toInt from (by rw [← e_32_1]; exact (have a0 := in_u i21x6; have a1 := in_u h3; have a2 := in_u h2; have a3 := in_u ((in_c 0 rfl)); have a4 := in_u i1b; have a5 := in_u i1a; have oc := oc_200_49_32; by omega)))]; exact all_a e21x18 e21x20 i21x6 v) fl9 rfl sI_q
    have n29b : ((((sI s9 51 x2.toNatClampNeg (Int32.ofInt 1000001))).2.2.1 32 4).toInt = (((sI s9 51 x2.toNatClampNeg (Int32.ofInt 1000001))).2.2.1 32 0).toInt) := by show (s9.2.2.1 32 4).toInt = (s9.2.2.1 32 0).toInt; rw [hF9.2.2.1 32 4 rfl, hF9.2.2.1 32 0 rfl, ← (show z1a = s1.2.2.1 32 4 from e1), ← (show z1b = s1.2.2.1 32 0 from e1a)]; exact n1
    exact gg_w (by first | exact Nat.le_of_ble_eq_true rfl | omega) (gg_f (gf_cons rfl (gf_cons rfl (gf_cons rfl (gf_cons rfl (gf_cons rfl (gf_cons rfl gf_nil)))))) (ct29 33 (sI s9 51 x2.toNatClampNeg (Int32.ofInt 1000001)) z21x20 (Int32.ofInt 0) hI19 (fr_sI rfl (fr_tr rfl (fr_tr rfl fr_rf hF1) hF9)) (in_w 0 32 (in_c 0 rfl) rfl) n29 n29a n29b (m_in 33 (in_w 0 32 (in_c 0 rfl) rfl) rfl)))
  · skip
    have i21x6 := r_le2 32 32 c21x6 (in_c 32 rfl) ro_32_1 rfl
    refine g_iconst (-1) 10 (gd rfl) rfl rfl ?_
    refine g_goto 21 (gd rfl) rfl ?_
    refine g_ireturn (gd rfl) rfl rfl (hp21 _ _ ?_)
    show GG _ _ _ _ _ _ _ _ [.int (Int32.ofInt (-1))] _ _ _
    refine g_istore 26 (gd rfl) rfl (Nat.le_of_ble_eq_true rfl) ?_
    refine g_iconst 0 27 (gd rfl) rfl rfl ?_
    refine g_istore 29 (gd rfl) rfl (Nat.le_of_ble_eq_true rfl) ?_
    have n29 : (cb (Int32.ofInt (-1)) : Int) = (u_32_1).toInt - ((Int32.ofInt 0)).toInt := by first | (have hcb := cb_m1; exact (have a0 := in_u i21x6; have a1 := in_u h3; have a2 := in_u h2; have a3 := in_u ((in_c 0 rfl)); have a4 := in_u ((in_c (-1) rfl)); have a5 := in_u i1b; have a6 := in_u i1a; have oc := oc_200_49_32; by omega)) | (have hcb := cb_all e21x18 e21x20 ‹_›; exact (have a0 := in_u i21x6; have a1 := in_u h3; have a2 := in_u h2; have a3 := in_u ((in_c 0 rfl)); have a4 := in_u ((in_c (-1) rfl)); have a5 := in_u i1b; have a6 := in_u i1a; have oc := oc_200_49_32; by omega)) | (exact (have a0 := in_u i21x6; have a1 := in_u h3; have a2 := in_u h2; have a3 := in_u ((in_c 0 rfl)); have a4 := in_u ((in_c (-1) rfl)); have a5 := in_u i1b; have a6 := in_u i1a; have oc := oc_200_49_32; by omega))
    have n29a : WDD (gvD s) (x2).toNatClampNeg (s.2.2.1 32 1).toInt.toNat ((Int32.ofInt (-1))) (((sI s9 51 x2.toNatClampNeg (Int32.ofInt 1000001))).1 51) := by exact wdd_0 (x := x2) q_1 (show ((((s.2.2.1 32 1).toInt.toNat : Nat)) : Int) = (gvD s).2.2.2.2.2.2.1 from (by show _ = (s.2.2.1 32 1).toInt; rw [← e_32_1]; exact (have a0 := in_u i21x6; have a1 := in_u h3; have a2 := in_u h2; have a3 := in_u ((in_c 0 rfl)); have a4 := in_u ((in_c (-1) rfl)); have a5 := in_u i1b; have a6 := in_u i1a; have oc := oc_200_49_32; by omega))) (show (s.2.2.1 32 1).toInt.toNat ≤ 32 from (by rw [← e_32_1]; exact (have a0 := in_u i21x6; have a1 := in_u h3; have a2 := in_u h2; have a3 := in_u ((in_c 0 rfl)); have a4 := in_u ((in_c (-1) rfl)); have a5 := in_u i1b; have a6 := in_u i1a; have oc := oc_200_49_32; by omega))) (fun v => by rw [(show ((((s.2.2.1 32 1).toInt.toNat : Nat)) : Int) = (u_32_1).toInt from (by rw [← e_32_1]; exact (have a0 := in_u i21x6; have a1 := in_u h3; have a2 := in_u h2; have a3 := in_u ((in_c 0 rfl)); have a4 := in_u ((in_c (-1) rfl)); have a5 := in_u i1b; have a6 := in_u i1a; have oc := oc_200_49_32; by omega)))]; exact all_b (by exact (have a0 := in_u i21x6; have a1 := in_u h3; have a2 := in_u h2; have a3 := in_u ((in_c 0 rfl)); have a4 := in_u ((in_c (-1) rfl)); have a5 := in_u i1b; have a6 := in_u i1a; have oc := oc_200_49_32; by omega)) v) fl9 rfl sI_q
    have n29b : ((((sI s9 51 x2.toNatClampNeg (Int32.ofInt 1000001))).2.2.1 32 4).toInt = (((sI s9 51 x2.toNatClampNeg (Int32.ofInt 1000001))).2.2.1 32 0).toInt) := by show (s9.2.2.1 32 4).toInt = (s9.2.2.1 32 0).toInt; rw [hF9.2.2.1 32 4 rfl, hF9.2.2.1 32 0 rfl, ← (show z1a = s1.2.2.1 32 4 from e1), ← (show z1b = s1.2.2.1 32 0 from e1a)]; exact n1
    exact gg_w (by first | exact Nat.le_of_ble_eq_true rfl | omega) (gg_f (gf_cons rfl (gf_cons rfl (gf_cons rfl (gf_cons rfl (gf_cons rfl (gf_cons rfl gf_nil)))))) (ct29 33 (sI s9 51 x2.toNatClampNeg (Int32.ofInt 1000001)) (Int32.ofInt (-1)) (Int32.ofInt 0) hI19 (fr_sI rfl (fr_tr rfl (fr_tr rfl fr_rf hF1) hF9)) (in_w 0 32 (in_c 0 rfl) rfl) n29 n29a n29b (m_in 33 (in_w 0 32 (in_c 0 rfl) rfl) rfl)))

theorem oc_231_0 : (Int32.ofInt (-1)).toInt = (-1) ∧ (Int32.ofInt 0).toInt = 0 ∧ (Int32.ofInt 1).toInt = 1 := ⟨rfl, rfl, rfl⟩
/-- GraphHouse.width -/
theorem f_231_0 {Z : AmZ} {A : Nat → Nat} {s : GS} {ex : va_W} {d : Nat} {x1 : Int32} {x2 : Int32} (hd : 7 ≤ d) (hI : Inv s) (q_0 : TQ s) (q_1 : TQD s) (q_2 : NDC s) : GC Z d 231 [.ref (A 0), .int x1, .int x2] (WW Z A s ++ ex) 3 18 (fun v u => ∃ t : GS, Inv t ∧ Fr fm_231_0 s t ∧ ∃ z : Int32, v = some (.int z) ∧ u = WW Z A t ++ ex ∧ In z (-1) 1000001 ∧ (((0 ≤ x1.toInt ∧ x1.toInt < (shC s).2.2.2.2.2.2.1) ∧ (0 ≤ x2.toInt ∧ x2.toInt < (shC s).2.2.2.2.2.2.1)) ∧ WDS (shC s) x1.toNatClampNeg x2.toNatClampNeg (z).toInt)) (gEx Z A ex fm_231_0 s (¬ ((0 ≤ x1.toInt ∧ x1.toInt < (shC s).2.2.2.2.2.2.1) ∧ (0 ≤ x2.toInt ∧ x2.toInt < (shC s).2.2.2.2.2.2.1))) (False)) := by
  intro post xp hP hX
  obtain ⟨u_0_2, e_0_2⟩ : ∃ w, w = s.2.2.1 0 2 := ⟨_, rfl⟩
  have ro_0_2 := inv_F hI (-1) 4000 rfl e_0_2
  obtain ⟨u_2_1, e_2_1⟩ : ∃ w, w = s.2.2.1 2 1 := ⟨_, rfl⟩
  have ro_2_1 := inv_F hI 0 32 rfl e_2_1
  obtain ⟨u_32_1, e_32_1⟩ : ∃ w, w = s.2.2.1 32 1 := ⟨_, rfl⟩
  have ro_32_1 := inv_F hI 0 32 rfl e_32_1
  refine g_enter2 (k := 231) (N := 900) (by first | exact dq1 hd rfl | exact dq0 hd rfl | exact dq2 hd rfl | exact dq3 hd rfl | omega) rfl (Nat.le_of_ble_eq_true rfl) ?_
  refine g_aload_n 1 (gd rfl) rfl rfl ?_
  refine g_callv (X := _) (As := []) (r := []) (b := A 0) (q := 0) 4 (gd rfl) rfl rfl rfl rfl rfl (ww_o rfl) (Nat.le_of_ble_eq_true rfl) (mc := 0) (ms := 0) (Nat.zero_le _) (Nat.zero_le _) (P := fun v u => _) ?_ (fun e u h => h) (fun v u h => h)
  intro po1 xx1 hp1 hx1
  refine g_enter2 (k := 259) (N := 300) (by first | exact dq1 hd rfl | exact dq0 hd rfl | exact dq2 hd rfl | exact dq3 hd rfl | omega) rfl (Nat.le_of_ble_eq_true rfl) ?_
  refine g_aload_n 1 (gd rfl) rfl rfl ?_
  refine g_getI 4 (gd rfl) rfl rfl rfl (fun z1x1 e1x1 => ?_)
  have q1x1 : u_0_2 = z1x1 := (e_0_2).trans e1x1.symm
  subst q1x1
  refine g_iconst (-1) 5 (gd rfl) rfl rfl ?_
  refine g_cmp_ne 8 18 (gd rfl) rfl rfl (fun c1x5 => ?_) (fun c1x5 => ?_)
  · skip
    have i1x5 := r_ne1 0 4000 c1x5 ro_0_2 (in_c (-1) rfl) rfl
    refine g_aload_n 19 (gd rfl) rfl rfl ?_
    refine g_getA (q2 := 32) 22 (gd rfl) rfl rfl rfl rfl ?_
    refine g_areturn (gd rfl) rfl (hp1 _ _ ?_)
    show GG _ _ _ _ _ _ _ _ [.ref (A 32)] _ _ _
    refine g_astore_n 5 (gd rfl) rfl (Nat.le_of_ble_eq_true rfl) ?_
    refine g_aload_n 6 (gd rfl) rfl rfl ?_
    refine g_iload_n 7 (gd rfl) rfl rfl ?_
    refine g_callv (X := _) (As := [.int x1]) (r := []) (b := A 32) (q := 32) 10 (gd rfl) rfl rfl rfl rfl rfl (ww_o rfl) (Nat.le_of_ble_eq_true rfl) (mc := 0) (ms := 0) (Nat.zero_le _) (Nat.zero_le _) (P := fun v u => _) ?_ (fun e u h => h) (fun v u h => h)
    intro po7 xx7 hp7 hx7
    refine g_enter2 (k := 94) (N := 300) (by first | exact dq1 hd rfl | exact dq0 hd rfl | exact dq2 hd rfl | exact dq3 hd rfl | omega) rfl (Nat.le_of_ble_eq_true rfl) ?_
    refine g_iload_n 1 (gd rfl) rfl rfl ?_
    refine g_if_lt 4 16 (gd rfl) rfl rfl (fun c7x1 => ?_) (fun c7x1 => ?_)
    · skip
      have i7x1 := z_lt (-2147483648) (-1) c7x1 (i_rng x1) rfl
      refine g_iconst 0 17 (gd rfl) rfl rfl ?_
      refine g_ireturn (gd rfl) rfl (nb01 (in_w 0 1 (in_c 0 rfl) rfl)) (hp7 _ _ ?_)
      show GG _ _ _ _ _ _ _ _ [.int (Int32.ofInt 0)] _ _ _
      refine g_if_eq 13 25 (gd rfl) rfl rfl (fun c10 => ?_) (fun c10 => ?_)
      · skip
        refine g_iconst 0 26 (gd rfl) rfl rfl ?_
        refine g_thr (E := am_IA) (y := yX11_allow) 29 (gd rfl) rfl rfl (Or.inl ⟨rfl, rfl, rfl⟩) (by first | exact dq1 hd rfl | exact dq0 hd rfl | exact dq2 hd rfl | exact dq3 hd rfl | omega) (Nat.le_of_ble_eq_true rfl) (Nat.le_of_ble_eq_true rfl) (Nat.le_of_ble_eq_true rfl) (fun c26 => ?_) (fun c26 => ?_)
        · skip
          exact zn_ne c26 (in_c 0 rfl) rfl
        · skip
          have n26 : ¬ ((0 ≤ x1.toInt ∧ x1.toInt < (shC s).2.2.2.2.2.2.1) ∧ (0 ≤ x2.toInt ∧ x2.toInt < (shC s).2.2.2.2.2.2.1)) := by first | (rw [shC_n (by rw [← e1x1]; exact c1x5)]; show ¬ ((0 ≤ x1.toInt ∧ x1.toInt < (s.2.2.1 2 1).toInt) ∧ (0 ≤ x2.toInt ∧ x2.toInt < (s.2.2.1 2 1).toInt)); rw [← e_2_1]; exact (have a0 := in_u ro_32_1; have a1 := in_u ro_2_1; have a2 := in_u i1x5; have a3 := in_u i7x1; have oc := oc_231_0; by omega)) | (rw [shC_d (by rw [← e1x1]; exact c1x5)]; show ¬ ((0 ≤ x1.toInt ∧ x1.toInt < (s.2.2.1 32 1).toInt) ∧ (0 ≤ x2.toInt ∧ x2.toInt < (s.2.2.1 32 1).toInt)); rw [← e_32_1]; exact (have a0 := in_u ro_32_1; have a1 := in_u ro_2_1; have a2 := in_u i1x5; have a3 := in_u i7x1; have oc := oc_231_0; by omega))
          exact (hX _ _ ⟨Or.inl ⟨rfl, n26⟩, s, hI, fr_rf, rfl⟩)
      · skip
        exact zn_ne c10 (in_c 0 rfl) rfl
    · skip
      have i7x1 := z_ge 0 2147483647 c7x1 (i_rng x1) rfl
      refine g_iload_n 5 (gd rfl) rfl rfl ?_
      refine g_aload_n 6 (gd rfl) rfl rfl ?_
      refine g_getI 9 (gd rfl) rfl rfl rfl (fun z7x6 e7x6 => ?_)
      have q7x6 : u_32_1 = z7x6 := (e_32_1).trans e7x6.symm
      subst q7x6
      refine g_cmp_ge 12 16 (gd rfl) rfl rfl (fun c7x9 => ?_) (fun c7x9 => ?_)
      · skip
        refine g_iconst 0 17 (gd rfl) rfl rfl ?_
        refine g_ireturn (gd rfl) rfl (nb01 (in_w 0 1 (in_c 0 rfl) rfl)) (hp7 _ _ ?_)
        show GG _ _ _ _ _ _ _ _ [.int (Int32.ofInt 0)] _ _ _
        refine g_if_eq 13 25 (gd rfl) rfl rfl (fun c10 => ?_) (fun c10 => ?_)
        · skip
          refine g_iconst 0 26 (gd rfl) rfl rfl ?_
          refine g_thr (E := am_IA) (y := yX11_allow) 29 (gd rfl) rfl rfl (Or.inl ⟨rfl, rfl, rfl⟩) (by first | exact dq1 hd rfl | exact dq0 hd rfl | exact dq2 hd rfl | exact dq3 hd rfl | omega) (Nat.le_of_ble_eq_true rfl) (Nat.le_of_ble_eq_true rfl) (Nat.le_of_ble_eq_true rfl) (fun c26 => ?_) (fun c26 => ?_)
          · skip
            exact zn_ne c26 (in_c 0 rfl) rfl
          · skip
            have n26 : ¬ ((0 ≤ x1.toInt ∧ x1.toInt < (shC s).2.2.2.2.2.2.1) ∧ (0 ≤ x2.toInt ∧ x2.toInt < (shC s).2.2.2.2.2.2.1)) := by first | (rw [shC_n (by rw [← e1x1]; exact c1x5)]; show ¬ ((0 ≤ x1.toInt ∧ x1.toInt < (s.2.2.1 2 1).toInt) ∧ (0 ≤ x2.toInt ∧ x2.toInt < (s.2.2.1 2 1).toInt)); rw [← e_2_1]; exact (have a0 := in_u ro_32_1; have a1 := in_u ro_2_1; have a2 := in_u i1x5; have a3 := in_u i7x1; have oc := oc_231_0; by omega)) | (rw [shC_d (by rw [← e1x1]; exact c1x5)]; show ¬ ((0 ≤ x1.toInt ∧ x1.toInt < (s.2.2.1 32 1).toInt) ∧ (0 ≤ x2.toInt ∧ x2.toInt < (s.2.2.1 32 1).toInt)); rw [← e_32_1]; exact (have a0 := in_u ro_32_1; have a1 := in_u ro_2_1; have a2 := in_u i1x5; have a3 := in_u i7x1; have oc := oc_231_0; by omega))
            exact (hX _ _ ⟨Or.inl ⟨rfl, n26⟩, s, hI, fr_rf, rfl⟩)
        · skip
          exact zn_ne c10 (in_c 0 rfl) rfl
      · skip
        have i7x9 := r_lt1 0 31 c7x9 i7x1 ro_32_1 rfl
        have i7x9a := r_lt2 1 32 c7x9 i7x1 ro_32_1 rfl
        refine g_iconst 1 13 (gd rfl) rfl rfl ?_
        refine g_goto 17 (gd rfl) rfl ?_
        refine g_ireturn (gd rfl) rfl (nb01 (in_w 0 1 (in_c 1 rfl) rfl)) (hp7 _ _ ?_)
        show GG _ _ _ _ _ _ _ _ [.int (Int32.ofInt 1)] _ _ _
        refine g_if_eq 13 25 (gd rfl) rfl rfl (fun c10 => ?_) (fun c10 => ?_)
        · skip
          exact zn_eq c10 (in_c 1 rfl) rfl
        · skip
          refine g_aload_n 14 (gd rfl) rfl rfl ?_
          refine g_iload_n 15 (gd rfl) rfl rfl ?_
          refine g_callv (X := _) (As := [.int x2]) (r := []) (b := A 32) (q := 32) 18 (gd rfl) rfl rfl rfl rfl rfl (ww_o rfl) (Nat.le_of_ble_eq_true rfl) (mc := 0) (ms := 0) (Nat.zero_le _) (Nat.zero_le _) (P := fun v u => _) ?_ (fun e u h => h) (fun v u h => h)
          intro po15 xx15 hp15 hx15
          refine g_enter2 (k := 94) (N := 300) (by first | exact dq1 hd rfl | exact dq0 hd rfl | exact dq2 hd rfl | exact dq3 hd rfl | omega) rfl (Nat.le_of_ble_eq_true rfl) ?_
          refine g_iload_n 1 (gd rfl) rfl rfl ?_
          refine g_if_lt 4 16 (gd rfl) rfl rfl (fun c15x1 => ?_) (fun c15x1 => ?_)
          · skip
            have i15x1 := z_lt (-2147483648) (-1) c15x1 (i_rng x2) rfl
            refine g_iconst 0 17 (gd rfl) rfl rfl ?_
            refine g_ireturn (gd rfl) rfl (nb01 (in_w 0 1 (in_c 0 rfl) rfl)) (hp15 _ _ ?_)
            show GG _ _ _ _ _ _ _ _ [.int (Int32.ofInt 0)] _ _ _
            refine g_if_eq 21 25 (gd rfl) rfl rfl (fun c18 => ?_) (fun c18 => ?_)
            · skip
              refine g_iconst 0 26 (gd rfl) rfl rfl ?_
              refine g_thr (E := am_IA) (y := yX11_allow) 29 (gd rfl) rfl rfl (Or.inl ⟨rfl, rfl, rfl⟩) (by first | exact dq1 hd rfl | exact dq0 hd rfl | exact dq2 hd rfl | exact dq3 hd rfl | omega) (Nat.le_of_ble_eq_true rfl) (Nat.le_of_ble_eq_true rfl) (Nat.le_of_ble_eq_true rfl) (fun c26 => ?_) (fun c26 => ?_)
              · skip
                exact zn_ne c26 (in_c 0 rfl) rfl
              · skip
                have n26 : ¬ ((0 ≤ x1.toInt ∧ x1.toInt < (shC s).2.2.2.2.2.2.1) ∧ (0 ≤ x2.toInt ∧ x2.toInt < (shC s).2.2.2.2.2.2.1)) := by first | (rw [shC_n (by rw [← e1x1]; exact c1x5)]; show ¬ ((0 ≤ x1.toInt ∧ x1.toInt < (s.2.2.1 2 1).toInt) ∧ (0 ≤ x2.toInt ∧ x2.toInt < (s.2.2.1 2 1).toInt)); rw [← e_2_1]; exact (have a0 := in_u i7x9; have a1 := in_u i7x9a; have a2 := in_u ro_2_1; have a3 := in_u i1x5; have a4 := in_u i15x1; have oc := oc_231_0; by omega)) | (rw [shC_d (by rw [← e1x1]; exact c1x5)]; show ¬ ((0 ≤ x1.toInt ∧ x1.toInt < (s.2.2.1 32 1).toInt) ∧ (0 ≤ x2.toInt ∧ x2.toInt < (s.2.2.1 32 1).toInt)); rw [← e_32_1]; exact (have a0 := in_u i7x9; have a1 := in_u i7x9a; have a2 := in_u ro_2_1; have a3 := in_u i1x5; have a4 := in_u i15x1; have oc := oc_231_0; by omega))
                exact (hX _ _ ⟨Or.inl ⟨rfl, n26⟩, s, hI, fr_rf, rfl⟩)
            · skip
              exact zn_ne c18 (in_c 0 rfl) rfl
          · skip
            have i15x1 := z_ge 0 2147483647 c15x1 (i_rng x2) rfl
            refine g_iload_n 5 (gd rfl) rfl rfl ?_
            refine g_aload_n 6 (gd rfl) rfl rfl ?_
            refine g_getI 9 (gd rfl) rfl rfl rfl (fun z15x6 e15x6 => ?_)
            have q15x6 : u_32_1 = z15x6 := (e_32_1).trans e15x6.symm
            subst q15x6
            refine g_cmp_ge 12 16 (gd rfl) rfl rfl (fun c15x9 => ?_) (fun c15x9 => ?_)
            · skip
              have i15x9 := r_le2 1 2147483647 c15x9 i7x9a i15x1 rfl
              refine g_iconst 0 17 (gd rfl) rfl rfl ?_
              refine g_ireturn (gd rfl) rfl (nb01 (in_w 0 1 (in_c 0 rfl) rfl)) (hp15 _ _ ?_)
              show GG _ _ _ _ _ _ _ _ [.int (Int32.ofInt 0)] _ _ _
              refine g_if_eq 21 25 (gd rfl) rfl rfl (fun c18 => ?_) (fun c18 => ?_)
              · skip
                refine g_iconst 0 26 (gd rfl) rfl rfl ?_
                refine g_thr (E := am_IA) (y := yX11_allow) 29 (gd rfl) rfl rfl (Or.inl ⟨rfl, rfl, rfl⟩) (by first | exact dq1 hd rfl | exact dq0 hd rfl | exact dq2 hd rfl | exact dq3 hd rfl | omega) (Nat.le_of_ble_eq_true rfl) (Nat.le_of_ble_eq_true rfl) (Nat.le_of_ble_eq_true rfl) (fun c26 => ?_) (fun c26 => ?_)
                · skip
                  exact zn_ne c26 (in_c 0 rfl) rfl
                · skip
                  have n26 : ¬ ((0 ≤ x1.toInt ∧ x1.toInt < (shC s).2.2.2.2.2.2.1) ∧ (0 ≤ x2.toInt ∧ x2.toInt < (shC s).2.2.2.2.2.2.1)) := by first | (rw [shC_n (by rw [← e1x1]; exact c1x5)]; show ¬ ((0 ≤ x1.toInt ∧ x1.toInt < (s.2.2.1 2 1).toInt) ∧ (0 ≤ x2.toInt ∧ x2.toInt < (s.2.2.1 2 1).toInt)); rw [← e_2_1]; exact (have a0 := in_u i7x9; have a1 := in_u i7x9a; have a2 := in_u ro_2_1; have a3 := in_u i1x5; have a4 := in_u i15x9; have oc := oc_231_0; by omega)) | (rw [shC_d (by rw [← e1x1]; exact c1x5)]; show ¬ ((0 ≤ x1.toInt ∧ x1.toInt < (s.2.2.1 32 1).toInt) ∧ (0 ≤ x2.toInt ∧ x2.toInt < (s.2.2.1 32 1).toInt)); rw [← e_32_1]; exact (have a0 := in_u i7x9; have a1 := in_u i7x9a; have a2 := in_u ro_2_1; have a3 := in_u i1x5; have a4 := in_u i15x9; have oc := oc_231_0; by omega))
                  exact (hX _ _ ⟨Or.inl ⟨rfl, n26⟩, s, hI, fr_rf, rfl⟩)
              · skip
                exact zn_ne c18 (in_c 0 rfl) rfl
            · skip
              have i15x9 := r_lt1 0 31 c15x9 i15x1 i7x9a rfl
              refine g_iconst 1 13 (gd rfl) rfl rfl ?_
              refine g_goto 17 (gd rfl) rfl ?_
              refine g_ireturn (gd rfl) rfl (nb01 (in_w 0 1 (in_c 1 rfl) rfl)) (hp15 _ _ ?_)
              show GG _ _ _ _ _ _ _ _ [.int (Int32.ofInt 1)] _ _ _
              refine g_if_eq 21 25 (gd rfl) rfl rfl (fun c18 => ?_) (fun c18 => ?_)
              · skip
                exact zn_eq c18 (in_c 1 rfl) rfl
              · skip
                refine g_iconst 1 22 (gd rfl) rfl rfl ?_
                refine g_goto 26 (gd rfl) rfl ?_
                refine g_thr (E := am_IA) (y := yX11_allow) 29 (gd rfl) rfl rfl (Or.inl ⟨rfl, rfl, rfl⟩) (by first | exact dq1 hd rfl | exact dq0 hd rfl | exact dq2 hd rfl | exact dq3 hd rfl | omega) (Nat.le_of_ble_eq_true rfl) (Nat.le_of_ble_eq_true rfl) (Nat.le_of_ble_eq_true rfl) (fun c26 => ?_) (fun c26 => ?_)
                · skip
                  refine g_aload_n 30 (gd rfl) rfl rfl ?_
                  refine g_getA (q2 := 49) 33 (gd rfl) rfl rfl rfl rfl ?_
                  refine g_aload_n 34 (gd rfl) rfl rfl ?_
                  refine g_iload_n 35 (gd rfl) rfl rfl ?_
                  refine g_iload_n 36 (gd rfl) rfl rfl ?_
                  have p36 : TQD s := by first | exact q_0 | exact q_1
                  have p36a : NDQ (gvD s) := by first | (rw [← shC_n (by rw [← e1x1]; exact c1x5)]; exact q_2) | (rw [← shC_d (by rw [← e1x1]; exact c1x5)]; exact q_2)
                  have p36b : (x2).toInt < (s.2.2.1 32 1).toInt := by first | (rw [← e_2_1]; exact (have a0 := in_u i15x9; have a1 := in_u i7x9; have a2 := in_u i7x9a; have a3 := in_u ro_2_1; have a4 := in_u i1x5; have oc := oc_231_0; by omega)) | (rw [← e_32_1]; exact (have a0 := in_u i15x9; have a1 := in_u i7x9; have a2 := in_u i7x9a; have a3 := in_u ro_2_1; have a4 := in_u i1x5; have oc := oc_231_0; by omega))
                  refine g_callv (X := _) (As := [.ref (A 32), .int x1, .int x2]) (r := []) (b := A 49) (q := 49) 39 (gd rfl) rfl rfl rfl rfl rfl (ww_o rfl) (Nat.le_of_ble_eq_true rfl) (Nat.zero_le _) (Nat.zero_le _) (f_200_49_32 (by first | exact dq1 hd rfl | exact dq0 hd rfl | exact dq2 hd rfl | exact dq3 hd rfl | omega) hI (in_w 0 31 i7x9 rfl) (in_w 0 31 i15x9 rfl) p36 p36a p36b) (fun e u h => h) (fun v u h => ?_)
                  obtain ⟨s36, hI36, hF36, z36, rfl, rfl, i36, p36c⟩ := h
                  show GG _ _ _ _ _ _ _ _ [.int z36] _ _ _
                  have n39 : ((0 ≤ x1.toInt ∧ x1.toInt < (shC s).2.2.2.2.2.2.1) ∧ (0 ≤ x2.toInt ∧ x2.toInt < (shC s).2.2.2.2.2.2.1)) ∧ WDS (shC s) x1.toNatClampNeg x2.toNatClampNeg (z36).toInt := by first | (rw [shC_n (by rw [← e1x1]; exact c1x5)]; exact ⟨⟨⟨by exact (have a0 := in_u i15x9; have a1 := in_u i7x9; have a2 := in_u i7x9a; have a3 := in_u ro_2_1; have a4 := in_u i1x5; have oc := oc_231_0; by omega), by show x1.toInt < (s.2.2.1 2 1).toInt; rw [← e_2_1]; exact (have a0 := in_u i15x9; have a1 := in_u i7x9; have a2 := in_u i7x9a; have a3 := in_u ro_2_1; have a4 := in_u i1x5; have oc := oc_231_0; by omega)⟩, ⟨by exact (have a0 := in_u i15x9; have a1 := in_u i7x9; have a2 := in_u i7x9a; have a3 := in_u ro_2_1; have a4 := in_u i1x5; have oc := oc_231_0; by omega), by show x2.toInt < (s.2.2.1 2 1).toInt; rw [← e_2_1]; exact (have a0 := in_u i15x9; have a1 := in_u i7x9; have a2 := in_u i7x9a; have a3 := in_u ro_2_1; have a4 := in_u i1x5; have oc := oc_231_0; by omega)⟩⟩, p36c⟩) | (rw [shC_d (by rw [← e1x1]; exact c1x5)]; exact ⟨⟨⟨by exact (have a0 := in_u i15x9; have a1 := in_u i7x9; have a2 := in_u i7x9a; have a3 := in_u ro_2_1; have a4 := in_u i1x5; have oc := oc_231_0; by omega), by show x1.toInt < (s.2.2.1 32 1).toInt; rw [← e_32_1]; exact (have a0 := in_u i15x9; have a1 := in_u i7x9; have a2 := in_u i7x9a; have a3 := in_u ro_2_1; have a4 := in_u i1x5; have oc := oc_231_0; by omega)⟩, ⟨by exact (have a0 := in_u i15x9; have a1 := in_u i7x9; have a2 := in_u i7x9a; have a3 := in_u ro_2_1; have a4 := in_u i1x5; have oc := oc_231_0; by omega), by show x2.toInt < (s.2.2.1 32 1).toInt; rw [← e_32_1]; exact (have a0 := in_u i15x9; have a1 := in_u i7x9; have a2 := in_u i7x9a; have a3 := in_u ro_2_1; have a4 := in_u i1x5; have oc := oc_231_0; by omega)⟩⟩, p36c⟩)
                  exact g_ireturn (gd rfl) rfl rfl (hP _ _ ⟨s36, hI36, (fr_tr rfl fr_rf hF36), z36, rfl, rfl, in_w (-1) 1000001 i36 rfl, n39⟩)
                · skip
                  exact zn_eq c26 (in_c 1 rfl) rfl
  · skip
    have i1x5 := r_eq1 (-1) (-1) c1x5 ro_0_2 (in_c (-1) rfl) rfl
    refine g_aload_n 9 (gd rfl) rfl rfl ?_
    refine g_getA (q2 := 1) 12 (gd rfl) rfl rfl rfl rfl ?_
    refine g_getA (q2 := 2) 15 (gd rfl) rfl rfl rfl rfl ?_
    refine g_goto 22 (gd rfl) rfl ?_
    refine g_areturn (gd rfl) rfl (hp1 _ _ ?_)
    show GG _ _ _ _ _ _ _ _ [.ref (A 2)] _ _ _
    refine g_astore_n 5 (gd rfl) rfl (Nat.le_of_ble_eq_true rfl) ?_
    refine g_aload_n 6 (gd rfl) rfl rfl ?_
    refine g_iload_n 7 (gd rfl) rfl rfl ?_
    refine g_callv (X := _) (As := [.int x1]) (r := []) (b := A 2) (q := 2) 10 (gd rfl) rfl rfl rfl rfl rfl (ww_o rfl) (Nat.le_of_ble_eq_true rfl) (mc := 0) (ms := 0) (Nat.zero_le _) (Nat.zero_le _) (P := fun v u => _) ?_ (fun e u h => h) (fun v u h => h)
    intro po7 xx7 hp7 hx7
    refine g_enter2 (k := 94) (N := 300) (by first | exact dq1 hd rfl | exact dq0 hd rfl | exact dq2 hd rfl | exact dq3 hd rfl | omega) rfl (Nat.le_of_ble_eq_true rfl) ?_
    refine g_iload_n 1 (gd rfl) rfl rfl ?_
    refine g_if_lt 4 16 (gd rfl) rfl rfl (fun c7x1 => ?_) (fun c7x1 => ?_)
    · skip
      have i7x1 := z_lt (-2147483648) (-1) c7x1 (i_rng x1) rfl
      refine g_iconst 0 17 (gd rfl) rfl rfl ?_
      refine g_ireturn (gd rfl) rfl (nb01 (in_w 0 1 (in_c 0 rfl) rfl)) (hp7 _ _ ?_)
      show GG _ _ _ _ _ _ _ _ [.int (Int32.ofInt 0)] _ _ _
      refine g_if_eq 13 25 (gd rfl) rfl rfl (fun c10 => ?_) (fun c10 => ?_)
      · skip
        refine g_iconst 0 26 (gd rfl) rfl rfl ?_
        refine g_thr (E := am_IA) (y := yX11_allow) 29 (gd rfl) rfl rfl (Or.inl ⟨rfl, rfl, rfl⟩) (by first | exact dq1 hd rfl | exact dq0 hd rfl | exact dq2 hd rfl | exact dq3 hd rfl | omega) (Nat.le_of_ble_eq_true rfl) (Nat.le_of_ble_eq_true rfl) (Nat.le_of_ble_eq_true rfl) (fun c26 => ?_) (fun c26 => ?_)
        · skip
          exact zn_ne c26 (in_c 0 rfl) rfl
        · skip
          have n26 : ¬ ((0 ≤ x1.toInt ∧ x1.toInt < (shC s).2.2.2.2.2.2.1) ∧ (0 ≤ x2.toInt ∧ x2.toInt < (shC s).2.2.2.2.2.2.1)) := by first | (rw [shC_n (by rw [← e1x1]; exact c1x5)]; show ¬ ((0 ≤ x1.toInt ∧ x1.toInt < (s.2.2.1 2 1).toInt) ∧ (0 ≤ x2.toInt ∧ x2.toInt < (s.2.2.1 2 1).toInt)); rw [← e_2_1]; exact (have a0 := in_u ro_32_1; have a1 := in_u ro_2_1; have a2 := in_u i1x5; have a3 := in_u i7x1; have oc := oc_231_0; by omega)) | (rw [shC_d (by rw [← e1x1]; exact c1x5)]; show ¬ ((0 ≤ x1.toInt ∧ x1.toInt < (s.2.2.1 32 1).toInt) ∧ (0 ≤ x2.toInt ∧ x2.toInt < (s.2.2.1 32 1).toInt)); rw [← e_32_1]; exact (have a0 := in_u ro_32_1; have a1 := in_u ro_2_1; have a2 := in_u i1x5; have a3 := in_u i7x1; have oc := oc_231_0; by omega))
          exact (hX _ _ ⟨Or.inl ⟨rfl, n26⟩, s, hI, fr_rf, rfl⟩)
      · skip
        exact zn_ne c10 (in_c 0 rfl) rfl
    · skip
      have i7x1 := z_ge 0 2147483647 c7x1 (i_rng x1) rfl
      refine g_iload_n 5 (gd rfl) rfl rfl ?_
      refine g_aload_n 6 (gd rfl) rfl rfl ?_
      refine g_getI 9 (gd rfl) rfl rfl rfl (fun z7x6 e7x6 => ?_)
      have q7x6 : u_2_1 = z7x6 := (e_2_1).trans e7x6.symm
      subst q7x6
      refine g_cmp_ge 12 16 (gd rfl) rfl rfl (fun c7x9 => ?_) (fun c7x9 => ?_)
      · skip
        refine g_iconst 0 17 (gd rfl) rfl rfl ?_
        refine g_ireturn (gd rfl) rfl (nb01 (in_w 0 1 (in_c 0 rfl) rfl)) (hp7 _ _ ?_)
        show GG _ _ _ _ _ _ _ _ [.int (Int32.ofInt 0)] _ _ _
        refine g_if_eq 13 25 (gd rfl) rfl rfl (fun c10 => ?_) (fun c10 => ?_)
        · skip
          refine g_iconst 0 26 (gd rfl) rfl rfl ?_
          refine g_thr (E := am_IA) (y := yX11_allow) 29 (gd rfl) rfl rfl (Or.inl ⟨rfl, rfl, rfl⟩) (by first | exact dq1 hd rfl | exact dq0 hd rfl | exact dq2 hd rfl | exact dq3 hd rfl | omega) (Nat.le_of_ble_eq_true rfl) (Nat.le_of_ble_eq_true rfl) (Nat.le_of_ble_eq_true rfl) (fun c26 => ?_) (fun c26 => ?_)
          · skip
            exact zn_ne c26 (in_c 0 rfl) rfl
          · skip
            have n26 : ¬ ((0 ≤ x1.toInt ∧ x1.toInt < (shC s).2.2.2.2.2.2.1) ∧ (0 ≤ x2.toInt ∧ x2.toInt < (shC s).2.2.2.2.2.2.1)) := by first | (rw [shC_n (by rw [← e1x1]; exact c1x5)]; show ¬ ((0 ≤ x1.toInt ∧ x1.toInt < (s.2.2.1 2 1).toInt) ∧ (0 ≤ x2.toInt ∧ x2.toInt < (s.2.2.1 2 1).toInt)); rw [← e_2_1]; exact (have a0 := in_u ro_32_1; have a1 := in_u ro_2_1; have a2 := in_u i1x5; have a3 := in_u i7x1; have oc := oc_231_0; by omega)) | (rw [shC_d (by rw [← e1x1]; exact c1x5)]; show ¬ ((0 ≤ x1.toInt ∧ x1.toInt < (s.2.2.1 32 1).toInt) ∧ (0 ≤ x2.toInt ∧ x2.toInt < (s.2.2.1 32 1).toInt)); rw [← e_32_1]; exact (have a0 := in_u ro_32_1; have a1 := in_u ro_2_1; have a2 := in_u i1x5; have a3 := in_u i7x1; have oc := oc_231_0; by omega))
            exact (hX _ _ ⟨Or.inl ⟨rfl, n26⟩, s, hI, fr_rf, rfl⟩)
        · skip
          exact zn_ne c10 (in_c 0 rfl) rfl
      · skip
        have i7x9 := r_lt1 0 31 c7x9 i7x1 ro_2_1 rfl
        have i7x9a := r_lt2 1 32 c7x9 i7x1 ro_2_1 rfl
        refine g_iconst 1 13 (gd rfl) rfl rfl ?_
        refine g_goto 17 (gd rfl) rfl ?_
        refine g_ireturn (gd rfl) rfl (nb01 (in_w 0 1 (in_c 1 rfl) rfl)) (hp7 _ _ ?_)
        show GG _ _ _ _ _ _ _ _ [.int (Int32.ofInt 1)] _ _ _
        refine g_if_eq 13 25 (gd rfl) rfl rfl (fun c10 => ?_) (fun c10 => ?_)
        · skip
          exact zn_eq c10 (in_c 1 rfl) rfl
        · skip
          refine g_aload_n 14 (gd rfl) rfl rfl ?_
          refine g_iload_n 15 (gd rfl) rfl rfl ?_
          refine g_callv (X := _) (As := [.int x2]) (r := []) (b := A 2) (q := 2) 18 (gd rfl) rfl rfl rfl rfl rfl (ww_o rfl) (Nat.le_of_ble_eq_true rfl) (mc := 0) (ms := 0) (Nat.zero_le _) (Nat.zero_le _) (P := fun v u => _) ?_ (fun e u h => h) (fun v u h => h)
          intro po15 xx15 hp15 hx15
          refine g_enter2 (k := 94) (N := 300) (by first | exact dq1 hd rfl | exact dq0 hd rfl | exact dq2 hd rfl | exact dq3 hd rfl | omega) rfl (Nat.le_of_ble_eq_true rfl) ?_
          refine g_iload_n 1 (gd rfl) rfl rfl ?_
          refine g_if_lt 4 16 (gd rfl) rfl rfl (fun c15x1 => ?_) (fun c15x1 => ?_)
          · skip
            have i15x1 := z_lt (-2147483648) (-1) c15x1 (i_rng x2) rfl
            refine g_iconst 0 17 (gd rfl) rfl rfl ?_
            refine g_ireturn (gd rfl) rfl (nb01 (in_w 0 1 (in_c 0 rfl) rfl)) (hp15 _ _ ?_)
            show GG _ _ _ _ _ _ _ _ [.int (Int32.ofInt 0)] _ _ _
            refine g_if_eq 21 25 (gd rfl) rfl rfl (fun c18 => ?_) (fun c18 => ?_)
            · skip
              refine g_iconst 0 26 (gd rfl) rfl rfl ?_
              refine g_thr (E := am_IA) (y := yX11_allow) 29 (gd rfl) rfl rfl (Or.inl ⟨rfl, rfl, rfl⟩) (by first | exact dq1 hd rfl | exact dq0 hd rfl | exact dq2 hd rfl | exact dq3 hd rfl | omega) (Nat.le_of_ble_eq_true rfl) (Nat.le_of_ble_eq_true rfl) (Nat.le_of_ble_eq_true rfl) (fun c26 => ?_) (fun c26 => ?_)
              · skip
                exact zn_ne c26 (in_c 0 rfl) rfl
              · skip
                have n26 : ¬ ((0 ≤ x1.toInt ∧ x1.toInt < (shC s).2.2.2.2.2.2.1) ∧ (0 ≤ x2.toInt ∧ x2.toInt < (shC s).2.2.2.2.2.2.1)) := by first | (rw [shC_n (by rw [← e1x1]; exact c1x5)]; show ¬ ((0 ≤ x1.toInt ∧ x1.toInt < (s.2.2.1 2 1).toInt) ∧ (0 ≤ x2.toInt ∧ x2.toInt < (s.2.2.1 2 1).toInt)); rw [← e_2_1]; exact (have a0 := in_u i7x9; have a1 := in_u ro_32_1; have a2 := in_u i7x9a; have a3 := in_u i1x5; have a4 := in_u i15x1; have oc := oc_231_0; by omega)) | (rw [shC_d (by rw [← e1x1]; exact c1x5)]; show ¬ ((0 ≤ x1.toInt ∧ x1.toInt < (s.2.2.1 32 1).toInt) ∧ (0 ≤ x2.toInt ∧ x2.toInt < (s.2.2.1 32 1).toInt)); rw [← e_32_1]; exact (have a0 := in_u i7x9; have a1 := in_u ro_32_1; have a2 := in_u i7x9a; have a3 := in_u i1x5; have a4 := in_u i15x1; have oc := oc_231_0; by omega))
                exact (hX _ _ ⟨Or.inl ⟨rfl, n26⟩, s, hI, fr_rf, rfl⟩)
            · skip
              exact zn_ne c18 (in_c 0 rfl) rfl
          · skip
            have i15x1 := z_ge 0 2147483647 c15x1 (i_rng x2) rfl
            refine g_iload_n 5 (gd rfl) rfl rfl ?_
            refine g_aload_n 6 (gd rfl) rfl rfl ?_
            refine g_getI 9 (gd rfl) rfl rfl rfl (fun z15x6 e15x6 => ?_)
            have q15x6 : u_2_1 = z15x6 := (e_2_1).trans e15x6.symm
            subst q15x6
            refine g_cmp_ge 12 16 (gd rfl) rfl rfl (fun c15x9 => ?_) (fun c15x9 => ?_)
            · skip
              have i15x9 := r_le2 1 2147483647 c15x9 i7x9a i15x1 rfl
              refine g_iconst 0 17 (gd rfl) rfl rfl ?_
              refine g_ireturn (gd rfl) rfl (nb01 (in_w 0 1 (in_c 0 rfl) rfl)) (hp15 _ _ ?_)
              show GG _ _ _ _ _ _ _ _ [.int (Int32.ofInt 0)] _ _ _
              refine g_if_eq 21 25 (gd rfl) rfl rfl (fun c18 => ?_) (fun c18 => ?_)
              · skip
                refine g_iconst 0 26 (gd rfl) rfl rfl ?_
                refine g_thr (E := am_IA) (y := yX11_allow) 29 (gd rfl) rfl rfl (Or.inl ⟨rfl, rfl, rfl⟩) (by first | exact dq1 hd rfl | exact dq0 hd rfl | exact dq2 hd rfl | exact dq3 hd rfl | omega) (Nat.le_of_ble_eq_true rfl) (Nat.le_of_ble_eq_true rfl) (Nat.le_of_ble_eq_true rfl) (fun c26 => ?_) (fun c26 => ?_)
                · skip
                  exact zn_ne c26 (in_c 0 rfl) rfl
                · skip
                  have n26 : ¬ ((0 ≤ x1.toInt ∧ x1.toInt < (shC s).2.2.2.2.2.2.1) ∧ (0 ≤ x2.toInt ∧ x2.toInt < (shC s).2.2.2.2.2.2.1)) := by first | (rw [shC_n (by rw [← e1x1]; exact c1x5)]; show ¬ ((0 ≤ x1.toInt ∧ x1.toInt < (s.2.2.1 2 1).toInt) ∧ (0 ≤ x2.toInt ∧ x2.toInt < (s.2.2.1 2 1).toInt)); rw [← e_2_1]; exact (have a0 := in_u i7x9; have a1 := in_u ro_32_1; have a2 := in_u i7x9a; have a3 := in_u i1x5; have a4 := in_u i15x9; have oc := oc_231_0; by omega)) | (rw [shC_d (by rw [← e1x1]; exact c1x5)]; show ¬ ((0 ≤ x1.toInt ∧ x1.toInt < (s.2.2.1 32 1).toInt) ∧ (0 ≤ x2.toInt ∧ x2.toInt < (s.2.2.1 32 1).toInt)); rw [← e_32_1]; exact (have a0 := in_u i7x9; have a1 := in_u ro_32_1; have a2 := in_u i7x9a; have a3 := in_u i1x5; have a4 := in_u i15x9; have oc := oc_231_0; by omega))
                  exact (hX _ _ ⟨Or.inl ⟨rfl, n26⟩, s, hI, fr_rf, rfl⟩)
              · skip
                exact zn_ne c18 (in_c 0 rfl) rfl
            · skip
              have i15x9 := r_lt1 0 31 c15x9 i15x1 i7x9a rfl
              refine g_iconst 1 13 (gd rfl) rfl rfl ?_
              refine g_goto 17 (gd rfl) rfl ?_
              refine g_ireturn (gd rfl) rfl (nb01 (in_w 0 1 (in_c 1 rfl) rfl)) (hp15 _ _ ?_)
              show GG _ _ _ _ _ _ _ _ [.int (Int32.ofInt 1)] _ _ _
              refine g_if_eq 21 25 (gd rfl) rfl rfl (fun c18 => ?_) (fun c18 => ?_)
              · skip
                exact zn_eq c18 (in_c 1 rfl) rfl
              · skip
                refine g_iconst 1 22 (gd rfl) rfl rfl ?_
                refine g_goto 26 (gd rfl) rfl ?_
                refine g_thr (E := am_IA) (y := yX11_allow) 29 (gd rfl) rfl rfl (Or.inl ⟨rfl, rfl, rfl⟩) (by first | exact dq1 hd rfl | exact dq0 hd rfl | exact dq2 hd rfl | exact dq3 hd rfl | omega) (Nat.le_of_ble_eq_true rfl) (Nat.le_of_ble_eq_true rfl) (Nat.le_of_ble_eq_true rfl) (fun c26 => ?_) (fun c26 => ?_)
                · skip
                  refine g_aload_n 30 (gd rfl) rfl rfl ?_
                  refine g_getA (q2 := 49) 33 (gd rfl) rfl rfl rfl rfl ?_
                  refine g_aload_n 34 (gd rfl) rfl rfl ?_
                  refine g_iload_n 35 (gd rfl) rfl rfl ?_
                  refine g_iload_n 36 (gd rfl) rfl rfl ?_
                  have p36 : TQ s := by first | exact q_0 | exact q_1
                  have p36a : NDQ (gvC s) := by first | (rw [← shC_n (by rw [← e1x1]; exact c1x5)]; exact q_2) | (rw [← shC_d (by rw [← e1x1]; exact c1x5)]; exact q_2)
                  have p36b : (x2).toInt < (s.2.2.1 2 1).toInt := by first | (rw [← e_2_1]; exact (have a0 := in_u i15x9; have a1 := in_u i7x9; have a2 := in_u ro_32_1; have a3 := in_u i7x9a; have a4 := in_u i1x5; have oc := oc_231_0; by omega)) | (rw [← e_32_1]; exact (have a0 := in_u i15x9; have a1 := in_u i7x9; have a2 := in_u ro_32_1; have a3 := in_u i7x9a; have a4 := in_u i1x5; have oc := oc_231_0; by omega))
                  refine g_callv (X := _) (As := [.ref (A 2), .int x1, .int x2]) (r := []) (b := A 49) (q := 49) 39 (gd rfl) rfl rfl rfl rfl rfl (ww_o rfl) (Nat.le_of_ble_eq_true rfl) (Nat.zero_le _) (Nat.zero_le _) (f_200_49_2 (by first | exact dq1 hd rfl | exact dq0 hd rfl | exact dq2 hd rfl | exact dq3 hd rfl | omega) hI (in_w 0 31 i7x9 rfl) (in_w 0 31 i15x9 rfl) p36 p36a p36b) (fun e u h => h) (fun v u h => ?_)
                  obtain ⟨s36, hI36, hF36, z36, rfl, rfl, i36, p36c⟩ := h
                  show GG _ _ _ _ _ _ _ _ [.int z36] _ _ _
                  have n39 : ((0 ≤ x1.toInt ∧ x1.toInt < (shC s).2.2.2.2.2.2.1) ∧ (0 ≤ x2.toInt ∧ x2.toInt < (shC s).2.2.2.2.2.2.1)) ∧ WDS (shC s) x1.toNatClampNeg x2.toNatClampNeg (z36).toInt := by first | (rw [shC_n (by rw [← e1x1]; exact c1x5)]; exact ⟨⟨⟨by exact (have a0 := in_u i15x9; have a1 := in_u i7x9; have a2 := in_u ro_32_1; have a3 := in_u i7x9a; have a4 := in_u i1x5; have oc := oc_231_0; by omega), by show x1.toInt < (s.2.2.1 2 1).toInt; rw [← e_2_1]; exact (have a0 := in_u i15x9; have a1 := in_u i7x9; have a2 := in_u ro_32_1; have a3 := in_u i7x9a; have a4 := in_u i1x5; have oc := oc_231_0; by omega)⟩, ⟨by exact (have a0 := in_u i15x9; have a1 := in_u i7x9; have a2 := in_u ro_32_1; have a3 := in_u i7x9a; have a4 := in_u i1x5; have oc := oc_231_0; by omega), by show x2.toInt < (s.2.2.1 2 1).toInt; rw [← e_2_1]; exact (have a0 := in_u i15x9; have a1 := in_u i7x9; have a2 := in_u ro_32_1; have a3 := in_u i7x9a; have a4 := in_u i1x5; have oc := oc_231_0; by omega)⟩⟩, p36c⟩) | (rw [shC_d (by rw [← e1x1]; exact c1x5)]; exact ⟨⟨⟨by exact (have a0 := in_u i15x9; have a1 := in_u i7x9; have a2 := in_u ro_32_1; have a3 := in_u i7x9a; have a4 := in_u i1x5; have oc := oc_231_0; by omega), by show x1.toInt < (s.2.2.1 32 1).toInt; rw [← e_32_1]; exact (have a0 := in_u i15x9; have a1 := in_u i7x9; have a2 := in_u ro_32_1; have a3 := in_u i7x9a; have a4 := in_u i1x5; have oc := oc_231_0; by omega)⟩, ⟨by exact (have a0 := in_u i15x9; have a1 := in_u i7x9; have a2 := in_u ro_32_1; have a3 := in_u i7x9a; have a4 := in_u i1x5; have oc := oc_231_0; by omega), by show x2.toInt < (s.2.2.1 32 1).toInt; rw [← e_32_1]; exact (have a0 := in_u i15x9; have a1 := in_u i7x9; have a2 := in_u ro_32_1; have a3 := in_u i7x9a; have a4 := in_u i1x5; have oc := oc_231_0; by omega)⟩⟩, p36c⟩)
                  exact g_ireturn (gd rfl) rfl rfl (hP _ _ ⟨s36, hI36, (fr_tr rfl fr_rf hF36), z36, rfl, rfl, in_w (-1) 1000001 i36 rfl, n39⟩)
                · skip
                  exact zn_eq c26 (in_c 1 rfl) rfl

theorem oc_317_109 : (Int32.ofInt (-1)).toInt = (-1) ∧ (Int32.ofInt 0).toInt = 0 ∧ (Int32.ofInt 1).toInt = 1 ∧ (Int32.ofInt 160).toInt = 160 ∧ (Int32.ofInt 1000001).toInt = 1000001 := ⟨rfl, rfl, rfl, rfl, rfl⟩
set_option maxHeartbeats 4000000 in
/-- GraphHouseModel.width -/
theorem f_317 {Z : AmZ} {A : Nat → Nat} {s : GS} {ex : va_W} {d : Nat} {X : AmX} {x1 : Int32} {x2 : Int32} (hd : 4 ≤ d) (hI : Inv s)  : GC Z d 317 [.ref (A 109), .int x1, .int x2] (WW Z A s ++ ex) 0 0 (fun v u => ∃ t : GS, Inv t ∧ Fr fm_317 s t ∧ ∃ z : Int32, v = some (.int z) ∧ u = WW Z A t ++ ex ∧ In z (-2147483648) 2147483647 ∧ (WIR s t x1 x2 z)) X := by
  intro post xp hP hX
  obtain ⟨u_109_19, e_109_19⟩ : ∃ w, w = s.2.2.1 109 19 := ⟨_, rfl⟩
  have ro_109_19 := inv_F hI 0 160 rfl e_109_19
  obtain ⟨u_109_20, e_109_20⟩ : ∃ w, w = s.2.2.1 109 20 := ⟨_, rfl⟩
  have ro_109_20 := inv_F hI 0 32 rfl e_109_20
  have ct66 : ∀ (k66 : Nat) (sc66 : GS) (y66_3 : Int32), Inv sc66 → Fr fm_317 s sc66 → (In x1 0 31) → (In x2 0 31) → (In y66_3 0 32) → ((y66_3).toInt ≤ (u_109_20).toInt) → (WDV (gvZ s) (x1).toNatClampNeg (s.2.2.1 109 20).toInt.toNat (y66_3).toNatClampNeg ((sc66).1 133)) → (((sc66).2.2.1 109 0).toInt = 0) → (((x1).toInt < (s.2.2.1 109 20).toInt ∧ (x2).toInt < (s.2.2.1 109 20).toInt)) → 32 - (y66_3).toInt < (k66 : Int) → GG Z (d - 1) 317 post (gx xp) (1 + k66 * 363601) 66 (fun j => xlook j [(0, .ref (A 109)), (1, .int x1), (2, .int x2), (3, .int y66_3)]) [] (WW Z A sc66 ++ ex) 0 0 := by
    intro k66
    induction k66 with
    | zero => intro sc66 y66_3 hIc66 hFc66 j66_1 j66_2 j66_3 n66_0 g66_0 g66_1 g66_2 mm66; exact m_no mm66 j66_3 rfl
    | succ k66 ih66 =>
      intro sc66 y66_3 hIc66 hFc66 j66_1 j66_2 j66_3 n66_0 g66_0 g66_1 g66_2 mm66
      refine gg_w (M := 1 + k66 * 363601 + 363601) gws ?_
      have ct80 : ∀ (k80 : Nat) (sc80 : GS) (y80_4 : Int32), Inv sc80 → Fr fm_317 s sc80 → (In y66_3 0 31) → (In y80_4 0 400) → ((u_109_19).toInt ≤ (y80_4).toInt) → ((y80_4).toInt ≤ (u_109_19).toInt + 160) → ((y66_3).toInt < (u_109_20).toInt) → (WDW (gvZ s) (x1).toNatClampNeg (s.2.2.1 109 20).toInt.toNat (y66_3).toNatClampNeg ((y80_4).toInt - (u_109_19).toInt).toNat ((sc80).1 133)) → (((sc80).2.2.1 109 0).toInt = 0) → 400 - (y80_4).toInt < (k80 : Int) → GG Z (d - 1) 317 post (gx xp) (1 + k66 * 363601 + 1 + k80 * 900) 80 (fun j => xlook j [(0, .ref (A 109)), (1, .int x1), (2, .int x2), (3, .int y66_3), (4, .int y80_4)]) [] (WW Z A sc80 ++ ex) 0 0 := by
        intro k80
        induction k80 with
        | zero => intro sc80 y80_4 hIc80 hFc80 j80_3 j80_4 n80_0 n80_1 n80_2 g80_0 g80_1 mm80; exact m_no mm80 j80_4 rfl
        | succ k80 ih80 =>
          intro sc80 y80_4 hIc80 hFc80 j80_3 j80_4 n80_0 n80_1 n80_2 g80_0 g80_1 mm80
          refine gg_w (M := 1 + k66 * 363601 + 1 + k80 * 900 + 900) gws ?_
          refine g_iload 82 (gd rfl) rfl rfl ?_
          refine g_aload_n 83 (gd rfl) rfl rfl ?_
          refine g_getI 86 (gd rfl) rfl rfl rfl (fun z83 e83 => ?_)
          have q83 : u_109_19 = z83 := (fr_F e_109_19 hFc80 rfl).trans e83.symm
          subst q83
          refine g_sipush 160 89 (gd rfl) rfl rfl ?_
          refine g_iadd 90 (gd rfl) rfl (fun z89 e89 => ?_)
          have i89 := in_add 160 320 e89 ro_109_19 (in_c 160 rfl) rfl rfl
          refine g_cmp_ge 93 216 (gd rfl) rfl rfl (fun c90 => ?_) (fun c90 => ?_)
          · skip
            have i90 := r_le2 160 400 c90 i89 j80_4 rfl
            refine g_iinc 219 (gd rfl) rfl rfl (Nat.le_of_ble_eq_true rfl) (fun z216 e216 => ?_)
            have i216 := in_add 1 32 e216 j80_3 (in_c 1 rfl) rfl rfl
            refine g_goto 66 (gd rfl) rfl ?_
            have n66 : (z216).toInt ≤ (u_109_20).toInt := by exact (have a0 := in_u j80_3; have a1 := in_u j66_2; have a2 := in_u j66_1; have a3 := in_u ro_109_20; have a4 := in_u ro_109_19; have a5 := in_u i90; have a6 := in_u i216; have a7 := t_add e216 j80_3 (in_c 1 rfl) rfl; have a8 := in_u ((in_c 1 rfl)); have a9 := in_u i89; have a10 := t_add e89 ro_109_19 (in_c 160 rfl) rfl; have a11 := in_u ((in_c 160 rfl)); have oc := oc_317_109; by omega)
            have n66a : WDV (gvZ s) (x1).toNatClampNeg (s.2.2.1 109 20).toInt.toNat (z216).toNatClampNeg ((sc80).1 133) := by have h9 := g80_0; rw [show ((y80_4).toInt - (u_109_19).toInt).toNat = 160 from (by exact (have a0 := in_u j80_3; have a1 := in_u j66_2; have a2 := in_u j66_1; have a3 := in_u ro_109_20; have a4 := in_u ro_109_19; have a5 := in_u i90; have a6 := in_u i216; have a7 := t_add e216 j80_3 (in_c 1 rfl) rfl; have a8 := in_u ((in_c 1 rfl)); have a9 := in_u i89; have a10 := t_add e89 ro_109_19 (in_c 160 rfl) rfl; have a11 := in_u ((in_c 160 rfl)); have oc := oc_317_109; by omega))] at h9; rw [show (z216).toNatClampNeg = (y66_3).toNatClampNeg + 1 from (by show (z216).toInt.toNat = (y66_3).toInt.toNat + 1; exact (have a0 := in_u j80_3; have a1 := in_u j66_2; have a2 := in_u j66_1; have a3 := in_u ro_109_20; have a4 := in_u ro_109_19; have a5 := in_u i90; have a6 := in_u i216; have a7 := t_add e216 j80_3 (in_c 1 rfl) rfl; have a8 := in_u ((in_c 1 rfl)); have a9 := in_u i89; have a10 := t_add e89 ro_109_19 (in_c 160 rfl) rfl; have a11 := in_u ((in_c 160 rfl)); have oc := oc_317_109; by omega))]; exact wdw_e h9 (arz_e hI)
            have n66b : ((sc80).2.2.1 109 0).toInt = 0 := by exact g80_1
            have n66c : ((x1).toInt < (s.2.2.1 109 20).toInt ∧ (x2).toInt < (s.2.2.1 109 20).toInt) := by exact g66_2
            exact gg_w (by first | exact Nat.le_add_right _ _ | exact gw2 | exact gw3 | exact gwe rfl | exact gwf rfl | exact gwg rfl | exact gwh rfl | omega) (gg_f (gf_cons rfl (gf_cons rfl (gf_cons rfl (gf_cons rfl gf_nil)))) (ih66 sc80 z216 hIc80 hFc80 (in_w 0 31 j66_1 rfl) (in_w 0 31 j66_2 rfl) (in_w 0 32 i216 rfl) n66 n66a n66b n66c (m_up mm66 (t_add e216 j80_3 (in_c 1 rfl) rfl) (in_w 1 1 (in_c 1 rfl) rfl))))
          · skip
            have i90 := r_lt1 0 319 c90 j80_4 i89 rfl
            refine g_aload_n 94 (gd rfl) rfl rfl ?_
            refine g_getA (q2 := 112) 97 (gd rfl) rfl rfl rfl rfl ?_
            refine g_iload 99 (gd rfl) rfl rfl ?_
            refine g_baload 100 (gd rfl) rfl (n := 480) rfl (in_ix i90 rfl) (fun z99 e99 => ?_)
            have i99 := inv_I hIc80 (n := 480) (t := 3) 0 1 rfl (in_ix i90 rfl) rfl e99
            refine g_if_eq 103 210 (gd rfl) rfl rfl (fun c100 => ?_) (fun c100 => ?_)
            · skip
              have i100 := z_eq 0 0 c100 i99 rfl
              refine g_iinc 213 (gd rfl) rfl rfl (Nat.le_of_ble_eq_true rfl) (fun z210 e210 => ?_)
              have i210 := in_add 1 320 e210 i90 (in_c 1 rfl) rfl rfl
              refine g_goto 80 (gd rfl) rfl ?_
              have n80 : (u_109_19).toInt ≤ (z210).toInt := by exact (have a0 := in_u j80_3; have a1 := in_u j66_2; have a2 := in_u j66_1; have a3 := in_u ro_109_20; have a4 := in_u ro_109_19; have a5 := in_u i90; have a6 := in_u i210; have a7 := t_add e210 i90 (in_c 1 rfl) rfl; have a8 := in_u ((in_c 1 rfl)); have a9 := in_u i89; have a10 := t_add e89 ro_109_19 (in_c 160 rfl) rfl; have a11 := in_u ((in_c 160 rfl)); have oc := oc_317_109; by omega)
              have n80a : (z210).toInt ≤ (u_109_19).toInt + 160 := by exact (have a0 := in_u j80_3; have a1 := in_u j66_2; have a2 := in_u j66_1; have a3 := in_u ro_109_20; have a4 := in_u ro_109_19; have a5 := in_u i90; have a6 := in_u i210; have a7 := t_add e210 i90 (in_c 1 rfl) rfl; have a8 := in_u ((in_c 1 rfl)); have a9 := in_u i89; have a10 := t_add e89 ro_109_19 (in_c 160 rfl) rfl; have a11 := in_u ((in_c 160 rfl)); have oc := oc_317_109; by omega)
              have n80b : (y66_3).toInt < (u_109_20).toInt := by first | exact n80_2 | (exact (have a0 := in_u j80_3; have a1 := in_u j66_2; have a2 := in_u j66_1; have a3 := in_u ro_109_20; have a4 := in_u ro_109_19; have a5 := in_u i90; have a6 := in_u i210; have a7 := t_add e210 i90 (in_c 1 rfl) rfl; have a8 := in_u ((in_c 1 rfl)); have a9 := in_u i89; have a10 := t_add e89 ro_109_19 (in_c 160 rfl) rfl; have a11 := in_u ((in_c 160 rfl)); have oc := oc_317_109; by omega))
              have n80c : WDW (gvZ s) (x1).toNatClampNeg (s.2.2.1 109 20).toInt.toNat (y66_3).toNatClampNeg ((z210).toInt - (u_109_19).toInt).toNat ((sc80).1 133) := by rw [show ((z210).toInt - (u_109_19).toInt).toNat = ((y80_4).toInt - (u_109_19).toInt).toNat + 1 from (by exact (have a0 := in_u j80_3; have a1 := in_u j66_2; have a2 := in_u j66_1; have a3 := in_u ro_109_20; have a4 := in_u ro_109_19; have a5 := in_u i90; have a6 := in_u i210; have a7 := t_add e210 i90 (in_c 1 rfl) rfl; have a8 := in_u ((in_c 1 rfl)); have a9 := in_u i89; have a10 := t_add e89 ro_109_19 (in_c 160 rfl) rfl; have a11 := in_u ((in_c 160 rfl)); have oc := oc_317_109; by omega))]; have hp : bs s + ((y80_4).toInt - (u_109_19).toInt).toNat = y80_4.toNatClampNeg := (by show (s.2.2.1 109 19).toInt.toNat + _ = y80_4.toInt.toNat; rw [← e_109_19]; exact (have a0 := in_u j80_3; have a1 := in_u j66_2; have a2 := in_u j66_1; have a3 := in_u ro_109_20; have a4 := in_u ro_109_19; have a5 := in_u i90; have a6 := in_u i210; have a7 := t_add e210 i90 (in_c 1 rfl) rfl; have a8 := in_u ((in_c 1 rfl)); have a9 := in_u i89; have a10 := t_add e89 ro_109_19 (in_c 160 rfl) rfl; have a11 := in_u ((in_c 160 rfl)); have oc := oc_317_109; by omega)); have ha : ((y80_4).toInt - (u_109_19).toInt).toNat < 160 := (by exact (have a0 := in_u j80_3; have a1 := in_u j66_2; have a2 := in_u j66_1; have a3 := in_u ro_109_20; have a4 := in_u ro_109_19; have a5 := in_u i90; have a6 := in_u i210; have a7 := t_add e210 i90 (in_c 1 rfl) rfl; have a8 := in_u ((in_c 1 rfl)); have a9 := in_u i89; have a10 := t_add e89 ro_109_19 (in_c 160 rfl) rfl; have a11 := in_u ((in_c 160 rfl)); have oc := oc_317_109; by omega)); exact wdw_z hI g80_0 (show z99 = s.1 112 (bs s + ((y80_4).toInt - (u_109_19).toInt).toNat) from (by rw [hp, ← hFc80.1 112 rfl]; exact e99)) (by exact (have a0 := in_u j80_3; have a1 := in_u j66_2; have a2 := in_u j66_1; have a3 := in_u ro_109_20; have a4 := in_u ro_109_19; have a5 := in_u i90; have a6 := in_u i210; have a7 := t_add e210 i90 (in_c 1 rfl) rfl; have a8 := in_u ((in_c 1 rfl)); have a9 := in_u i89; have a10 := t_add e89 ro_109_19 (in_c 160 rfl) rfl; have a11 := in_u ((in_c 160 rfl)); have oc := oc_317_109; by omega))
              have n80d : ((sc80).2.2.1 109 0).toInt = 0 := by exact g80_1
              exact gg_w (by first | exact Nat.le_add_right _ _ | exact gw2 | exact gw3 | exact gwe rfl | exact gwf rfl | exact gwg rfl | exact gwh rfl | omega) (gg_f (gf_cons rfl (gf_cons rfl (gf_cons rfl (gf_cons rfl (gf_cons rfl gf_nil))))) (ih80 sc80 z210 hIc80 hFc80 (in_w 0 31 j80_3 rfl) (in_w 0 400 i210 rfl) n80 n80a n80b n80c n80d (m_up mm80 (t_add e210 i90 (in_c 1 rfl) rfl) (in_w 1 1 (in_c 1 rfl) rfl))))
            · skip
              have i100 := z_ne 1 1 c100 i99 rfl
              refine g_aload_n 104 (gd rfl) rfl rfl ?_
              refine g_getA (q2 := 133) 107 (gd rfl) rfl rfl rfl rfl ?_
              refine g_aload_n 108 (gd rfl) rfl rfl ?_
              refine g_getA (q2 := 113) 111 (gd rfl) rfl rfl rfl rfl ?_
              refine g_iload 113 (gd rfl) rfl rfl ?_
              refine g_iaload 114 (gd rfl) rfl (n := 480) rfl (in_ix i90 rfl) (fun z113 e113 => ?_)
              have i113 := inv_I hIc80 (n := 480) (t := 0) 0 31 rfl (in_ix i90 rfl) rfl e113
              refine g_iaload 115 (gd rfl) rfl (n := 32) rfl (in_ix i113 rfl) (fun z114 e114 => ?_)
              refine g_if_lt 118 210 (gd rfl) rfl rfl (fun c115 => ?_) (fun c115 => ?_)
              · skip
                have i115 := z_lt (-2147483648) (-1) c115 (i_rng z114) rfl
                refine g_iinc 213 (gd rfl) rfl rfl (Nat.le_of_ble_eq_true rfl) (fun z210 e210 => ?_)
                have i210 := in_add 1 320 e210 i90 (in_c 1 rfl) rfl rfl
                refine g_goto 80 (gd rfl) rfl ?_
                have n80 : (u_109_19).toInt ≤ (z210).toInt := by exact (have a0 := in_u j80_3; have a1 := in_u j66_2; have a2 := in_u j66_1; have a3 := in_u ro_109_20; have a4 := in_u ro_109_19; have a5 := in_u i90; have a6 := in_u i210; have a7 := t_add e210 i90 (in_c 1 rfl) rfl; have a8 := in_u ((in_c 1 rfl)); have a9 := in_u i89; have a10 := t_add e89 ro_109_19 (in_c 160 rfl) rfl; have a11 := in_u ((in_c 160 rfl)); have oc := oc_317_109; by omega)
                have n80a : (z210).toInt ≤ (u_109_19).toInt + 160 := by exact (have a0 := in_u j80_3; have a1 := in_u j66_2; have a2 := in_u j66_1; have a3 := in_u ro_109_20; have a4 := in_u ro_109_19; have a5 := in_u i90; have a6 := in_u i210; have a7 := t_add e210 i90 (in_c 1 rfl) rfl; have a8 := in_u ((in_c 1 rfl)); have a9 := in_u i89; have a10 := t_add e89 ro_109_19 (in_c 160 rfl) rfl; have a11 := in_u ((in_c 160 rfl)); have oc := oc_317_109; by omega)
                have n80b : (y66_3).toInt < (u_109_20).toInt := by first | exact n80_2 | (exact (have a0 := in_u j80_3; have a1 := in_u j66_2; have a2 := in_u j66_1; have a3 := in_u ro_109_20; have a4 := in_u ro_109_19; have a5 := in_u i90; have a6 := in_u i210; have a7 := t_add e210 i90 (in_c 1 rfl) rfl; have a8 := in_u ((in_c 1 rfl)); have a9 := in_u i89; have a10 := t_add e89 ro_109_19 (in_c 160 rfl) rfl; have a11 := in_u ((in_c 160 rfl)); have oc := oc_317_109; by omega))
                have n80c : WDW (gvZ s) (x1).toNatClampNeg (s.2.2.1 109 20).toInt.toNat (y66_3).toNatClampNeg ((z210).toInt - (u_109_19).toInt).toNat ((sc80).1 133) := by rw [show ((z210).toInt - (u_109_19).toInt).toNat = ((y80_4).toInt - (u_109_19).toInt).toNat + 1 from (by exact (have a0 := in_u j80_3; have a1 := in_u j66_2; have a2 := in_u j66_1; have a3 := in_u ro_109_20; have a4 := in_u ro_109_19; have a5 := in_u i90; have a6 := in_u i210; have a7 := t_add e210 i90 (in_c 1 rfl) rfl; have a8 := in_u ((in_c 1 rfl)); have a9 := in_u i89; have a10 := t_add e89 ro_109_19 (in_c 160 rfl) rfl; have a11 := in_u ((in_c 160 rfl)); have oc := oc_317_109; by omega))]; have hp : bs s + ((y80_4).toInt - (u_109_19).toInt).toNat = y80_4.toNatClampNeg := (by show (s.2.2.1 109 19).toInt.toNat + _ = y80_4.toInt.toNat; rw [← e_109_19]; exact (have a0 := in_u j80_3; have a1 := in_u j66_2; have a2 := in_u j66_1; have a3 := in_u ro_109_20; have a4 := in_u ro_109_19; have a5 := in_u i90; have a6 := in_u i210; have a7 := t_add e210 i90 (in_c 1 rfl) rfl; have a8 := in_u ((in_c 1 rfl)); have a9 := in_u i89; have a10 := t_add e89 ro_109_19 (in_c 160 rfl) rfl; have a11 := in_u ((in_c 160 rfl)); have oc := oc_317_109; by omega)); have ha : ((y80_4).toInt - (u_109_19).toInt).toNat < 160 := (by exact (have a0 := in_u j80_3; have a1 := in_u j66_2; have a2 := in_u j66_1; have a3 := in_u ro_109_20; have a4 := in_u ro_109_19; have a5 := in_u i90; have a6 := in_u i210; have a7 := t_add e210 i90 (in_c 1 rfl) rfl; have a8 := in_u ((in_c 1 rfl)); have a9 := in_u i89; have a10 := t_add e89 ro_109_19 (in_c 160 rfl) rfl; have a11 := in_u ((in_c 160 rfl)); have oc := oc_317_109; by omega)); exact wdw_m hI g80_0 ha (show z99 = s.1 112 (bs s + ((y80_4).toInt - (u_109_19).toInt).toNat) from (by rw [hp, ← hFc80.1 112 rfl]; exact e99)) (by exact (have a0 := in_u j80_3; have a1 := in_u j66_2; have a2 := in_u j66_1; have a3 := in_u ro_109_20; have a4 := in_u ro_109_19; have a5 := in_u i90; have a6 := in_u i210; have a7 := t_add e210 i90 (in_c 1 rfl) rfl; have a8 := in_u ((in_c 1 rfl)); have a9 := in_u i89; have a10 := t_add e89 ro_109_19 (in_c 160 rfl) rfl; have a11 := in_u ((in_c 160 rfl)); have oc := oc_317_109; by omega)) (show z113 = s.1 113 (bs s + ((y80_4).toInt - (u_109_19).toInt).toNat) from (by rw [hp, ← hFc80.1 113 rfl]; exact e113)) e114 (by exact (have a0 := in_u j80_3; have a1 := in_u j66_2; have a2 := in_u j66_1; have a3 := in_u ro_109_20; have a4 := in_u ro_109_19; have a5 := in_u i90; have a6 := in_u i210; have a7 := t_add e210 i90 (in_c 1 rfl) rfl; have a8 := in_u ((in_c 1 rfl)); have a9 := in_u i89; have a10 := t_add e89 ro_109_19 (in_c 160 rfl) rfl; have a11 := in_u ((in_c 160 rfl)); have oc := oc_317_109; by omega))
                have n80d : ((sc80).2.2.1 109 0).toInt = 0 := by exact g80_1
                exact gg_w (by first | exact Nat.le_add_right _ _ | exact gw2 | exact gw3 | exact gwe rfl | exact gwf rfl | exact gwg rfl | exact gwh rfl | omega) (gg_f (gf_cons rfl (gf_cons rfl (gf_cons rfl (gf_cons rfl (gf_cons rfl gf_nil))))) (ih80 sc80 z210 hIc80 hFc80 (in_w 0 31 j80_3 rfl) (in_w 0 400 i210 rfl) n80 n80a n80b n80c n80d (m_up mm80 (t_add e210 i90 (in_c 1 rfl) rfl) (in_w 1 1 (in_c 1 rfl) rfl))))
              · skip
                have i115 := z_ge 0 2147483647 c115 (i_rng z114) rfl
                refine g_aload_n 119 (gd rfl) rfl rfl ?_
                refine g_getA (q2 := 116) 122 (gd rfl) rfl rfl rfl rfl ?_
                refine g_iload 124 (gd rfl) rfl rfl ?_
                refine g_iaload 125 (gd rfl) rfl (n := 480) rfl (in_ix i90 rfl) (fun z124 e124 => ?_)
                have i124 := inv_I hIc80 (n := 480) (t := 0) 0 1000000 rfl (in_ix i90 rfl) rfl e124
                refine g_aload_n 126 (gd rfl) rfl rfl ?_
                refine g_getA (q2 := 133) 129 (gd rfl) rfl rfl rfl rfl ?_
                refine g_aload_n 130 (gd rfl) rfl rfl ?_
                refine g_getA (q2 := 113) 133 (gd rfl) rfl rfl rfl rfl ?_
                refine g_iload 135 (gd rfl) rfl rfl ?_
                refine g_iaload 136 (gd rfl) rfl (n := 480) rfl (in_ix i90 rfl) (fun z135 e135 => ?_)
                have q135 : z113 = z135 := (e113).trans e135.symm
                subst q135
                refine g_iaload 137 (gd rfl) rfl (n := 32) rfl (in_ix i113 rfl) (fun z136 e136 => ?_)
                have q136 : z114 = z136 := (e114).trans e136.symm
                subst q136
                refine g_cmp_ge 140 150 (gd rfl) rfl rfl (fun c137 => ?_) (fun c137 => ?_)
                · skip
                  have i137 := r_le1 0 1000000 c137 i115 i124 rfl
                  refine g_aload_n 151 (gd rfl) rfl rfl ?_
                  refine g_getA (q2 := 133) 154 (gd rfl) rfl rfl rfl rfl ?_
                  refine g_aload_n 155 (gd rfl) rfl rfl ?_
                  refine g_getA (q2 := 113) 158 (gd rfl) rfl rfl rfl rfl ?_
                  refine g_iload 160 (gd rfl) rfl rfl ?_
                  refine g_iaload 161 (gd rfl) rfl (n := 480) rfl (in_ix i90 rfl) (fun z160 e160 => ?_)
                  have q160 : z113 = z160 := (e113).trans e160.symm
                  subst q160
                  refine g_iaload 162 (gd rfl) rfl (n := 32) rfl (in_ix i113 rfl) (fun z161 e161 => ?_)
                  have q161 : z114 = z161 := (e114).trans e161.symm
                  subst q161
                  refine g_istore 164 (gd rfl) rfl (Nat.le_of_ble_eq_true rfl) ?_
                  refine g_aload_n 165 (gd rfl) rfl rfl ?_
                  refine g_getA (q2 := 133) 168 (gd rfl) rfl rfl rfl rfl ?_
                  refine g_aload_n 169 (gd rfl) rfl rfl ?_
                  refine g_getA (q2 := 114) 172 (gd rfl) rfl rfl rfl rfl ?_
                  refine g_iload 174 (gd rfl) rfl rfl ?_
                  refine g_iaload 175 (gd rfl) rfl (n := 480) rfl (in_ix i90 rfl) (fun z174 e174 => ?_)
                  have i174 := inv_I hIc80 (n := 480) (t := 0) 0 31 rfl (in_ix i90 rfl) rfl e174
                  refine g_iload 177 (gd rfl) rfl rfl ?_
                  refine g_aload_n 178 (gd rfl) rfl rfl ?_
                  refine g_getA (q2 := 133) 181 (gd rfl) rfl rfl rfl rfl ?_
                  refine g_aload_n 182 (gd rfl) rfl rfl ?_
                  refine g_getA (q2 := 114) 185 (gd rfl) rfl rfl rfl rfl ?_
                  refine g_iload 187 (gd rfl) rfl rfl ?_
                  refine g_iaload 188 (gd rfl) rfl (n := 480) rfl (in_ix i90 rfl) (fun z187 e187 => ?_)
                  have q187 : z174 = z187 := (e174).trans e187.symm
                  subst q187
                  refine g_iaload 189 (gd rfl) rfl (n := 32) rfl (in_ix i174 rfl) (fun z188 e188 => ?_)
                  refine g_cmp_le 192 197 (gd rfl) rfl rfl (fun c189 => ?_) (fun c189 => ?_)
                  · skip
                    have i189 := r_le2 0 2147483647 c189 i137 (i_rng z188) rfl
                    refine g_aload_n 198 (gd rfl) rfl rfl ?_
                    refine g_getA (q2 := 133) 201 (gd rfl) rfl rfl rfl rfl ?_
                    refine g_aload_n 202 (gd rfl) rfl rfl ?_
                    refine g_getA (q2 := 114) 205 (gd rfl) rfl rfl rfl rfl ?_
                    refine g_iload 207 (gd rfl) rfl rfl ?_
                    refine g_iaload 208 (gd rfl) rfl (n := 480) rfl (in_ix i90 rfl) (fun z207 e207 => ?_)
                    have q207 : z174 = z207 := (e174).trans e207.symm
                    subst q207
                    refine g_iaload 209 (gd rfl) rfl (n := 32) rfl (in_ix i174 rfl) (fun z208 e208 => ?_)
                    have q208 : z188 = z208 := (e188).trans e208.symm
                    subst q208
                    refine g_iastore 210 (gd rfl) rfl (n := 32) rfl (in_ix i174 rfl) ?_
                    have hI209 := inv_sI (q := 133) (j := z174.toNatClampNeg) hIc80 rfl (in_w (-2147483648) 2147483647 i189 rfl)
                    refine g_iinc 213 (gd rfl) rfl rfl (Nat.le_of_ble_eq_true rfl) (fun z210 e210 => ?_)
                    have i210 := in_add 1 320 e210 i90 (in_c 1 rfl) rfl rfl
                    refine g_goto 80 (gd rfl) rfl ?_
                    have n80 : (u_109_19).toInt ≤ (z210).toInt := by exact (have a0 := in_u j80_3; have a1 := in_u j66_2; have a2 := in_u j66_1; have a3 := in_u ro_109_20; have a4 := in_u ro_109_19; have a5 := in_u i90; have a6 := in_u i137; have a7 := in_u i210; have a8 := t_add e210 i90 (in_c 1 rfl) rfl; have a9 := in_u ((in_c 1 rfl)); have a10 := in_u i89; have a11 := t_add e89 ro_109_19 (in_c 160 rfl) rfl; have a12 := in_u ((in_c 160 rfl)); have oc := oc_317_109; by omega)
                    have n80a : (z210).toInt ≤ (u_109_19).toInt + 160 := by exact (have a0 := in_u j80_3; have a1 := in_u j66_2; have a2 := in_u j66_1; have a3 := in_u ro_109_20; have a4 := in_u ro_109_19; have a5 := in_u i90; have a6 := in_u i137; have a7 := in_u i210; have a8 := t_add e210 i90 (in_c 1 rfl) rfl; have a9 := in_u ((in_c 1 rfl)); have a10 := in_u i89; have a11 := t_add e89 ro_109_19 (in_c 160 rfl) rfl; have a12 := in_u ((in_c 160 rfl)); have oc := oc_317_109; by omega)
                    have n80b : (y66_3).toInt < (u_109_20).toInt := by first | exact n80_2 | (exact (have a0 := in_u j80_3; have a1 := in_u j66_2; have a2 := in_u j66_1; have a3 := in_u ro_109_20; have a4 := in_u ro_109_19; have a5 := in_u i90; have a6 := in_u i137; have a7 := in_u i210; have a8 := t_add e210 i90 (in_c 1 rfl) rfl; have a9 := in_u ((in_c 1 rfl)); have a10 := in_u i89; have a11 := t_add e89 ro_109_19 (in_c 160 rfl) rfl; have a12 := in_u ((in_c 160 rfl)); have oc := oc_317_109; by omega))
                    have n80c : WDW (gvZ s) (x1).toNatClampNeg (s.2.2.1 109 20).toInt.toNat (y66_3).toNatClampNeg ((z210).toInt - (u_109_19).toInt).toNat (((sI sc80 133 z174.toNatClampNeg z188)).1 133) := by rw [show ((z210).toInt - (u_109_19).toInt).toNat = ((y80_4).toInt - (u_109_19).toInt).toNat + 1 from (by exact (have a0 := in_u j80_3; have a1 := in_u j66_2; have a2 := in_u j66_1; have a3 := in_u ro_109_20; have a4 := in_u ro_109_19; have a5 := in_u i90; have a6 := in_u i137; have a7 := in_u i210; have a8 := t_add e210 i90 (in_c 1 rfl) rfl; have a9 := in_u ((in_c 1 rfl)); have a10 := in_u i89; have a11 := t_add e89 ro_109_19 (in_c 160 rfl) rfl; have a12 := in_u ((in_c 160 rfl)); have oc := oc_317_109; by omega))]; have hp : bs s + ((y80_4).toInt - (u_109_19).toInt).toNat = y80_4.toNatClampNeg := (by show (s.2.2.1 109 19).toInt.toNat + _ = y80_4.toInt.toNat; rw [← e_109_19]; exact (have a0 := in_u j80_3; have a1 := in_u j66_2; have a2 := in_u j66_1; have a3 := in_u ro_109_20; have a4 := in_u ro_109_19; have a5 := in_u i90; have a6 := in_u i137; have a7 := in_u i210; have a8 := t_add e210 i90 (in_c 1 rfl) rfl; have a9 := in_u ((in_c 1 rfl)); have a10 := in_u i89; have a11 := t_add e89 ro_109_19 (in_c 160 rfl) rfl; have a12 := in_u ((in_c 160 rfl)); have oc := oc_317_109; by omega)); have ha : ((y80_4).toInt - (u_109_19).toInt).toNat < 160 := (by exact (have a0 := in_u j80_3; have a1 := in_u j66_2; have a2 := in_u j66_1; have a3 := in_u ro_109_20; have a4 := in_u ro_109_19; have a5 := in_u i90; have a6 := in_u i137; have a7 := in_u i210; have a8 := t_add e210 i90 (in_c 1 rfl) rfl; have a9 := in_u ((in_c 1 rfl)); have a10 := in_u i89; have a11 := t_add e89 ro_109_19 (in_c 160 rfl) rfl; have a12 := in_u ((in_c 160 rfl)); have oc := oc_317_109; by omega)); rw [sI_q]; exact wdw_t hI g80_0 ha (show z99 = s.1 112 (bs s + ((y80_4).toInt - (u_109_19).toInt).toNat) from (by rw [hp, ← hFc80.1 112 rfl]; exact e99)) (by exact (have a0 := in_u j80_3; have a1 := in_u j66_2; have a2 := in_u j66_1; have a3 := in_u ro_109_20; have a4 := in_u ro_109_19; have a5 := in_u i90; have a6 := in_u i137; have a7 := in_u i210; have a8 := t_add e210 i90 (in_c 1 rfl) rfl; have a9 := in_u ((in_c 1 rfl)); have a10 := in_u i89; have a11 := t_add e89 ro_109_19 (in_c 160 rfl) rfl; have a12 := in_u ((in_c 160 rfl)); have oc := oc_317_109; by omega)) (show z113 = s.1 113 (bs s + ((y80_4).toInt - (u_109_19).toInt).toNat) from (by rw [hp, ← hFc80.1 113 rfl]; exact e113)) (show z174 = s.1 114 (bs s + ((y80_4).toInt - (u_109_19).toInt).toNat) from (by rw [hp, ← hFc80.1 114 rfl]; exact e174)) (show z124 = s.1 116 (bs s + ((y80_4).toInt - (u_109_19).toInt).toNat) from (by rw [hp, ← hFc80.1 116 rfl]; exact e124)) e114 e188 (by exact (have a0 := in_u j80_3; have a1 := in_u j66_2; have a2 := in_u j66_1; have a3 := in_u ro_109_20; have a4 := in_u ro_109_19; have a5 := in_u i90; have a6 := in_u i137; have a7 := in_u i210; have a8 := t_add e210 i90 (in_c 1 rfl) rfl; have a9 := in_u ((in_c 1 rfl)); have a10 := in_u i89; have a11 := t_add e89 ro_109_19 (in_c 160 rfl) rfl; have a12 := in_u ((in_c 160 rfl)); have oc := oc_317_109; by omega)) (by exact (have a0 := in_u j80_3; have a1 := in_u j66_2; have a2 := in_u j66_1; have a3 := in_u ro_109_20; have a4 := in_u ro_109_19; have a5 := in_u i90; have a6 := in_u i137; have a7 := in_u i210; have a8 := t_add e210 i90 (in_c 1 rfl) rfl; have a9 := in_u ((in_c 1 rfl)); have a10 := in_u i89; have a11 := t_add e89 ro_109_19 (in_c 160 rfl) rfl; have a12 := in_u ((in_c 160 rfl)); have oc := oc_317_109; by omega)) (by exact (have a0 := in_u j80_3; have a1 := in_u j66_2; have a2 := in_u j66_1; have a3 := in_u ro_109_20; have a4 := in_u ro_109_19; have a5 := in_u i90; have a6 := in_u i137; have a7 := in_u i210; have a8 := t_add e210 i90 (in_c 1 rfl) rfl; have a9 := in_u ((in_c 1 rfl)); have a10 := in_u i89; have a11 := t_add e89 ro_109_19 (in_c 160 rfl) rfl; have a12 := in_u ((in_c 160 rfl)); have oc := oc_317_109; by omega))
                    have n80d : (((sI sc80 133 z174.toNatClampNeg z188)).2.2.1 109 0).toInt = 0 := by exact g80_1
                    exact gg_w (by first | exact Nat.le_add_right _ _ | exact gw2 | exact gw3 | exact gwe rfl | exact gwf rfl | exact gwg rfl | exact gwh rfl | omega) (gg_f (gf_cons rfl (gf_cons rfl (gf_cons rfl (gf_cons rfl (gf_cons rfl gf_nil))))) (ih80 (sI sc80 133 z174.toNatClampNeg z188) z210 hI209 (fr_sI rfl hFc80) (in_w 0 31 j80_3 rfl) (in_w 0 400 i210 rfl) n80 n80a n80b n80c n80d (m_up mm80 (t_add e210 i90 (in_c 1 rfl) rfl) (in_w 1 1 (in_c 1 rfl) rfl))))
                  · skip
                    have i189 := r_lt1 (-2147483648) 999999 c189 (i_rng z188) i137 rfl
                    refine g_iload 194 (gd rfl) rfl rfl ?_
                    refine g_goto 209 (gd rfl) rfl ?_
                    refine g_iastore 210 (gd rfl) rfl (n := 32) rfl (in_ix i174 rfl) ?_
                    have hI209 := inv_sI (q := 133) (j := z174.toNatClampNeg) hIc80 rfl (in_w (-2147483648) 2147483647 i137 rfl)
                    refine g_iinc 213 (gd rfl) rfl rfl (Nat.le_of_ble_eq_true rfl) (fun z210 e210 => ?_)
                    have i210 := in_add 1 320 e210 i90 (in_c 1 rfl) rfl rfl
                    refine g_goto 80 (gd rfl) rfl ?_
                    have n80 : (u_109_19).toInt ≤ (z210).toInt := by exact (have a0 := in_u j80_3; have a1 := in_u j66_2; have a2 := in_u j66_1; have a3 := in_u ro_109_20; have a4 := in_u ro_109_19; have a5 := in_u i90; have a6 := in_u i137; have a7 := in_u i210; have a8 := t_add e210 i90 (in_c 1 rfl) rfl; have a9 := in_u ((in_c 1 rfl)); have a10 := in_u i89; have a11 := t_add e89 ro_109_19 (in_c 160 rfl) rfl; have a12 := in_u ((in_c 160 rfl)); have oc := oc_317_109; by omega)
                    have n80a : (z210).toInt ≤ (u_109_19).toInt + 160 := by exact (have a0 := in_u j80_3; have a1 := in_u j66_2; have a2 := in_u j66_1; have a3 := in_u ro_109_20; have a4 := in_u ro_109_19; have a5 := in_u i90; have a6 := in_u i137; have a7 := in_u i210; have a8 := t_add e210 i90 (in_c 1 rfl) rfl; have a9 := in_u ((in_c 1 rfl)); have a10 := in_u i89; have a11 := t_add e89 ro_109_19 (in_c 160 rfl) rfl; have a12 := in_u ((in_c 160 rfl)); have oc := oc_317_109; by omega)
                    have n80b : (y66_3).toInt < (u_109_20).toInt := by first | exact n80_2 | (exact (have a0 := in_u j80_3; have a1 := in_u j66_2; have a2 := in_u j66_1; have a3 := in_u ro_109_20; have a4 := in_u ro_109_19; have a5 := in_u i90; have a6 := in_u i137; have a7 := in_u i210; have a8 := t_add e210 i90 (in_c 1 rfl) rfl; have a9 := in_u ((in_c 1 rfl)); have a10 := in_u i89; have a11 := t_add e89 ro_109_19 (in_c 160 rfl) rfl; have a12 := in_u ((in_c 160 rfl)); have oc := oc_317_109; by omega))
                    have n80c : WDW (gvZ s) (x1).toNatClampNeg (s.2.2.1 109 20).toInt.toNat (y66_3).toNatClampNeg ((z210).toInt - (u_109_19).toInt).toNat (((sI sc80 133 z174.toNatClampNeg z114)).1 133) := by rw [show ((z210).toInt - (u_109_19).toInt).toNat = ((y80_4).toInt - (u_109_19).toInt).toNat + 1 from (by exact (have a0 := in_u j80_3; have a1 := in_u j66_2; have a2 := in_u j66_1; have a3 := in_u ro_109_20; have a4 := in_u ro_109_19; have a5 := in_u i90; have a6 := in_u i137; have a7 := in_u i210; have a8 := t_add e210 i90 (in_c 1 rfl) rfl; have a9 := in_u ((in_c 1 rfl)); have a10 := in_u i89; have a11 := t_add e89 ro_109_19 (in_c 160 rfl) rfl; have a12 := in_u ((in_c 160 rfl)); have oc := oc_317_109; by omega))]; have hp : bs s + ((y80_4).toInt - (u_109_19).toInt).toNat = y80_4.toNatClampNeg := (by show (s.2.2.1 109 19).toInt.toNat + _ = y80_4.toInt.toNat; rw [← e_109_19]; exact (have a0 := in_u j80_3; have a1 := in_u j66_2; have a2 := in_u j66_1; have a3 := in_u ro_109_20; have a4 := in_u ro_109_19; have a5 := in_u i90; have a6 := in_u i137; have a7 := in_u i210; have a8 := t_add e210 i90 (in_c 1 rfl) rfl; have a9 := in_u ((in_c 1 rfl)); have a10 := in_u i89; have a11 := t_add e89 ro_109_19 (in_c 160 rfl) rfl; have a12 := in_u ((in_c 160 rfl)); have oc := oc_317_109; by omega)); have ha : ((y80_4).toInt - (u_109_19).toInt).toNat < 160 := (by exact (have a0 := in_u j80_3; have a1 := in_u j66_2; have a2 := in_u j66_1; have a3 := in_u ro_109_20; have a4 := in_u ro_109_19; have a5 := in_u i90; have a6 := in_u i137; have a7 := in_u i210; have a8 := t_add e210 i90 (in_c 1 rfl) rfl; have a9 := in_u ((in_c 1 rfl)); have a10 := in_u i89; have a11 := t_add e89 ro_109_19 (in_c 160 rfl) rfl; have a12 := in_u ((in_c 160 rfl)); have oc := oc_317_109; by omega)); rw [sI_q]; exact wdw_t hI g80_0 ha (show z99 = s.1 112 (bs s + ((y80_4).toInt - (u_109_19).toInt).toNat) from (by rw [hp, ← hFc80.1 112 rfl]; exact e99)) (by exact (have a0 := in_u j80_3; have a1 := in_u j66_2; have a2 := in_u j66_1; have a3 := in_u ro_109_20; have a4 := in_u ro_109_19; have a5 := in_u i90; have a6 := in_u i137; have a7 := in_u i210; have a8 := t_add e210 i90 (in_c 1 rfl) rfl; have a9 := in_u ((in_c 1 rfl)); have a10 := in_u i89; have a11 := t_add e89 ro_109_19 (in_c 160 rfl) rfl; have a12 := in_u ((in_c 160 rfl)); have oc := oc_317_109; by omega)) (show z113 = s.1 113 (bs s + ((y80_4).toInt - (u_109_19).toInt).toNat) from (by rw [hp, ← hFc80.1 113 rfl]; exact e113)) (show z174 = s.1 114 (bs s + ((y80_4).toInt - (u_109_19).toInt).toNat) from (by rw [hp, ← hFc80.1 114 rfl]; exact e174)) (show z124 = s.1 116 (bs s + ((y80_4).toInt - (u_109_19).toInt).toNat) from (by rw [hp, ← hFc80.1 116 rfl]; exact e124)) e114 e188 (by exact (have a0 := in_u j80_3; have a1 := in_u j66_2; have a2 := in_u j66_1; have a3 := in_u ro_109_20; have a4 := in_u ro_109_19; have a5 := in_u i90; have a6 := in_u i137; have a7 := in_u i210; have a8 := t_add e210 i90 (in_c 1 rfl) rfl; have a9 := in_u ((in_c 1 rfl)); have a10 := in_u i89; have a11 := t_add e89 ro_109_19 (in_c 160 rfl) rfl; have a12 := in_u ((in_c 160 rfl)); have oc := oc_317_109; by omega)) (by exact (have a0 := in_u j80_3; have a1 := in_u j66_2; have a2 := in_u j66_1; have a3 := in_u ro_109_20; have a4 := in_u ro_109_19; have a5 := in_u i90; have a6 := in_u i137; have a7 := in_u i210; have a8 := t_add e210 i90 (in_c 1 rfl) rfl; have a9 := in_u ((in_c 1 rfl)); have a10 := in_u i89; have a11 := t_add e89 ro_109_19 (in_c 160 rfl) rfl; have a12 := in_u ((in_c 160 rfl)); have oc := oc_317_109; by omega)) (by exact (have a0 := in_u j80_3; have a1 := in_u j66_2; have a2 := in_u j66_1; have a3 := in_u ro_109_20; have a4 := in_u ro_109_19; have a5 := in_u i90; have a6 := in_u i137; have a7 := in_u i210; have a8 := t_add e210 i90 (in_c 1 rfl) rfl; have a9 := in_u ((in_c 1 rfl)); have a10 := in_u i89; have a11 := t_add e89 ro_109_19 (in_c 160 rfl) rfl; have a12 := in_u ((in_c 160 rfl)); have oc := oc_317_109; by omega))
                    have n80d : (((sI sc80 133 z174.toNatClampNeg z114)).2.2.1 109 0).toInt = 0 := by exact g80_1
                    exact gg_w (by first | exact Nat.le_add_right _ _ | exact gw2 | exact gw3 | exact gwe rfl | exact gwf rfl | exact gwg rfl | exact gwh rfl | omega) (gg_f (gf_cons rfl (gf_cons rfl (gf_cons rfl (gf_cons rfl (gf_cons rfl gf_nil))))) (ih80 (sI sc80 133 z174.toNatClampNeg z114) z210 hI209 (fr_sI rfl hFc80) (in_w 0 31 j80_3 rfl) (in_w 0 400 i210 rfl) n80 n80a n80b n80c n80d (m_up mm80 (t_add e210 i90 (in_c 1 rfl) rfl) (in_w 1 1 (in_c 1 rfl) rfl))))
                · skip
                  have i137 := r_lt2 1 2147483647 c137 i124 i115 rfl
                  refine g_aload_n 141 (gd rfl) rfl rfl ?_
                  refine g_getA (q2 := 116) 144 (gd rfl) rfl rfl rfl rfl ?_
                  refine g_iload 146 (gd rfl) rfl rfl ?_
                  refine g_iaload 147 (gd rfl) rfl (n := 480) rfl (in_ix i90 rfl) (fun z146 e146 => ?_)
                  have q146 : z124 = z146 := (e124).trans e146.symm
                  subst q146
                  refine g_goto 162 (gd rfl) rfl ?_
                  refine g_istore 164 (gd rfl) rfl (Nat.le_of_ble_eq_true rfl) ?_
                  refine g_aload_n 165 (gd rfl) rfl rfl ?_
                  refine g_getA (q2 := 133) 168 (gd rfl) rfl rfl rfl rfl ?_
                  refine g_aload_n 169 (gd rfl) rfl rfl ?_
                  refine g_getA (q2 := 114) 172 (gd rfl) rfl rfl rfl rfl ?_
                  refine g_iload 174 (gd rfl) rfl rfl ?_
                  refine g_iaload 175 (gd rfl) rfl (n := 480) rfl (in_ix i90 rfl) (fun z174 e174 => ?_)
                  have i174 := inv_I hIc80 (n := 480) (t := 0) 0 31 rfl (in_ix i90 rfl) rfl e174
                  refine g_iload 177 (gd rfl) rfl rfl ?_
                  refine g_aload_n 178 (gd rfl) rfl rfl ?_
                  refine g_getA (q2 := 133) 181 (gd rfl) rfl rfl rfl rfl ?_
                  refine g_aload_n 182 (gd rfl) rfl rfl ?_
                  refine g_getA (q2 := 114) 185 (gd rfl) rfl rfl rfl rfl ?_
                  refine g_iload 187 (gd rfl) rfl rfl ?_
                  refine g_iaload 188 (gd rfl) rfl (n := 480) rfl (in_ix i90 rfl) (fun z187 e187 => ?_)
                  have q187 : z174 = z187 := (e174).trans e187.symm
                  subst q187
                  refine g_iaload 189 (gd rfl) rfl (n := 32) rfl (in_ix i174 rfl) (fun z188 e188 => ?_)
                  refine g_cmp_le 192 197 (gd rfl) rfl rfl (fun c189 => ?_) (fun c189 => ?_)
                  · skip
                    have i189 := r_le2 0 2147483647 c189 i124 (i_rng z188) rfl
                    refine g_aload_n 198 (gd rfl) rfl rfl ?_
                    refine g_getA (q2 := 133) 201 (gd rfl) rfl rfl rfl rfl ?_
                    refine g_aload_n 202 (gd rfl) rfl rfl ?_
                    refine g_getA (q2 := 114) 205 (gd rfl) rfl rfl rfl rfl ?_
                    refine g_iload 207 (gd rfl) rfl rfl ?_
                    refine g_iaload 208 (gd rfl) rfl (n := 480) rfl (in_ix i90 rfl) (fun z207 e207 => ?_)
                    have q207 : z174 = z207 := (e174).trans e207.symm
                    subst q207
                    refine g_iaload 209 (gd rfl) rfl (n := 32) rfl (in_ix i174 rfl) (fun z208 e208 => ?_)
                    have q208 : z188 = z208 := (e188).trans e208.symm
                    subst q208
                    refine g_iastore 210 (gd rfl) rfl (n := 32) rfl (in_ix i174 rfl) ?_
                    have hI209 := inv_sI (q := 133) (j := z174.toNatClampNeg) hIc80 rfl (in_w (-2147483648) 2147483647 i189 rfl)
                    refine g_iinc 213 (gd rfl) rfl rfl (Nat.le_of_ble_eq_true rfl) (fun z210 e210 => ?_)
                    have i210 := in_add 1 320 e210 i90 (in_c 1 rfl) rfl rfl
                    refine g_goto 80 (gd rfl) rfl ?_
                    have n80 : (u_109_19).toInt ≤ (z210).toInt := by exact (have a0 := in_u j80_3; have a1 := in_u j66_2; have a2 := in_u j66_1; have a3 := in_u ro_109_20; have a4 := in_u ro_109_19; have a5 := in_u i90; have a6 := in_u i124; have a7 := in_u i210; have a8 := t_add e210 i90 (in_c 1 rfl) rfl; have a9 := in_u ((in_c 1 rfl)); have a10 := in_u i89; have a11 := t_add e89 ro_109_19 (in_c 160 rfl) rfl; have a12 := in_u ((in_c 160 rfl)); have oc := oc_317_109; by omega)
                    have n80a : (z210).toInt ≤ (u_109_19).toInt + 160 := by exact (have a0 := in_u j80_3; have a1 := in_u j66_2; have a2 := in_u j66_1; have a3 := in_u ro_109_20; have a4 := in_u ro_109_19; have a5 := in_u i90; have a6 := in_u i124; have a7 := in_u i210; have a8 := t_add e210 i90 (in_c 1 rfl) rfl; have a9 := in_u ((in_c 1 rfl)); have a10 := in_u i89; have a11 := t_add e89 ro_109_19 (in_c 160 rfl) rfl; have a12 := in_u ((in_c 160 rfl)); have oc := oc_317_109; by omega)
                    have n80b : (y66_3).toInt < (u_109_20).toInt := by first | exact n80_2 | (exact (have a0 := in_u j80_3; have a1 := in_u j66_2; have a2 := in_u j66_1; have a3 := in_u ro_109_20; have a4 := in_u ro_109_19; have a5 := in_u i90; have a6 := in_u i124; have a7 := in_u i210; have a8 := t_add e210 i90 (in_c 1 rfl) rfl; have a9 := in_u ((in_c 1 rfl)); have a10 := in_u i89; have a11 := t_add e89 ro_109_19 (in_c 160 rfl) rfl; have a12 := in_u ((in_c 160 rfl)); have oc := oc_317_109; by omega))
                    have n80c : WDW (gvZ s) (x1).toNatClampNeg (s.2.2.1 109 20).toInt.toNat (y66_3).toNatClampNeg ((z210).toInt - (u_109_19).toInt).toNat (((sI sc80 133 z174.toNatClampNeg z188)).1 133) := by rw [show ((z210).toInt - (u_109_19).toInt).toNat = ((y80_4).toInt - (u_109_19).toInt).toNat + 1 from (by exact (have a0 := in_u j80_3; have a1 := in_u j66_2; have a2 := in_u j66_1; have a3 := in_u ro_109_20; have a4 := in_u ro_109_19; have a5 := in_u i90; have a6 := in_u i124; have a7 := in_u i210; have a8 := t_add e210 i90 (in_c 1 rfl) rfl; have a9 := in_u ((in_c 1 rfl)); have a10 := in_u i89; have a11 := t_add e89 ro_109_19 (in_c 160 rfl) rfl; have a12 := in_u ((in_c 160 rfl)); have oc := oc_317_109; by omega))]; have hp : bs s + ((y80_4).toInt - (u_109_19).toInt).toNat = y80_4.toNatClampNeg := (by show (s.2.2.1 109 19).toInt.toNat + _ = y80_4.toInt.toNat; rw [← e_109_19]; exact (have a0 := in_u j80_3; have a1 := in_u j66_2; have a2 := in_u j66_1; have a3 := in_u ro_109_20; have a4 := in_u ro_109_19; have a5 := in_u i90; have a6 := in_u i124; have a7 := in_u i210; have a8 := t_add e210 i90 (in_c 1 rfl) rfl; have a9 := in_u ((in_c 1 rfl)); have a10 := in_u i89; have a11 := t_add e89 ro_109_19 (in_c 160 rfl) rfl; have a12 := in_u ((in_c 160 rfl)); have oc := oc_317_109; by omega)); have ha : ((y80_4).toInt - (u_109_19).toInt).toNat < 160 := (by exact (have a0 := in_u j80_3; have a1 := in_u j66_2; have a2 := in_u j66_1; have a3 := in_u ro_109_20; have a4 := in_u ro_109_19; have a5 := in_u i90; have a6 := in_u i124; have a7 := in_u i210; have a8 := t_add e210 i90 (in_c 1 rfl) rfl; have a9 := in_u ((in_c 1 rfl)); have a10 := in_u i89; have a11 := t_add e89 ro_109_19 (in_c 160 rfl) rfl; have a12 := in_u ((in_c 160 rfl)); have oc := oc_317_109; by omega)); rw [sI_q]; exact wdw_t hI g80_0 ha (show z99 = s.1 112 (bs s + ((y80_4).toInt - (u_109_19).toInt).toNat) from (by rw [hp, ← hFc80.1 112 rfl]; exact e99)) (by exact (have a0 := in_u j80_3; have a1 := in_u j66_2; have a2 := in_u j66_1; have a3 := in_u ro_109_20; have a4 := in_u ro_109_19; have a5 := in_u i90; have a6 := in_u i124; have a7 := in_u i210; have a8 := t_add e210 i90 (in_c 1 rfl) rfl; have a9 := in_u ((in_c 1 rfl)); have a10 := in_u i89; have a11 := t_add e89 ro_109_19 (in_c 160 rfl) rfl; have a12 := in_u ((in_c 160 rfl)); have oc := oc_317_109; by omega)) (show z113 = s.1 113 (bs s + ((y80_4).toInt - (u_109_19).toInt).toNat) from (by rw [hp, ← hFc80.1 113 rfl]; exact e113)) (show z174 = s.1 114 (bs s + ((y80_4).toInt - (u_109_19).toInt).toNat) from (by rw [hp, ← hFc80.1 114 rfl]; exact e174)) (show z124 = s.1 116 (bs s + ((y80_4).toInt - (u_109_19).toInt).toNat) from (by rw [hp, ← hFc80.1 116 rfl]; exact e124)) e114 e188 (by exact (have a0 := in_u j80_3; have a1 := in_u j66_2; have a2 := in_u j66_1; have a3 := in_u ro_109_20; have a4 := in_u ro_109_19; have a5 := in_u i90; have a6 := in_u i124; have a7 := in_u i210; have a8 := t_add e210 i90 (in_c 1 rfl) rfl; have a9 := in_u ((in_c 1 rfl)); have a10 := in_u i89; have a11 := t_add e89 ro_109_19 (in_c 160 rfl) rfl; have a12 := in_u ((in_c 160 rfl)); have oc := oc_317_109; by omega)) (by exact (have a0 := in_u j80_3; have a1 := in_u j66_2; have a2 := in_u j66_1; have a3 := in_u ro_109_20; have a4 := in_u ro_109_19; have a5 := in_u i90; have a6 := in_u i124; have a7 := in_u i210; have a8 := t_add e210 i90 (in_c 1 rfl) rfl; have a9 := in_u ((in_c 1 rfl)); have a10 := in_u i89; have a11 := t_add e89 ro_109_19 (in_c 160 rfl) rfl; have a12 := in_u ((in_c 160 rfl)); have oc := oc_317_109; by omega)) (by exact (have a0 := in_u j80_3; have a1 := in_u j66_2; have a2 := in_u j66_1; have a3 := in_u ro_109_20; have a4 := in_u ro_109_19; have a5 := in_u i90; have a6 := in_u i124; have a7 := in_u i210; have a8 := t_add e210 i90 (in_c 1 rfl) rfl; have a9 := in_u ((in_c 1 rfl)); have a10 := in_u i89; have a11 := t_add e89 ro_109_19 (in_c 160 rfl) rfl; have a12 := in_u ((in_c 160 rfl)); have oc := oc_317_109; by omega))
                    have n80d : (((sI sc80 133 z174.toNatClampNeg z188)).2.2.1 109 0).toInt = 0 := by exact g80_1
                    exact gg_w (by first | exact Nat.le_add_right _ _ | exact gw2 | exact gw3 | exact gwe rfl | exact gwf rfl | exact gwg rfl | exact gwh rfl | omega) (gg_f (gf_cons rfl (gf_cons rfl (gf_cons rfl (gf_cons rfl (gf_cons rfl gf_nil))))) (ih80 (sI sc80 133 z174.toNatClampNeg z188) z210 hI209 (fr_sI rfl hFc80) (in_w 0 31 j80_3 rfl) (in_w 0 400 i210 rfl) n80 n80a n80b n80c n80d (m_up mm80 (t_add e210 i90 (in_c 1 rfl) rfl) (in_w 1 1 (in_c 1 rfl) rfl))))
                  · skip
                    have i189 := r_lt1 (-2147483648) 999999 c189 (i_rng z188) i124 rfl
                    refine g_iload 194 (gd rfl) rfl rfl ?_
                    refine g_goto 209 (gd rfl) rfl ?_
                    refine g_iastore 210 (gd rfl) rfl (n := 32) rfl (in_ix i174 rfl) ?_
                    have hI209 := inv_sI (q := 133) (j := z174.toNatClampNeg) hIc80 rfl (in_w (-2147483648) 2147483647 i124 rfl)
                    refine g_iinc 213 (gd rfl) rfl rfl (Nat.le_of_ble_eq_true rfl) (fun z210 e210 => ?_)
                    have i210 := in_add 1 320 e210 i90 (in_c 1 rfl) rfl rfl
                    refine g_goto 80 (gd rfl) rfl ?_
                    have n80 : (u_109_19).toInt ≤ (z210).toInt := by exact (have a0 := in_u j80_3; have a1 := in_u j66_2; have a2 := in_u j66_1; have a3 := in_u ro_109_20; have a4 := in_u ro_109_19; have a5 := in_u i90; have a6 := in_u i124; have a7 := in_u i210; have a8 := t_add e210 i90 (in_c 1 rfl) rfl; have a9 := in_u ((in_c 1 rfl)); have a10 := in_u i89; have a11 := t_add e89 ro_109_19 (in_c 160 rfl) rfl; have a12 := in_u ((in_c 160 rfl)); have oc := oc_317_109; by omega)
                    have n80a : (z210).toInt ≤ (u_109_19).toInt + 160 := by exact (have a0 := in_u j80_3; have a1 := in_u j66_2; have a2 := in_u j66_1; have a3 := in_u ro_109_20; have a4 := in_u ro_109_19; have a5 := in_u i90; have a6 := in_u i124; have a7 := in_u i210; have a8 := t_add e210 i90 (in_c 1 rfl) rfl; have a9 := in_u ((in_c 1 rfl)); have a10 := in_u i89; have a11 := t_add e89 ro_109_19 (in_c 160 rfl) rfl; have a12 := in_u ((in_c 160 rfl)); have oc := oc_317_109; by omega)
                    have n80b : (y66_3).toInt < (u_109_20).toInt := by first | exact n80_2 | (exact (have a0 := in_u j80_3; have a1 := in_u j66_2; have a2 := in_u j66_1; have a3 := in_u ro_109_20; have a4 := in_u ro_109_19; have a5 := in_u i90; have a6 := in_u i124; have a7 := in_u i210; have a8 := t_add e210 i90 (in_c 1 rfl) rfl; have a9 := in_u ((in_c 1 rfl)); have a10 := in_u i89; have a11 := t_add e89 ro_109_19 (in_c 160 rfl) rfl; have a12 := in_u ((in_c 160 rfl)); have oc := oc_317_109; by omega))
                    have n80c : WDW (gvZ s) (x1).toNatClampNeg (s.2.2.1 109 20).toInt.toNat (y66_3).toNatClampNeg ((z210).toInt - (u_109_19).toInt).toNat (((sI sc80 133 z174.toNatClampNeg z124)).1 133) := by rw [show ((z210).toInt - (u_109_19).toInt).toNat = ((y80_4).toInt - (u_109_19).toInt).toNat + 1 from (by exact (have a0 := in_u j80_3; have a1 := in_u j66_2; have a2 := in_u j66_1; have a3 := in_u ro_109_20; have a4 := in_u ro_109_19; have a5 := in_u i90; have a6 := in_u i124; have a7 := in_u i210; have a8 := t_add e210 i90 (in_c 1 rfl) rfl; have a9 := in_u ((in_c 1 rfl)); have a10 := in_u i89; have a11 := t_add e89 ro_109_19 (in_c 160 rfl) rfl; have a12 := in_u ((in_c 160 rfl)); have oc := oc_317_109; by omega))]; have hp : bs s + ((y80_4).toInt - (u_109_19).toInt).toNat = y80_4.toNatClampNeg := (by show (s.2.2.1 109 19).toInt.toNat + _ = y80_4.toInt.toNat; rw [← e_109_19]; exact (have a0 := in_u j80_3; have a1 := in_u j66_2; have a2 := in_u j66_1; have a3 := in_u ro_109_20; have a4 := in_u ro_109_19; have a5 := in_u i90; have a6 := in_u i124; have a7 := in_u i210; have a8 := t_add e210 i90 (in_c 1 rfl) rfl; have a9 := in_u ((in_c 1 rfl)); have a10 := in_u i89; have a11 := t_add e89 ro_109_19 (in_c 160 rfl) rfl; have a12 := in_u ((in_c 160 rfl)); have oc := oc_317_109; by omega)); have ha : ((y80_4).toInt - (u_109_19).toInt).toNat < 160 := (by exact (have a0 := in_u j80_3; have a1 := in_u j66_2; have a2 := in_u j66_1; have a3 := in_u ro_109_20; have a4 := in_u ro_109_19; have a5 := in_u i90; have a6 := in_u i124; have a7 := in_u i210; have a8 := t_add e210 i90 (in_c 1 rfl) rfl; have a9 := in_u ((in_c 1 rfl)); have a10 := in_u i89; have a11 := t_add e89 ro_109_19 (in_c 160 rfl) rfl; have a12 := in_u ((in_c 160 rfl)); have oc := oc_317_109; by omega)); rw [sI_q]; exact wdw_t hI g80_0 ha (show z99 = s.1 112 (bs s + ((y80_4).toInt - (u_109_19).toInt).toNat) from (by rw [hp, ← hFc80.1 112 rfl]; exact e99)) (by exact (have a0 := in_u j80_3; have a1 := in_u j66_2; have a2 := in_u j66_1; have a3 := in_u ro_109_20; have a4 := in_u ro_109_19; have a5 := in_u i90; have a6 := in_u i124; have a7 := in_u i210; have a8 := t_add e210 i90 (in_c 1 rfl) rfl; have a9 := in_u ((in_c 1 rfl)); have a10 := in_u i89; have a11 := t_add e89 ro_109_19 (in_c 160 rfl) rfl; have a12 := in_u ((in_c 160 rfl)); have oc := oc_317_109; by omega)) (show z113 = s.1 113 (bs s + ((y80_4).toInt - (u_109_19).toInt).toNat) from (by rw [hp, ← hFc80.1 113 rfl]; exact e113)) (show z174 = s.1 114 (bs s + ((y80_4).toInt - (u_109_19).toInt).toNat) from (by rw [hp, ← hFc80.1 114 rfl]; exact e174)) (show z124 = s.1 116 (bs s + ((y80_4).toInt - (u_109_19).toInt).toNat) from (by rw [hp, ← hFc80.1 116 rfl]; exact e124)) e114 e188 (by exact (have a0 := in_u j80_3; have a1 := in_u j66_2; have a2 := in_u j66_1; have a3 := in_u ro_109_20; have a4 := in_u ro_109_19; have a5 := in_u i90; have a6 := in_u i124; have a7 := in_u i210; have a8 := t_add e210 i90 (in_c 1 rfl) rfl; have a9 := in_u ((in_c 1 rfl)); have a10 := in_u i89; have a11 := t_add e89 ro_109_19 (in_c 160 rfl) rfl; have a12 := in_u ((in_c 160 rfl)); have oc := oc_317_109; by omega)) (by exact (have a0 := in_u j80_3; have a1 := in_u j66_2; have a2 := in_u j66_1; have a3 := in_u ro_109_20; have a4 := in_u ro_109_19; have a5 := in_u i90; have a6 := in_u i124; have a7 := in_u i210; have a8 := t_add e210 i90 (in_c 1 rfl) rfl; have a9 := in_u ((in_c 1 rfl)); have a10 := in_u i89; have a11 := t_add e89 ro_109_19 (in_c 160 rfl) rfl; have a12 := in_u ((in_c 160 rfl)); have oc := oc_317_109; by omega)) (by exact (have a0 := in_u j80_3; have a1 := in_u j66_2; have a2 := in_u j66_1; have a3 := in_u ro_109_20; have a4 := in_u ro_109_19; have a5 := in_u i90; have a6 := in_u i124; have a7 := in_u i210; have a8 := t_add e210 i90 (in_c 1 rfl) rfl; have a9 := in_u ((in_c 1 rfl)); have a10 := in_u i89; have a11 := t_add e89 ro_109_19 (in_c 160 rfl) rfl; have a12 := in_u ((in_c 160 rfl)); have oc := oc_317_109; by omega))
                    have n80d : (((sI sc80 133 z174.toNatClampNeg z124)).2.2.1 109 0).toInt = 0 := by exact g80_1
                    exact gg_w (by first | exact Nat.le_add_right _ _ | exact gw2 | exact gw3 | exact gwe rfl | exact gwf rfl | exact gwg rfl | exact gwh rfl | omega) (gg_f (gf_cons rfl (gf_cons rfl (gf_cons rfl (gf_cons rfl (gf_cons rfl gf_nil))))) (ih80 (sI sc80 133 z174.toNatClampNeg z124) z210 hI209 (fr_sI rfl hFc80) (in_w 0 31 j80_3 rfl) (in_w 0 400 i210 rfl) n80 n80a n80b n80c n80d (m_up mm80 (t_add e210 i90 (in_c 1 rfl) rfl) (in_w 1 1 (in_c 1 rfl) rfl))))
      refine g_iload_n 67 (gd rfl) rfl rfl ?_
      refine g_aload_n 68 (gd rfl) rfl rfl ?_
      refine g_getI 71 (gd rfl) rfl rfl rfl (fun z68 e68 => ?_)
      have q68 : u_109_20 = z68 := (fr_F e_109_20 hFc66 rfl).trans e68.symm
      subst q68
      refine g_cmp_ge 74 222 (gd rfl) rfl rfl (fun c71 => ?_) (fun c71 => ?_)
      · skip
        refine g_aload_n 223 (gd rfl) rfl rfl ?_
        refine g_getA (q2 := 133) 226 (gd rfl) rfl rfl rfl rfl ?_
        refine g_iload_n 227 (gd rfl) rfl rfl ?_
        refine g_iaload 228 (gd rfl) rfl (n := 32) rfl (in_ix j66_2 rfl) (fun z227 e227 => ?_)
        have n228 : WIR s sc66 x1 x2 z227 := by have h9 := g66_0; rw [show (y66_3).toNatClampNeg = (s.2.2.1 109 20).toInt.toNat from (by show (y66_3).toInt.toNat = _; rw [← e_109_20]; exact (have a0 := in_u j66_2; have a1 := in_u j66_1; have a2 := in_u ro_109_20; have a3 := in_u ro_109_19; have a4 := in_u j66_3; have oc := oc_317_109; by omega))] at h9; exact Or.inr ⟨g66_1, ⟨⟨by exact (have a0 := in_u j66_2; have a1 := in_u j66_1; have a2 := in_u ro_109_20; have a3 := in_u ro_109_19; have a4 := in_u j66_3; have oc := oc_317_109; by omega), g66_2.1⟩, ⟨by exact (have a0 := in_u j66_2; have a1 := in_u j66_1; have a2 := in_u ro_109_20; have a3 := in_u ro_109_19; have a4 := in_u j66_3; have oc := oc_317_109; by omega), g66_2.2⟩⟩, wds_r h9 (arz_e hI) (by have h8 := g66_2.2; show (x2).toInt.toNat < _; rw [← e_109_20] at h8 ⊢; exact (have a0 := in_u j66_2; have a1 := in_u j66_1; have a2 := in_u ro_109_20; have a3 := in_u ro_109_19; have a4 := in_u j66_3; have oc := oc_317_109; by omega)) e227⟩
        exact g_ireturn (gd rfl) rfl rfl (hP _ _ ⟨sc66, hIc66, hFc66, z227, rfl, rfl, in_w (-2147483648) 2147483647 (i_rng z227) rfl, n228⟩)
      · skip
        have i71 := r_lt1 0 31 c71 j66_3 ro_109_20 rfl
        have i71a := r_lt2 1 32 c71 j66_3 ro_109_20 rfl
        refine g_aload_n 75 (gd rfl) rfl rfl ?_
        refine g_getI 78 (gd rfl) rfl rfl rfl (fun z75 e75 => ?_)
        have q75 : u_109_19 = z75 := (fr_F e_109_19 hFc66 rfl).trans e75.symm
        subst q75
        refine g_istore 80 (gd rfl) rfl (Nat.le_of_ble_eq_true rfl) ?_
        have n80 : (u_109_19).toInt ≤ (u_109_19).toInt := by exact (have a0 := in_u j66_2; have a1 := in_u j66_1; have a2 := in_u i71a; have a3 := in_u ro_109_19; have a4 := in_u i71; have oc := oc_317_109; by omega)
        have n80a : (u_109_19).toInt ≤ (u_109_19).toInt + 160 := by exact (have a0 := in_u j66_2; have a1 := in_u j66_1; have a2 := in_u i71a; have a3 := in_u ro_109_19; have a4 := in_u i71; have oc := oc_317_109; by omega)
        have n80b : (y66_3).toInt < (u_109_20).toInt := by exact (have a0 := in_u j66_2; have a1 := in_u j66_1; have a2 := in_u i71a; have a3 := in_u ro_109_19; have a4 := in_u i71; have oc := oc_317_109; by omega)
        have n80c : WDW (gvZ s) (x1).toNatClampNeg (s.2.2.1 109 20).toInt.toNat (y66_3).toNatClampNeg ((u_109_19).toInt - (u_109_19).toInt).toNat ((sc66).1 133) := by rw [show ((u_109_19).toInt - (u_109_19).toInt).toNat = 0 from (by omega)]; exact wdw_0 g66_0
        have n80d : ((sc66).2.2.1 109 0).toInt = 0 := by exact g66_1
        exact gg_w (by first | exact Nat.le_add_right _ _ | exact gw2 | exact gw3 | exact gwe rfl | exact gwf rfl | exact gwg rfl | exact gwh rfl | omega) (gg_f (gf_cons rfl (gf_cons rfl (gf_cons rfl (gf_cons rfl (gf_cons rfl gf_nil))))) (ct80 401 sc66 u_109_19 hIc66 hFc66 (in_w 0 31 i71 rfl) (in_w 0 400 ro_109_19 rfl) n80 n80a n80b n80c n80d (m_in 401 (in_w 0 400 ro_109_19 rfl) rfl)))
  have ct32 : ∀ (k32 : Nat) (sc32 : GS) (y32_3 : Int32), Inv sc32 → Fr fm_317 s sc32 → (In x1 0 31) → (In x2 0 31) → (In y32_3 0 32) → ((∀ v : Nat, (v : Int) < (y32_3).toInt → (((sc32).1 133 v)).toInt = if v = (x1).toNatClampNeg then 1000001 else -1)) → (((sc32).2.2.1 109 0).toInt = 0) → (((x1).toInt < (s.2.2.1 109 20).toInt ∧ (x2).toInt < (s.2.2.1 109 20).toInt)) → 32 - (y32_3).toInt < (k32 : Int) → GG Z (d - 1) 317 post (gx xp) (11998835 + k32 * 900) 32 (fun j => xlook j [(0, .ref (A 109)), (1, .int x1), (2, .int x2), (3, .int y32_3)]) [] (WW Z A sc32 ++ ex) 0 0 := by
    intro k32
    induction k32 with
    | zero => intro sc32 y32_3 hIc32 hFc32 j32_1 j32_2 j32_3 g32_0 g32_1 g32_2 mm32; exact m_no mm32 j32_3 rfl
    | succ k32 ih32 =>
      intro sc32 y32_3 hIc32 hFc32 j32_1 j32_2 j32_3 g32_0 g32_1 g32_2 mm32
      refine gg_w (M := 11998835 + k32 * 900 + 900) gws ?_
      refine g_iload_n 33 (gd rfl) rfl rfl ?_
      refine g_aload_n 34 (gd rfl) rfl rfl ?_
      refine g_getI 37 (gd rfl) rfl rfl rfl (fun z34 e34 => ?_)
      have q34 : u_109_20 = z34 := (fr_F e_109_20 hFc32 rfl).trans e34.symm
      subst q34
      refine g_cmp_ge 40 64 (gd rfl) rfl rfl (fun c37 => ?_) (fun c37 => ?_)
      · skip
        refine g_iconst 0 65 (gd rfl) rfl rfl ?_
        refine g_istore_n 66 (gd rfl) rfl (Nat.le_of_ble_eq_true rfl) ?_
        have n66 : ((Int32.ofInt 0)).toInt ≤ (u_109_20).toInt := by exact (have a0 := in_u j32_2; have a1 := in_u j32_1; have a2 := in_u ro_109_20; have a3 := in_u ro_109_19; have a4 := in_u j32_3; have a5 := in_u ((in_c 0 rfl)); have oc := oc_317_109; by omega)
        have n66a : WDV (gvZ s) (x1).toNatClampNeg (s.2.2.1 109 20).toInt.toNat ((Int32.ofInt 0)).toNatClampNeg ((sc32).1 133) := by exact wdv_0 (fun v hv => g32_0 v (by rw [← e_109_20] at hv; exact (have a0 := in_u j32_2; have a1 := in_u j32_1; have a2 := in_u ro_109_20; have a3 := in_u ro_109_19; have a4 := in_u j32_3; have a5 := in_u ((in_c 0 rfl)); have oc := oc_317_109; by omega)))
        have n66b : ((sc32).2.2.1 109 0).toInt = 0 := by exact g32_1
        have n66c : ((x1).toInt < (s.2.2.1 109 20).toInt ∧ (x2).toInt < (s.2.2.1 109 20).toInt) := by exact g32_2
        exact gg_w (by first | exact Nat.le_add_right _ _ | exact gw2 | exact gw3 | exact gwe rfl | exact gwf rfl | exact gwg rfl | exact gwh rfl | omega) (gg_f (gf_cons rfl (gf_cons rfl (gf_cons rfl (gf_cons rfl gf_nil)))) (ct66 33 sc32 (Int32.ofInt 0) hIc32 hFc32 (in_w 0 31 j32_1 rfl) (in_w 0 31 j32_2 rfl) (in_w 0 32 (in_c 0 rfl) rfl) n66 n66a n66b n66c (m_in 33 (in_w 0 32 (in_c 0 rfl) rfl) rfl)))
      · skip
        have i37 := r_lt1 0 31 c37 j32_3 ro_109_20 rfl
        have i37a := r_lt2 1 32 c37 j32_3 ro_109_20 rfl
        refine g_aload_n 41 (gd rfl) rfl rfl ?_
        refine g_getA (q2 := 133) 44 (gd rfl) rfl rfl rfl rfl ?_
        refine g_iload_n 45 (gd rfl) rfl rfl ?_
        refine g_iload_n 46 (gd rfl) rfl rfl ?_
        refine g_iload_n 47 (gd rfl) rfl rfl ?_
        refine g_cmp_ne 50 56 (gd rfl) rfl rfl (fun c47 => ?_) (fun c47 => ?_)
        · skip
          refine g_iconst (-1) 57 (gd rfl) rfl rfl ?_
          refine g_iastore 58 (gd rfl) rfl (n := 32) rfl (in_ix i37 rfl) ?_
          have hI57 := inv_sI (q := 133) (j := y32_3.toNatClampNeg) hIc32 rfl (in_w (-2147483648) 2147483647 (in_c (-1) rfl) rfl)
          refine g_iinc 61 (gd rfl) rfl rfl (Nat.le_of_ble_eq_true rfl) (fun z58 e58 => ?_)
          have i58 := in_add 1 32 e58 i37 (in_c 1 rfl) rfl rfl
          refine g_goto 32 (gd rfl) rfl ?_
          have n32 : (∀ v : Nat, (v : Int) < (z58).toInt → ((((sI sc32 133 y32_3.toNatClampNeg (Int32.ofInt (-1)))).1 133 v)).toInt = if v = (x1).toNatClampNeg then 1000001 else -1) := by first | (intro v hv; by_cases c : v = (y32_3).toNatClampNeg; (rw [c, sI_q, up_e]; rw [if_pos (show (y32_3).toNatClampNeg = (x1).toNatClampNeg from (by show (y32_3).toInt.toNat = (x1).toInt.toNat; exact (have a0 := in_u j32_2; have a1 := in_u j32_1; have a2 := in_u i37a; have a3 := in_u ro_109_19; have a4 := in_u i37; have a5 := in_u i58; have a6 := t_add e58 i37 (in_c 1 rfl) rfl; have a7 := in_u ((in_c 1 rfl)); have oc := oc_317_109; by omega)))]; rfl); (rw [sI_q, up_n c]; exact g32_0 v (by have e3 : (y32_3).toNatClampNeg = (y32_3).toInt.toNat := rfl; exact (have a0 := in_u j32_2; have a1 := in_u j32_1; have a2 := in_u i37a; have a3 := in_u ro_109_19; have a4 := in_u i37; have a5 := in_u i58; have a6 := t_add e58 i37 (in_c 1 rfl) rfl; have a7 := in_u ((in_c 1 rfl)); have oc := oc_317_109; by omega)))) | (intro v hv; by_cases c : v = (y32_3).toNatClampNeg; (rw [c, sI_q, up_e]; rw [if_neg (show ¬ (y32_3).toNatClampNeg = (x1).toNatClampNeg from (by show ¬ (y32_3).toInt.toNat = (x1).toInt.toNat; exact (have a0 := in_u j32_2; have a1 := in_u j32_1; have a2 := in_u i37a; have a3 := in_u ro_109_19; have a4 := in_u i37; have a5 := in_u i58; have a6 := t_add e58 i37 (in_c 1 rfl) rfl; have a7 := in_u ((in_c 1 rfl)); have oc := oc_317_109; by omega)))]; rfl); (rw [sI_q, up_n c]; exact g32_0 v (by have e3 : (y32_3).toNatClampNeg = (y32_3).toInt.toNat := rfl; exact (have a0 := in_u j32_2; have a1 := in_u j32_1; have a2 := in_u i37a; have a3 := in_u ro_109_19; have a4 := in_u i37; have a5 := in_u i58; have a6 := t_add e58 i37 (in_c 1 rfl) rfl; have a7 := in_u ((in_c 1 rfl)); have oc := oc_317_109; by omega))))
          have n32a : (((sI sc32 133 y32_3.toNatClampNeg (Int32.ofInt (-1)))).2.2.1 109 0).toInt = 0 := by exact g32_1
          have n32b : ((x1).toInt < (s.2.2.1 109 20).toInt ∧ (x2).toInt < (s.2.2.1 109 20).toInt) := by exact g32_2
          exact gg_w (by first | exact Nat.le_add_right _ _ | exact gw2 | exact gw3 | exact gwe rfl | exact gwf rfl | exact gwg rfl | exact gwh rfl | omega) (gg_f (gf_cons rfl (gf_cons rfl (gf_cons rfl (gf_cons rfl gf_nil)))) (ih32 (sI sc32 133 y32_3.toNatClampNeg (Int32.ofInt (-1))) z58 hI57 (fr_sI rfl hFc32) (in_w 0 31 j32_1 rfl) (in_w 0 31 j32_2 rfl) (in_w 0 32 i58 rfl) n32 n32a n32b (m_up mm32 (t_add e58 i37 (in_c 1 rfl) rfl) (in_w 1 1 (in_c 1 rfl) rfl))))
        · skip
          refine g_ldc_w 1000001 53 (gd rfl) rfl rfl ?_
          refine g_goto 57 (gd rfl) rfl ?_
          refine g_iastore 58 (gd rfl) rfl (n := 32) rfl (in_ix i37 rfl) ?_
          have hI57 := inv_sI (q := 133) (j := y32_3.toNatClampNeg) hIc32 rfl (in_w (-2147483648) 2147483647 (in_c 1000001 rfl) rfl)
          refine g_iinc 61 (gd rfl) rfl rfl (Nat.le_of_ble_eq_true rfl) (fun z58 e58 => ?_)
          have i58 := in_add 1 32 e58 i37 (in_c 1 rfl) rfl rfl
          refine g_goto 32 (gd rfl) rfl ?_
          have n32 : (∀ v : Nat, (v : Int) < (z58).toInt → ((((sI sc32 133 y32_3.toNatClampNeg (Int32.ofInt 1000001))).1 133 v)).toInt = if v = (x1).toNatClampNeg then 1000001 else -1) := by first | (intro v hv; by_cases c : v = (y32_3).toNatClampNeg; (rw [c, sI_q, up_e]; rw [if_pos (show (y32_3).toNatClampNeg = (x1).toNatClampNeg from (by show (y32_3).toInt.toNat = (x1).toInt.toNat; exact (have a0 := in_u j32_2; have a1 := in_u j32_1; have a2 := in_u i37a; have a3 := in_u ro_109_19; have a4 := in_u i37; have a5 := in_u i58; have a6 := t_add e58 i37 (in_c 1 rfl) rfl; have a7 := in_u ((in_c 1 rfl)); have oc := oc_317_109; by omega)))]; rfl); (rw [sI_q, up_n c]; exact g32_0 v (by have e3 : (y32_3).toNatClampNeg = (y32_3).toInt.toNat := rfl; exact (have a0 := in_u j32_2; have a1 := in_u j32_1; have a2 := in_u i37a; have a3 := in_u ro_109_19; have a4 := in_u i37; have a5 := in_u i58; have a6 := t_add e58 i37 (in_c 1 rfl) rfl; have a7 := in_u ((in_c 1 rfl)); have oc := oc_317_109; by omega)))) | (intro v hv; by_cases c : v = (y32_3).toNatClampNeg; (rw [c, sI_q, up_e]; rw [if_neg (show ¬ (y32_3).toNatClampNeg = (x1).toNatClampNeg from (by show ¬ (y32_3).toInt.toNat = (x1).toInt.toNat; exact (have a0 := in_u j32_2; have a1 := in_u j32_1; have a2 := in_u i37a; have a3 := in_u ro_109_19; have a4 := in_u i37; have a5 := in_u i58; have a6 := t_add e58 i37 (in_c 1 rfl) rfl; have a7 := in_u ((in_c 1 rfl)); have oc := oc_317_109; by omega)))]; rfl); (rw [sI_q, up_n c]; exact g32_0 v (by have e3 : (y32_3).toNatClampNeg = (y32_3).toInt.toNat := rfl; exact (have a0 := in_u j32_2; have a1 := in_u j32_1; have a2 := in_u i37a; have a3 := in_u ro_109_19; have a4 := in_u i37; have a5 := in_u i58; have a6 := t_add e58 i37 (in_c 1 rfl) rfl; have a7 := in_u ((in_c 1 rfl)); have oc := oc_317_109; by omega))))
          have n32a : (((sI sc32 133 y32_3.toNatClampNeg (Int32.ofInt 1000001))).2.2.1 109 0).toInt = 0 := by exact g32_1
          have n32b : ((x1).toInt < (s.2.2.1 109 20).toInt ∧ (x2).toInt < (s.2.2.1 109 20).toInt) := by exact g32_2
          exact gg_w (by first | exact Nat.le_add_right _ _ | exact gw2 | exact gw3 | exact gwe rfl | exact gwf rfl | exact gwg rfl | exact gwh rfl | omega) (gg_f (gf_cons rfl (gf_cons rfl (gf_cons rfl (gf_cons rfl gf_nil)))) (ih32 (sI sc32 133 y32_3.toNatClampNeg (Int32.ofInt 1000001)) z58 hI57 (fr_sI rfl hFc32) (in_w 0 31 j32_1 rfl) (in_w 0 31 j32_2 rfl) (in_w 0 32 i58 rfl) n32 n32a n32b (m_up mm32 (t_add e58 i37 (in_c 1 rfl) rfl) (in_w 1 1 (in_c 1 rfl) rfl))))
  refine g_enter2 (k := 317) (N := 12029435) (by first | exact dq1 hd rfl | exact dq0 hd rfl | exact dq2 hd rfl | exact dq3 hd rfl | omega) rfl (Nat.le_of_ble_eq_true rfl) ?_
  refine g_aload_n 1 (gd rfl) rfl rfl ?_
  refine g_aload_n 2 (gd rfl) rfl rfl ?_
  refine g_iload_n 3 (gd rfl) rfl rfl ?_
  refine g_callv (X := _) (As := [.int x1]) (r := [.ref (A 109)]) (b := A 109) (q := 109) 6 (gd rfl) rfl rfl rfl rfl rfl (ww_o rfl) (Nat.le_of_ble_eq_true rfl) (mc := 0) (ms := 0) (Nat.zero_le _) (Nat.zero_le _) (P := fun v u => _) ?_ (fun e u h => h) (fun v u h => h)
  intro po3 xx3 hp3 hx3
  refine g_enter2 (k := 272) (N := 300) (by first | exact dq1 hd rfl | exact dq0 hd rfl | exact dq2 hd rfl | exact dq3 hd rfl | omega) rfl (Nat.le_of_ble_eq_true rfl) ?_
  refine g_iload_n 1 (gd rfl) rfl rfl ?_
  refine g_if_lt 4 16 (gd rfl) rfl rfl (fun c3x1 => ?_) (fun c3x1 => ?_)
  · skip
    have i3x1 := z_lt (-2147483648) (-1) c3x1 (i_rng x1) rfl
    refine g_iconst 0 17 (gd rfl) rfl rfl ?_
    refine g_ireturn (gd rfl) rfl (nb01 (in_w 0 1 (in_c 0 rfl) rfl)) (hp3 _ _ ?_)
    show GG _ _ _ _ _ _ _ _ [.int (Int32.ofInt 0), .ref (A 109)] _ _ _
    refine g_if_eq 9 21 (gd rfl) rfl rfl (fun c6 => ?_) (fun c6 => ?_)
    · skip
      refine g_iconst 0 22 (gd rfl) rfl rfl ?_
      refine g_callv (X := _) (As := [.int (Int32.ofInt 0)]) (r := []) (b := A 109) (q := 109) 25 (gd rfl) rfl rfl rfl rfl rfl (ww_o rfl) (Nat.le_of_ble_eq_true rfl) (mc := 0) (ms := 0) (Nat.zero_le _) (Nat.zero_le _) (P := fun v u => _) ?_ (fun e u h => h) (fun v u h => h)
      intro po22 xx22 hp22 hx22
      refine g_enter2 (k := 271) (N := 300) (by first | exact dq1 hd rfl | exact dq0 hd rfl | exact dq2 hd rfl | exact dq3 hd rfl | omega) rfl (Nat.le_of_ble_eq_true rfl) ?_
      refine g_aload_n 1 (gd rfl) rfl rfl ?_
      refine g_iload_n 2 (gd rfl) rfl rfl ?_
      refine g_iconst 1 3 (gd rfl) rfl rfl ?_
      refine g_callv (X := _) (As := [.int (Int32.ofInt 0), .int (Int32.ofInt 1)]) (r := []) (b := A 109) (q := 109) 6 (gd rfl) rfl rfl rfl rfl rfl (ww_o rfl) (Nat.le_of_ble_eq_true rfl) (mc := 0) (ms := 0) (Nat.zero_le _) (Nat.zero_le _) (P := fun v u => _) ?_ (fun e u h => h) (fun v u h => h)
      intro po22x3 xx22x3 hp22x3 hx22x3
      refine g_enter2 (k := 270) (N := 300) (by first | exact dq1 hd rfl | exact dq0 hd rfl | exact dq2 hd rfl | exact dq3 hd rfl | omega) rfl (Nat.le_of_ble_eq_true rfl) ?_
      refine g_aload_n 1 (gd rfl) rfl rfl ?_
      refine g_iload_n 2 (gd rfl) rfl rfl ?_
      refine g_if_ne 5 9 (gd rfl) rfl rfl (fun c22x3x2 => ?_) (fun c22x3x2 => ?_)
      · skip
        exact zn_ne c22x3x2 (in_c 0 rfl) rfl
      · skip
        refine g_iconst 1 6 (gd rfl) rfl rfl ?_
        refine g_goto 18 (gd rfl) rfl ?_
        refine g_putI 21 (gd rfl) rfl rfl rfl rfl ?_
        have hI22x3x18 := inv_sF (q := 109) (j := 0) hI rfl (in_w 0 2 (in_c 1 rfl) rfl)
        refine g_aload_n 22 (gd rfl) rfl rfl ?_
        refine g_getI 25 (gd rfl) rfl rfl rfl (fun z22x3x22 e22x3x22 => ?_)
        have q22x3x22 : (Int32.ofInt 1) = z22x3x22 := (sF_get).trans e22x3x22.symm
        subst q22x3x22
        refine g_if_le 28 32 (gd rfl) rfl rfl (fun c22x3x25 => ?_) (fun c22x3x25 => ?_)
        · skip
          exact zn_le c22x3x25 (in_c 1 rfl) rfl
        · skip
          refine g_iconst 1 29 (gd rfl) rfl rfl ?_
          refine g_goto 33 (gd rfl) rfl ?_
          refine g_ireturn (gd rfl) rfl (nb01 (in_w 0 1 (in_c 1 rfl) rfl)) (hp22x3 _ _ ?_)
          show GG _ _ _ _ _ _ _ _ [.int (Int32.ofInt 1)] _ _ _
          refine g_ireturn (gd rfl) rfl (nb01 (in_w 0 1 (in_c 1 rfl) rfl)) (hp22 _ _ ?_)
          show GG _ _ _ _ _ _ _ _ [.int (Int32.ofInt 1)] _ _ _
          refine g_if_eq 28 30 (gd rfl) rfl rfl (fun c25 => ?_) (fun c25 => ?_)
          · skip
            exact zn_eq c25 (in_c 1 rfl) rfl
          · skip
            refine g_iconst 0 29 (gd rfl) rfl rfl ?_
            have n29 : WIR s (sF s 109 0 (Int32.ofInt 1)) x1 x2 (Int32.ofInt 0) := by exact Or.inl ⟨rfl, by rw [← e_109_20]; exact (have a0 := in_u ro_109_20; have a1 := in_u ro_109_19; have a2 := in_u i3x1; have a3 := in_u ((in_c 1 rfl)); have oc := oc_317_109; by omega)⟩
            exact g_ireturn (gd rfl) rfl rfl (hP _ _ ⟨(sF s 109 0 (Int32.ofInt 1)), hI22x3x18, (fr_sF rfl fr_rf), (Int32.ofInt 0), rfl, rfl, in_w (-2147483648) 2147483647 (in_c 0 rfl) rfl, n29⟩)
    · skip
      exact zn_ne c6 (in_c 0 rfl) rfl
  · skip
    have i3x1 := z_ge 0 2147483647 c3x1 (i_rng x1) rfl
    refine g_iload_n 5 (gd rfl) rfl rfl ?_
    refine g_aload_n 6 (gd rfl) rfl rfl ?_
    refine g_getI 9 (gd rfl) rfl rfl rfl (fun z3x6 e3x6 => ?_)
    have q3x6 : u_109_20 = z3x6 := (e_109_20).trans e3x6.symm
    subst q3x6
    refine g_cmp_ge 12 16 (gd rfl) rfl rfl (fun c3x9 => ?_) (fun c3x9 => ?_)
    · skip
      refine g_iconst 0 17 (gd rfl) rfl rfl ?_
      refine g_ireturn (gd rfl) rfl (nb01 (in_w 0 1 (in_c 0 rfl) rfl)) (hp3 _ _ ?_)
      show GG _ _ _ _ _ _ _ _ [.int (Int32.ofInt 0), .ref (A 109)] _ _ _
      refine g_if_eq 9 21 (gd rfl) rfl rfl (fun c6 => ?_) (fun c6 => ?_)
      · skip
        refine g_iconst 0 22 (gd rfl) rfl rfl ?_
        refine g_callv (X := _) (As := [.int (Int32.ofInt 0)]) (r := []) (b := A 109) (q := 109) 25 (gd rfl) rfl rfl rfl rfl rfl (ww_o rfl) (Nat.le_of_ble_eq_true rfl) (mc := 0) (ms := 0) (Nat.zero_le _) (Nat.zero_le _) (P := fun v u => _) ?_ (fun e u h => h) (fun v u h => h)
        intro po22 xx22 hp22 hx22
        refine g_enter2 (k := 271) (N := 300) (by first | exact dq1 hd rfl | exact dq0 hd rfl | exact dq2 hd rfl | exact dq3 hd rfl | omega) rfl (Nat.le_of_ble_eq_true rfl) ?_
        refine g_aload_n 1 (gd rfl) rfl rfl ?_
        refine g_iload_n 2 (gd rfl) rfl rfl ?_
        refine g_iconst 1 3 (gd rfl) rfl rfl ?_
        refine g_callv (X := _) (As := [.int (Int32.ofInt 0), .int (Int32.ofInt 1)]) (r := []) (b := A 109) (q := 109) 6 (gd rfl) rfl rfl rfl rfl rfl (ww_o rfl) (Nat.le_of_ble_eq_true rfl) (mc := 0) (ms := 0) (Nat.zero_le _) (Nat.zero_le _) (P := fun v u => _) ?_ (fun e u h => h) (fun v u h => h)
        intro po22x3 xx22x3 hp22x3 hx22x3
        refine g_enter2 (k := 270) (N := 300) (by first | exact dq1 hd rfl | exact dq0 hd rfl | exact dq2 hd rfl | exact dq3 hd rfl | omega) rfl (Nat.le_of_ble_eq_true rfl) ?_
        refine g_aload_n 1 (gd rfl) rfl rfl ?_
        refine g_iload_n 2 (gd rfl) rfl rfl ?_
        refine g_if_ne 5 9 (gd rfl) rfl rfl (fun c22x3x2 => ?_) (fun c22x3x2 => ?_)
        · skip
          exact zn_ne c22x3x2 (in_c 0 rfl) rfl
        · skip
          refine g_iconst 1 6 (gd rfl) rfl rfl ?_
          refine g_goto 18 (gd rfl) rfl ?_
          refine g_putI 21 (gd rfl) rfl rfl rfl rfl ?_
          have hI22x3x18 := inv_sF (q := 109) (j := 0) hI rfl (in_w 0 2 (in_c 1 rfl) rfl)
          refine g_aload_n 22 (gd rfl) rfl rfl ?_
          refine g_getI 25 (gd rfl) rfl rfl rfl (fun z22x3x22 e22x3x22 => ?_)
          have q22x3x22 : (Int32.ofInt 1) = z22x3x22 := (sF_get).trans e22x3x22.symm
          subst q22x3x22
          refine g_if_le 28 32 (gd rfl) rfl rfl (fun c22x3x25 => ?_) (fun c22x3x25 => ?_)
          · skip
            exact zn_le c22x3x25 (in_c 1 rfl) rfl
          · skip
            refine g_iconst 1 29 (gd rfl) rfl rfl ?_
            refine g_goto 33 (gd rfl) rfl ?_
            refine g_ireturn (gd rfl) rfl (nb01 (in_w 0 1 (in_c 1 rfl) rfl)) (hp22x3 _ _ ?_)
            show GG _ _ _ _ _ _ _ _ [.int (Int32.ofInt 1)] _ _ _
            refine g_ireturn (gd rfl) rfl (nb01 (in_w 0 1 (in_c 1 rfl) rfl)) (hp22 _ _ ?_)
            show GG _ _ _ _ _ _ _ _ [.int (Int32.ofInt 1)] _ _ _
            refine g_if_eq 28 30 (gd rfl) rfl rfl (fun c25 => ?_) (fun c25 => ?_)
            · skip
              exact zn_eq c25 (in_c 1 rfl) rfl
            · skip
              refine g_iconst 0 29 (gd rfl) rfl rfl ?_
              have n29 : WIR s (sF s 109 0 (Int32.ofInt 1)) x1 x2 (Int32.ofInt 0) := by exact Or.inl ⟨rfl, by rw [← e_109_20]; exact (have a0 := in_u ro_109_20; have a1 := in_u ro_109_19; have a2 := in_u i3x1; have a3 := in_u ((in_c 1 rfl)); have oc := oc_317_109; by omega)⟩
              exact g_ireturn (gd rfl) rfl rfl (hP _ _ ⟨(sF s 109 0 (Int32.ofInt 1)), hI22x3x18, (fr_sF rfl fr_rf), (Int32.ofInt 0), rfl, rfl, in_w (-2147483648) 2147483647 (in_c 0 rfl) rfl, n29⟩)
      · skip
        exact zn_ne c6 (in_c 0 rfl) rfl
    · skip
      have i3x9 := r_lt1 0 31 c3x9 i3x1 ro_109_20 rfl
      have i3x9a := r_lt2 1 32 c3x9 i3x1 ro_109_20 rfl
      refine g_iconst 1 13 (gd rfl) rfl rfl ?_
      refine g_goto 17 (gd rfl) rfl ?_
      refine g_ireturn (gd rfl) rfl (nb01 (in_w 0 1 (in_c 1 rfl) rfl)) (hp3 _ _ ?_)
      show GG _ _ _ _ _ _ _ _ [.int (Int32.ofInt 1), .ref (A 109)] _ _ _
      refine g_if_eq 9 21 (gd rfl) rfl rfl (fun c6 => ?_) (fun c6 => ?_)
      · skip
        exact zn_eq c6 (in_c 1 rfl) rfl
      · skip
        refine g_aload_n 10 (gd rfl) rfl rfl ?_
        refine g_iload_n 11 (gd rfl) rfl rfl ?_
        refine g_callv (X := _) (As := [.int x2]) (r := [.ref (A 109)]) (b := A 109) (q := 109) 14 (gd rfl) rfl rfl rfl rfl rfl (ww_o rfl) (Nat.le_of_ble_eq_true rfl) (mc := 0) (ms := 0) (Nat.zero_le _) (Nat.zero_le _) (P := fun v u => _) ?_ (fun e u h => h) (fun v u h => h)
        intro po11 xx11 hp11 hx11
        refine g_enter2 (k := 272) (N := 300) (by first | exact dq1 hd rfl | exact dq0 hd rfl | exact dq2 hd rfl | exact dq3 hd rfl | omega) rfl (Nat.le_of_ble_eq_true rfl) ?_
        refine g_iload_n 1 (gd rfl) rfl rfl ?_
        refine g_if_lt 4 16 (gd rfl) rfl rfl (fun c11x1 => ?_) (fun c11x1 => ?_)
        · skip
          have i11x1 := z_lt (-2147483648) (-1) c11x1 (i_rng x2) rfl
          refine g_iconst 0 17 (gd rfl) rfl rfl ?_
          refine g_ireturn (gd rfl) rfl (nb01 (in_w 0 1 (in_c 0 rfl) rfl)) (hp11 _ _ ?_)
          show GG _ _ _ _ _ _ _ _ [.int (Int32.ofInt 0), .ref (A 109)] _ _ _
          refine g_if_eq 17 21 (gd rfl) rfl rfl (fun c14 => ?_) (fun c14 => ?_)
          · skip
            refine g_iconst 0 22 (gd rfl) rfl rfl ?_
            refine g_callv (X := _) (As := [.int (Int32.ofInt 0)]) (r := []) (b := A 109) (q := 109) 25 (gd rfl) rfl rfl rfl rfl rfl (ww_o rfl) (Nat.le_of_ble_eq_true rfl) (mc := 0) (ms := 0) (Nat.zero_le _) (Nat.zero_le _) (P := fun v u => _) ?_ (fun e u h => h) (fun v u h => h)
            intro po22 xx22 hp22 hx22
            refine g_enter2 (k := 271) (N := 300) (by first | exact dq1 hd rfl | exact dq0 hd rfl | exact dq2 hd rfl | exact dq3 hd rfl | omega) rfl (Nat.le_of_ble_eq_true rfl) ?_
            refine g_aload_n 1 (gd rfl) rfl rfl ?_
            refine g_iload_n 2 (gd rfl) rfl rfl ?_
            refine g_iconst 1 3 (gd rfl) rfl rfl ?_
            refine g_callv (X := _) (As := [.int (Int32.ofInt 0), .int (Int32.ofInt 1)]) (r := []) (b := A 109) (q := 109) 6 (gd rfl) rfl rfl rfl rfl rfl (ww_o rfl) (Nat.le_of_ble_eq_true rfl) (mc := 0) (ms := 0) (Nat.zero_le _) (Nat.zero_le _) (P := fun v u => _) ?_ (fun e u h => h) (fun v u h => h)
            intro po22x3 xx22x3 hp22x3 hx22x3
            refine g_enter2 (k := 270) (N := 300) (by first | exact dq1 hd rfl | exact dq0 hd rfl | exact dq2 hd rfl | exact dq3 hd rfl | omega) rfl (Nat.le_of_ble_eq_true rfl) ?_
            refine g_aload_n 1 (gd rfl) rfl rfl ?_
            refine g_iload_n 2 (gd rfl) rfl rfl ?_
            refine g_if_ne 5 9 (gd rfl) rfl rfl (fun c22x3x2 => ?_) (fun c22x3x2 => ?_)
            · skip
              exact zn_ne c22x3x2 (in_c 0 rfl) rfl
            · skip
              refine g_iconst 1 6 (gd rfl) rfl rfl ?_
              refine g_goto 18 (gd rfl) rfl ?_
              refine g_putI 21 (gd rfl) rfl rfl rfl rfl ?_
              have hI22x3x18 := inv_sF (q := 109) (j := 0) hI rfl (in_w 0 2 (in_c 1 rfl) rfl)
              refine g_aload_n 22 (gd rfl) rfl rfl ?_
              refine g_getI 25 (gd rfl) rfl rfl rfl (fun z22x3x22 e22x3x22 => ?_)
              have q22x3x22 : (Int32.ofInt 1) = z22x3x22 := (sF_get).trans e22x3x22.symm
              subst q22x3x22
              refine g_if_le 28 32 (gd rfl) rfl rfl (fun c22x3x25 => ?_) (fun c22x3x25 => ?_)
              · skip
                exact zn_le c22x3x25 (in_c 1 rfl) rfl
              · skip
                refine g_iconst 1 29 (gd rfl) rfl rfl ?_
                refine g_goto 33 (gd rfl) rfl ?_
                refine g_ireturn (gd rfl) rfl (nb01 (in_w 0 1 (in_c 1 rfl) rfl)) (hp22x3 _ _ ?_)
                show GG _ _ _ _ _ _ _ _ [.int (Int32.ofInt 1)] _ _ _
                refine g_ireturn (gd rfl) rfl (nb01 (in_w 0 1 (in_c 1 rfl) rfl)) (hp22 _ _ ?_)
                show GG _ _ _ _ _ _ _ _ [.int (Int32.ofInt 1)] _ _ _
                refine g_if_eq 28 30 (gd rfl) rfl rfl (fun c25 => ?_) (fun c25 => ?_)
                · skip
                  exact zn_eq c25 (in_c 1 rfl) rfl
                · skip
                  refine g_iconst 0 29 (gd rfl) rfl rfl ?_
                  have n29 : WIR s (sF s 109 0 (Int32.ofInt 1)) x1 x2 (Int32.ofInt 0) := by exact Or.inl ⟨rfl, by rw [← e_109_20]; exact (have a0 := in_u i3x9; have a1 := in_u i3x9a; have a2 := in_u ro_109_19; have a3 := in_u i11x1; have a4 := in_u ((in_c 1 rfl)); have oc := oc_317_109; by omega)⟩
                  exact g_ireturn (gd rfl) rfl rfl (hP _ _ ⟨(sF s 109 0 (Int32.ofInt 1)), hI22x3x18, (fr_sF rfl fr_rf), (Int32.ofInt 0), rfl, rfl, in_w (-2147483648) 2147483647 (in_c 0 rfl) rfl, n29⟩)
          · skip
            exact zn_ne c14 (in_c 0 rfl) rfl
        · skip
          have i11x1 := z_ge 0 2147483647 c11x1 (i_rng x2) rfl
          refine g_iload_n 5 (gd rfl) rfl rfl ?_
          refine g_aload_n 6 (gd rfl) rfl rfl ?_
          refine g_getI 9 (gd rfl) rfl rfl rfl (fun z11x6 e11x6 => ?_)
          have q11x6 : u_109_20 = z11x6 := (e_109_20).trans e11x6.symm
          subst q11x6
          refine g_cmp_ge 12 16 (gd rfl) rfl rfl (fun c11x9 => ?_) (fun c11x9 => ?_)
          · skip
            have i11x9 := r_le2 1 2147483647 c11x9 i3x9a i11x1 rfl
            refine g_iconst 0 17 (gd rfl) rfl rfl ?_
            refine g_ireturn (gd rfl) rfl (nb01 (in_w 0 1 (in_c 0 rfl) rfl)) (hp11 _ _ ?_)
            show GG _ _ _ _ _ _ _ _ [.int (Int32.ofInt 0), .ref (A 109)] _ _ _
            refine g_if_eq 17 21 (gd rfl) rfl rfl (fun c14 => ?_) (fun c14 => ?_)
            · skip
              refine g_iconst 0 22 (gd rfl) rfl rfl ?_
              refine g_callv (X := _) (As := [.int (Int32.ofInt 0)]) (r := []) (b := A 109) (q := 109) 25 (gd rfl) rfl rfl rfl rfl rfl (ww_o rfl) (Nat.le_of_ble_eq_true rfl) (mc := 0) (ms := 0) (Nat.zero_le _) (Nat.zero_le _) (P := fun v u => _) ?_ (fun e u h => h) (fun v u h => h)
              intro po22 xx22 hp22 hx22
              refine g_enter2 (k := 271) (N := 300) (by first | exact dq1 hd rfl | exact dq0 hd rfl | exact dq2 hd rfl | exact dq3 hd rfl | omega) rfl (Nat.le_of_ble_eq_true rfl) ?_
              refine g_aload_n 1 (gd rfl) rfl rfl ?_
              refine g_iload_n 2 (gd rfl) rfl rfl ?_
              refine g_iconst 1 3 (gd rfl) rfl rfl ?_
              refine g_callv (X := _) (As := [.int (Int32.ofInt 0), .int (Int32.ofInt 1)]) (r := []) (b := A 109) (q := 109) 6 (gd rfl) rfl rfl rfl rfl rfl (ww_o rfl) (Nat.le_of_ble_eq_true rfl) (mc := 0) (ms := 0) (Nat.zero_le _) (Nat.zero_le _) (P := fun v u => _) ?_ (fun e u h => h) (fun v u h => h)
              intro po22x3 xx22x3 hp22x3 hx22x3
              refine g_enter2 (k := 270) (N := 300) (by first | exact dq1 hd rfl | exact dq0 hd rfl | exact dq2 hd rfl | exact dq3 hd rfl | omega) rfl (Nat.le_of_ble_eq_true rfl) ?_
              refine g_aload_n 1 (gd rfl) rfl rfl ?_
              refine g_iload_n 2 (gd rfl) rfl rfl ?_
              refine g_if_ne 5 9 (gd rfl) rfl rfl (fun c22x3x2 => ?_) (fun c22x3x2 => ?_)
              · skip
                exact zn_ne c22x3x2 (in_c 0 rfl) rfl
              · skip
                refine g_iconst 1 6 (gd rfl) rfl rfl ?_
                refine g_goto 18 (gd rfl) rfl ?_
                refine g_putI 21 (gd rfl) rfl rfl rfl rfl ?_
                have hI22x3x18 := inv_sF (q := 109) (j := 0) hI rfl (in_w 0 2 (in_c 1 rfl) rfl)
                refine g_aload_n 22 (gd rfl) rfl rfl ?_
                refine g_getI 25 (gd rfl) rfl rfl rfl (fun z22x3x22 e22x3x22 => ?_)
                have q22x3x22 : (Int32.ofInt 1) = z22x3x22 := (sF_get).trans e22x3x22.symm
                subst q22x3x22
                refine g_if_le 28 32 (gd rfl) rfl rfl (fun c22x3x25 => ?_) (fun c22x3x25 => ?_)
                · skip
                  exact zn_le c22x3x25 (in_c 1 rfl) rfl
                · skip
                  refine g_iconst 1 29 (gd rfl) rfl rfl ?_
                  refine g_goto 33 (gd rfl) rfl ?_
                  refine g_ireturn (gd rfl) rfl (nb01 (in_w 0 1 (in_c 1 rfl) rfl)) (hp22x3 _ _ ?_)
                  show GG _ _ _ _ _ _ _ _ [.int (Int32.ofInt 1)] _ _ _
                  refine g_ireturn (gd rfl) rfl (nb01 (in_w 0 1 (in_c 1 rfl) rfl)) (hp22 _ _ ?_)
                  show GG _ _ _ _ _ _ _ _ [.int (Int32.ofInt 1)] _ _ _
                  refine g_if_eq 28 30 (gd rfl) rfl rfl (fun c25 => ?_) (fun c25 => ?_)
                  · skip
                    exact zn_eq c25 (in_c 1 rfl) rfl
                  · skip
                    refine g_iconst 0 29 (gd rfl) rfl rfl ?_
                    have n29 : WIR s (sF s 109 0 (Int32.ofInt 1)) x1 x2 (Int32.ofInt 0) := by exact Or.inl ⟨rfl, by rw [← e_109_20]; exact (have a0 := in_u i3x9; have a1 := in_u i3x9a; have a2 := in_u ro_109_19; have a3 := in_u i11x9; have a4 := in_u ((in_c 1 rfl)); have oc := oc_317_109; by omega)⟩
                    exact g_ireturn (gd rfl) rfl rfl (hP _ _ ⟨(sF s 109 0 (Int32.ofInt 1)), hI22x3x18, (fr_sF rfl fr_rf), (Int32.ofInt 0), rfl, rfl, in_w (-2147483648) 2147483647 (in_c 0 rfl) rfl, n29⟩)
            · skip
              exact zn_ne c14 (in_c 0 rfl) rfl
          · skip
            have i11x9 := r_lt1 0 31 c11x9 i11x1 i3x9a rfl
            refine g_iconst 1 13 (gd rfl) rfl rfl ?_
            refine g_goto 17 (gd rfl) rfl ?_
            refine g_ireturn (gd rfl) rfl (nb01 (in_w 0 1 (in_c 1 rfl) rfl)) (hp11 _ _ ?_)
            show GG _ _ _ _ _ _ _ _ [.int (Int32.ofInt 1), .ref (A 109)] _ _ _
            refine g_if_eq 17 21 (gd rfl) rfl rfl (fun c14 => ?_) (fun c14 => ?_)
            · skip
              exact zn_eq c14 (in_c 1 rfl) rfl
            · skip
              refine g_iconst 1 18 (gd rfl) rfl rfl ?_
              refine g_goto 22 (gd rfl) rfl ?_
              refine g_callv (X := _) (As := [.int (Int32.ofInt 1)]) (r := []) (b := A 109) (q := 109) 25 (gd rfl) rfl rfl rfl rfl rfl (ww_o rfl) (Nat.le_of_ble_eq_true rfl) (mc := 0) (ms := 0) (Nat.zero_le _) (Nat.zero_le _) (P := fun v u => _) ?_ (fun e u h => h) (fun v u h => h)
              intro po22 xx22 hp22 hx22
              refine g_enter2 (k := 271) (N := 300) (by first | exact dq1 hd rfl | exact dq0 hd rfl | exact dq2 hd rfl | exact dq3 hd rfl | omega) rfl (Nat.le_of_ble_eq_true rfl) ?_
              refine g_aload_n 1 (gd rfl) rfl rfl ?_
              refine g_iload_n 2 (gd rfl) rfl rfl ?_
              refine g_iconst 1 3 (gd rfl) rfl rfl ?_
              refine g_callv (X := _) (As := [.int (Int32.ofInt 1), .int (Int32.ofInt 1)]) (r := []) (b := A 109) (q := 109) 6 (gd rfl) rfl rfl rfl rfl rfl (ww_o rfl) (Nat.le_of_ble_eq_true rfl) (mc := 0) (ms := 0) (Nat.zero_le _) (Nat.zero_le _) (P := fun v u => _) ?_ (fun e u h => h) (fun v u h => h)
              intro po22x3 xx22x3 hp22x3 hx22x3
              refine g_enter2 (k := 270) (N := 300) (by first | exact dq1 hd rfl | exact dq0 hd rfl | exact dq2 hd rfl | exact dq3 hd rfl | omega) rfl (Nat.le_of_ble_eq_true rfl) ?_
              refine g_aload_n 1 (gd rfl) rfl rfl ?_
              refine g_iload_n 2 (gd rfl) rfl rfl ?_
              refine g_if_ne 5 9 (gd rfl) rfl rfl (fun c22x3x2 => ?_) (fun c22x3x2 => ?_)
              · skip
                refine g_iload_n 10 (gd rfl) rfl rfl ?_
                refine g_if_ne 13 17 (gd rfl) rfl rfl (fun c22x3x10 => ?_) (fun c22x3x10 => ?_)
                · skip
                  refine g_iconst 0 18 (gd rfl) rfl rfl ?_
                  refine g_putI 21 (gd rfl) rfl rfl rfl rfl ?_
                  have hI22x3x18 := inv_sF (q := 109) (j := 0) hI rfl (in_w 0 2 (in_c 0 rfl) rfl)
                  refine g_aload_n 22 (gd rfl) rfl rfl ?_
                  refine g_getI 25 (gd rfl) rfl rfl rfl (fun z22x3x22 e22x3x22 => ?_)
                  have q22x3x22 : (Int32.ofInt 0) = z22x3x22 := (sF_get).trans e22x3x22.symm
                  subst q22x3x22
                  refine g_if_le 28 32 (gd rfl) rfl rfl (fun c22x3x25 => ?_) (fun c22x3x25 => ?_)
                  · skip
                    refine g_iconst 0 33 (gd rfl) rfl rfl ?_
                    refine g_ireturn (gd rfl) rfl (nb01 (in_w 0 1 (in_c 0 rfl) rfl)) (hp22x3 _ _ ?_)
                    show GG _ _ _ _ _ _ _ _ [.int (Int32.ofInt 0)] _ _ _
                    refine g_ireturn (gd rfl) rfl (nb01 (in_w 0 1 (in_c 0 rfl) rfl)) (hp22 _ _ ?_)
                    show GG _ _ _ _ _ _ _ _ [.int (Int32.ofInt 0)] _ _ _
                    refine g_if_eq 28 30 (gd rfl) rfl rfl (fun c25 => ?_) (fun c25 => ?_)
                    · skip
                      refine g_iconst 0 31 (gd rfl) rfl rfl ?_
                      refine g_istore_n 32 (gd rfl) rfl (Nat.le_of_ble_eq_true rfl) ?_
                      have n32 : (∀ v : Nat, (v : Int) < ((Int32.ofInt 0)).toInt → ((((sF s 109 0 (Int32.ofInt 0))).1 133 v)).toInt = if v = (x1).toNatClampNeg then 1000001 else -1) := by intro v hv; exfalso; have h0 : (Int32.ofInt 0).toInt = 0 := rfl; omega
                      have n32a : (((sF s 109 0 (Int32.ofInt 0))).2.2.1 109 0).toInt = 0 := by rfl
                      have n32b : ((x1).toInt < (s.2.2.1 109 20).toInt ∧ (x2).toInt < (s.2.2.1 109 20).toInt) := by exact ⟨by rw [← e_109_20]; exact (have a0 := in_u i11x9; have a1 := in_u i3x9; have a2 := in_u i3x9a; have a3 := in_u ro_109_19; have a4 := in_u ((in_c 0 rfl)); have oc := oc_317_109; by omega), by rw [← e_109_20]; exact (have a0 := in_u i11x9; have a1 := in_u i3x9; have a2 := in_u i3x9a; have a3 := in_u ro_109_19; have a4 := in_u ((in_c 0 rfl)); have oc := oc_317_109; by omega)⟩
                      exact gg_w (by first | exact Nat.le_of_ble_eq_true rfl | omega) (gg_f (gf_cons rfl (gf_cons rfl (gf_cons rfl (gf_cons rfl gf_nil)))) (ct32 33 (sF s 109 0 (Int32.ofInt 0)) (Int32.ofInt 0) hI22x3x18 (fr_sF rfl fr_rf) (in_w 0 31 i3x9 rfl) (in_w 0 31 i11x9 rfl) (in_w 0 32 (in_c 0 rfl) rfl) n32 n32a n32b (m_in 33 (in_w 0 32 (in_c 0 rfl) rfl) rfl)))
                    · skip
                      exact zn_ne c25 (in_c 0 rfl) rfl
                  · skip
                    exact zn_gt c22x3x25 (in_c 0 rfl) rfl
                · skip
                  exact zn_eq c22x3x10 (in_c 1 rfl) rfl
              · skip
                exact zn_eq c22x3x2 (in_c 1 rfl) rfl
