/-! FUNCTIONAL CONTRACTS, by fgen.py -/
theorem oc_148_56_2 : (Int32.ofInt (-1)).toInt = (-1) ∧ (Int32.ofInt 0).toInt = 0 ∧ (Int32.ofInt 1).toInt = 1 ∧ (Int32.ofInt 32).toInt = 32 := ⟨rfl, rfl, rfl, rfl⟩
set_option maxHeartbeats 4000000 in
/-- GraphHouse$Parts.peel -/
theorem f_148_56_2 {Z : AmZ} {A : Nat → Nat} {s : GS} {ex : va_W} {d : Nat} {X : AmX}  (hd : 5 ≤ d) (hI : Inv s) (q_0 : TQ s) (q_1 : NDQ (gvC s)) : GC Z d 148 [.ref (A 56), .ref (A 2)] (WW Z A s ++ ex) 0 0 (fun v u => ∃ t : GS, Inv t ∧ Fr fm_148_56_2 s t ∧ v = none ∧ u = WW Z A t ++ ex ∧ (CRG (gvC s) ((t).1 58))) X := by
  intro post xp hP hX
  obtain ⟨u_2_1, e_2_1⟩ : ∃ w, w = s.2.2.1 2 1 := ⟨_, rfl⟩
  have ro_2_1 := inv_F hI 0 32 rfl e_2_1
  have ct22 : ∀ (k22 : Nat) (sc22 : GS) (y22_2 : Int32) (y22_3 : Int32) (y22_4 : Int32) (w22_2_4 : Int32) (w22_2_0 : Int32), Inv sc22 → Fr fm_148_56_2 s sc22 → (In y22_3 0 2147483647) → (In y22_4 0 32) → (w22_2_4 = sc22.2.2.1 2 4) → (w22_2_0 = sc22.2.2.1 2 0) → ((w22_2_4).toInt = (w22_2_0).toInt) → ((cb y22_2 : Int) = (u_2_1).toInt - (y22_4).toInt) → (CPI (ARE (gvC s) 0) (ARE (gvC s) 1) (gvC s).2.2.2.2.2.2.1 (y22_4).toInt (y22_2) (y22_3).toInt ((sc22).1 58) ((sc22).1 59)) → 32 - (y22_4).toInt < (k22 : Int) → GG Z (d - 1) 148 post (gx xp) (1 + k22 * 900) 22 (fun j => xlook j [(0, .ref (A 56)), (1, .ref (A 2)), (2, .int y22_2), (3, .int y22_3), (4, .int y22_4)]) [] (WW Z A sc22 ++ ex) 0 0 := by
    intro k22
    induction k22 with
    | zero => intro sc22 y22_2 y22_3 y22_4 w22_2_4 w22_2_0 hIc22 hFc22 j22_3 j22_4 v22_2_4 v22_2_0 n22_0 g22_0 g22_1 mm22; exact m_no mm22 j22_4 rfl
    | succ k22 ih22 =>
      intro sc22 y22_2 y22_3 y22_4 w22_2_4 w22_2_0 hIc22 hFc22 j22_3 j22_4 v22_2_4 v22_2_0 n22_0 g22_0 g22_1 mm22
      refine gg_w (M := 1 + k22 * 900 + 900) gws ?_
      refine g_iload 24 (gd rfl) rfl rfl ?_
      refine g_aload_n 25 (gd rfl) rfl rfl ?_
      refine g_getI 28 (gd rfl) rfl rfl rfl (fun z25 e25 => ?_)
      have q25 : u_2_1 = z25 := (fr_F e_2_1 hFc22 rfl).trans e25.symm
      subst q25
      refine g_cmp_ge 31 80 (gd rfl) rfl rfl (fun c28 => ?_) (fun c28 => ?_)
      · skip
        have n80 : CRG (gvC s) ((sc22).1 58) := by exact cpi_e g22_1 (by have h9 := g22_0; exact (have a0 := in_u ro_2_1; have a1 := in_u ((inv_F hIc22 0 4000 rfl v22_2_0)); have a2 := in_u ((inv_F hIc22 (-1) 4000 rfl v22_2_4)); have a3 := in_u j22_4; have a4 := in_u j22_3; have oc := oc_148_56_2; by omega))
        exact g_return (gd rfl) rfl (hP _ _ ⟨sc22, hIc22, hFc22, rfl, rfl, n80⟩)
      · skip
        have i28 := r_lt1 0 31 c28 j22_4 ro_2_1 rfl
        have i28a := r_lt2 1 32 c28 j22_4 ro_2_1 rfl
        refine g_aload_n 32 (gd rfl) rfl rfl ?_
        refine g_iload_n 33 (gd rfl) rfl rfl ?_
        have nz33 : (y22_2).toInt ≠ 0 := by exact cb_nz (by exact (have a0 := in_u i28a; have a1 := in_u ((inv_F hIc22 0 4000 rfl v22_2_0)); have a2 := in_u ((inv_F hIc22 (-1) 4000 rfl v22_2_4)); have a3 := in_u i28; have a4 := in_u j22_3; have oc := oc_148_56_2; by omega))
        refine g_callv (X := _) (As := [.int y22_2]) (r := []) (b := A 56) (q := 56) 36 (gd rfl) rfl rfl rfl rfl rfl (ww_o rfl) (Nat.le_of_ble_eq_true rfl) (Nat.zero_le _) (Nat.zero_le _) (f_149_56 (by first | exact dq1 hd rfl | exact dq0 hd rfl | exact dq2 hd rfl | exact dq3 hd rfl | omega) hIc22 nz33) (fun e u h => h) (fun v u h => ?_)
        obtain ⟨z33, rfl, rfl, i33, p33, p33a⟩ := h
        show GG _ _ _ _ _ _ _ _ [.int z33] _ _ _
        refine g_istore 38 (gd rfl) rfl (Nat.le_of_ble_eq_true rfl) ?_
        refine g_iload_n 39 (gd rfl) rfl rfl ?_
        refine g_aload_n 40 (gd rfl) rfl rfl ?_
        refine g_getA (q2 := 59) 43 (gd rfl) rfl rfl rfl rfl ?_
        refine g_iload 45 (gd rfl) rfl rfl ?_
        refine g_iaload 46 (gd rfl) rfl (n := 32) rfl (in_ix i33 rfl) (fun z45 e45 => ?_)
        refine g_calls (As := [.int y22_3, .int z45]) (r := []) 49 (gd rfl) rfl rfl rfl rfl rfl (Nat.le_of_ble_eq_true rfl) (mc := 0) (ms := 0) (Nat.zero_le _) (Nat.zero_le _) (P := fun v u => _) ?_ (fun v u h => h)
        intro po46 xx46 hp46 hx46
        refine g_enter2 (k := 422) (N := 300) (by first | exact dq1 hd rfl | exact dq0 hd rfl | exact dq2 hd rfl | exact dq3 hd rfl | omega) rfl (Nat.le_of_ble_eq_true rfl) ?_
        refine g_iload_n 1 (gd rfl) rfl rfl ?_
        refine g_iload_n 2 (gd rfl) rfl rfl ?_
        refine g_cmp_lt 5 9 (gd rfl) rfl rfl (fun c46x2 => ?_) (fun c46x2 => ?_)
        · skip
          have i46x2 := r_lt1 0 2147483646 c46x2 j22_3 (i_rng z45) rfl
          have i46x2a := r_lt2 1 2147483647 c46x2 j22_3 (i_rng z45) rfl
          refine g_iload_n 10 (gd rfl) rfl rfl ?_
          refine g_ireturn (gd rfl) rfl rfl (hp46 _ _ ?_)
          show GG _ _ _ _ _ _ _ _ [.int z45] _ _ _
          refine g_istore_n 50 (gd rfl) rfl (Nat.le_of_ble_eq_true rfl) ?_
          refine g_aload_n 51 (gd rfl) rfl rfl ?_
          refine g_getA (q2 := 58) 54 (gd rfl) rfl rfl rfl rfl ?_
          refine g_iload 56 (gd rfl) rfl rfl ?_
          refine g_iload_n 57 (gd rfl) rfl rfl ?_
          refine g_iastore 58 (gd rfl) rfl (n := 32) rfl (in_ix i33 rfl) ?_
          have hI57 := inv_sI (q := 58) (j := z33.toNatClampNeg) hIc22 rfl (in_w (-2147483648) 2147483647 i46x2a rfl)
          refine g_iload_n 59 (gd rfl) rfl rfl ?_
          refine g_iconst 1 60 (gd rfl) rfl rfl ?_
          refine g_iload 62 (gd rfl) rfl rfl ?_
          refine g_ishl 63 (gd rfl) rfl (fun z62 e62 => ?_)
          refine g_iconst (-1) 64 (gd rfl) rfl rfl ?_
          refine g_ixor 65 (gd rfl) rfl (fun z64 e64 => ?_)
          refine g_iand 66 (gd rfl) rfl (fun z65 e65 => ?_)
          have hcb := cb_clr e62 e64 e65 i33 p33
          refine g_istore_n 67 (gd rfl) rfl (Nat.le_of_ble_eq_true rfl) ?_
          refine g_aload_n 68 (gd rfl) rfl rfl ?_
          refine g_aload_n 69 (gd rfl) rfl rfl ?_
          refine g_iload 71 (gd rfl) rfl rfl ?_
          have v71 : w22_2_4 = (sI sc22 58 z33.toNatClampNeg z45).2.2.1 2 4 := sI_F (v22_2_4)
          have v71a : w22_2_0 = (sI sc22 58 z33.toNatClampNeg z45).2.2.1 2 0 := sI_F (v22_2_0)
          have n71 : (w22_2_4).toInt = (w22_2_0).toInt := by first | exact n22_0 | (exact (have a0 := in_u i28a; have a1 := in_u ((inv_F hIc22 0 4000 rfl v22_2_0)); have a2 := in_u ((inv_F hIc22 (-1) 4000 rfl v22_2_4)); have a3 := in_u i28; have a4 := in_u i33; have a5 := in_u i46x2a; have oc := oc_148_56_2; by omega))
          have p71 : TQ (sI sc22 58 z33.toNatClampNeg z45) := by exact tq_fr q_0 (show Fr fm_148_56_2 s (sI sc22 58 z33.toNatClampNeg z45) from (fr_sI rfl hFc22)) rfl
          have p71a : (∀ u : Nat, u < 32 → In ((sI sc22 58 z33.toNatClampNeg z45).1 59 u) (-20000) 20000) := by intro u hu; rw [sI_p (show Nat.beq 59 58 = false from rfl)]; have h9 := g22_1.1 u hu; exact ⟨by exact (have a0 := in_u i28a; have a1 := in_u ((inv_F hIc22 0 4000 rfl v22_2_0)); have a2 := in_u ((inv_F hIc22 (-1) 4000 rfl v22_2_4)); have a3 := in_u i28; have a4 := in_u i33; have a5 := in_u i46x2a; have oc := oc_148_56_2; by omega), by exact (have a0 := in_u i28a; have a1 := in_u ((inv_F hIc22 0 4000 rfl v22_2_0)); have a2 := in_u ((inv_F hIc22 (-1) 4000 rfl v22_2_4)); have a3 := in_u i28; have a4 := in_u i33; have a5 := in_u i46x2a; have oc := oc_148_56_2; by omega)⟩
          refine g_callv (X := _) (As := [.ref (A 2), .int z33]) (r := []) (b := A 56) (q := 56) 74 (gd rfl) rfl rfl rfl rfl rfl (ww_o rfl) (Nat.le_of_ble_eq_true rfl) (Nat.zero_le _) (Nat.zero_le _) (f_150_56_2 (by first | exact dq1 hd rfl | exact dq0 hd rfl | exact dq2 hd rfl | exact dq3 hd rfl | omega) hI57 (in_w 0 31 i33 rfl) v71 v71a n71 p71 p71a) (fun e u h => h) (fun v u h => ?_)
          obtain ⟨s71, hI71, hF71, rfl, rfl, p71b⟩ := h
          show GG _ _ _ _ _ _ _ _ [] _ _ _
          refine g_iinc 77 (gd rfl) rfl rfl (Nat.le_of_ble_eq_true rfl) (fun z74 e74 => ?_)
          have i74 := in_add 1 32 e74 i28 (in_c 1 rfl) rfl rfl
          refine g_goto 22 (gd rfl) rfl ?_
          have v22 : w22_2_4 = s71.2.2.1 2 4 := fr_F (s := (sI sc22 58 z33.toNatClampNeg z45)) (sI_F (v22_2_4)) hF71 rfl
          have v22a : w22_2_0 = s71.2.2.1 2 0 := fr_F (s := (sI sc22 58 z33.toNatClampNeg z45)) (sI_F (v22_2_0)) hF71 rfl
          have n22 : (w22_2_4).toInt = (w22_2_0).toInt := by first | exact n22_0 | (exact (have a0 := in_u i28a; have a1 := in_u ((inv_F hIc22 0 4000 rfl v22_2_0)); have a2 := in_u ((inv_F hIc22 (-1) 4000 rfl v22_2_4)); have a3 := in_u i28; have a4 := in_u i33; have a5 := in_u i74; have a6 := t_add e74 i28 (in_c 1 rfl) rfl; have a7 := in_u ((in_c 1 rfl)); have a8 := in_u i46x2a; have oc := oc_148_56_2; by omega))
          have n22a : (cb z65 : Int) = (u_2_1).toInt - (z74).toInt := by first | (have hcb := cb_m1; exact (have a0 := in_u i28a; have a1 := in_u ((inv_F hIc22 0 4000 rfl v22_2_0)); have a2 := in_u ((inv_F hIc22 (-1) 4000 rfl v22_2_4)); have a3 := in_u i28; have a4 := in_u i33; have a5 := in_u i74; have a6 := t_add e74 i28 (in_c 1 rfl) rfl; have a7 := in_u ((in_c 1 rfl)); have a8 := in_u i46x2a; have oc := oc_148_56_2; by omega)) | (have hcb := cb_all e5x18 e5x20 ‹_›; exact (have a0 := in_u i28a; have a1 := in_u ((inv_F hIc22 0 4000 rfl v22_2_0)); have a2 := in_u ((inv_F hIc22 (-1) 4000 rfl v22_2_4)); have a3 := in_u i28; have a4 := in_u i33; have a5 := in_u i74; have a6 := t_add e74 i28 (in_c 1 rfl) rfl; have a7 := in_u ((in_c 1 rfl)); have a8 := in_u i46x2a; have oc := oc_148_56_2; by omega)) | (exact (have a0 := in_u i28a; have a1 := in_u ((inv_F hIc22 0 4000 rfl v22_2_0)); have a2 := in_u ((inv_F hIc22 (-1) 4000 rfl v22_2_4)); have a3 := in_u i28; have a4 := in_u i33; have a5 := in_u i74; have a6 := t_add e74 i28 (in_c 1 rfl) rfl; have a7 := in_u ((in_c 1 rfl)); have a8 := in_u i46x2a; have oc := oc_148_56_2; by omega))
          have n22b : CPI (ARE (gvC s) 0) (ARE (gvC s) 1) (gvC s).2.2.2.2.2.2.1 (z74).toInt (z65) (z45).toInt ((s71).1 58) ((s71).1 59) := by exact cpi_s g22_1 p33 i33 p33a e62 e64 e65 (Or.inr ⟨by rw [e45], by rw [← e45]; exact (have a0 := in_u i28a; have a1 := in_u ((inv_F hIc22 0 4000 rfl v22_2_0)); have a2 := in_u ((inv_F hIc22 (-1) 4000 rfl v22_2_4)); have a3 := in_u i28; have a4 := in_u i33; have a5 := in_u i74; have a6 := t_add e74 i28 (in_c 1 rfl) rfl; have a7 := in_u ((in_c 1 rfl)); have a8 := in_u i46x2a; have oc := oc_148_56_2; by omega)⟩) rfl ((hF71.1 58 rfl).trans sI_q) (by have h9 := p71b; rw [gvC_cg (show Fr fm_148_56_2 s (sI sc22 58 z33.toNatClampNeg z45) from fr_sI rfl hFc22) rfl, sI_p (show Nat.beq 59 58 = false from rfl)] at h9; exact h9) (by exact (have a0 := in_u i28a; have a1 := in_u ((inv_F hIc22 0 4000 rfl v22_2_0)); have a2 := in_u ((inv_F hIc22 (-1) 4000 rfl v22_2_4)); have a3 := in_u i28; have a4 := in_u i33; have a5 := in_u i74; have a6 := t_add e74 i28 (in_c 1 rfl) rfl; have a7 := in_u ((in_c 1 rfl)); have a8 := in_u i46x2a; have oc := oc_148_56_2; by omega))
          exact gg_w (by first | exact Nat.le_add_right _ _ | exact gw2 | exact gw3 | exact gwe rfl | exact gwf rfl | exact gwg rfl | exact gwh rfl | omega) (gg_f (gf_cons rfl (gf_cons rfl (gf_cons rfl (gf_cons rfl (gf_cons rfl gf_nil))))) (ih22 s71 z65 z45 z74 w22_2_4 w22_2_0 hI71 (fr_tr rfl (fr_sI rfl hFc22) hF71) (in_w 0 2147483647 i46x2a rfl) (in_w 0 32 i74 rfl) v22 v22a n22 n22a n22b (m_up mm22 (t_add e74 i28 (in_c 1 rfl) rfl) (in_w 1 1 (in_c 1 rfl) rfl))))
        · skip
          refine g_iload_n 6 (gd rfl) rfl rfl ?_
          refine g_goto 10 (gd rfl) rfl ?_
          refine g_ireturn (gd rfl) rfl rfl (hp46 _ _ ?_)
          show GG _ _ _ _ _ _ _ _ [.int y22_3] _ _ _
          refine g_istore_n 50 (gd rfl) rfl (Nat.le_of_ble_eq_true rfl) ?_
          refine g_aload_n 51 (gd rfl) rfl rfl ?_
          refine g_getA (q2 := 58) 54 (gd rfl) rfl rfl rfl rfl ?_
          refine g_iload 56 (gd rfl) rfl rfl ?_
          refine g_iload_n 57 (gd rfl) rfl rfl ?_
          refine g_iastore 58 (gd rfl) rfl (n := 32) rfl (in_ix i33 rfl) ?_
          have hI57 := inv_sI (q := 58) (j := z33.toNatClampNeg) hIc22 rfl (in_w (-2147483648) 2147483647 j22_3 rfl)
          refine g_iload_n 59 (gd rfl) rfl rfl ?_
          refine g_iconst 1 60 (gd rfl) rfl rfl ?_
          refine g_iload 62 (gd rfl) rfl rfl ?_
          refine g_ishl 63 (gd rfl) rfl (fun z62 e62 => ?_)
          refine g_iconst (-1) 64 (gd rfl) rfl rfl ?_
          refine g_ixor 65 (gd rfl) rfl (fun z64 e64 => ?_)
          refine g_iand 66 (gd rfl) rfl (fun z65 e65 => ?_)
          have hcb := cb_clr e62 e64 e65 i33 p33
          refine g_istore_n 67 (gd rfl) rfl (Nat.le_of_ble_eq_true rfl) ?_
          refine g_aload_n 68 (gd rfl) rfl rfl ?_
          refine g_aload_n 69 (gd rfl) rfl rfl ?_
          refine g_iload 71 (gd rfl) rfl rfl ?_
          have v71 : w22_2_4 = (sI sc22 58 z33.toNatClampNeg y22_3).2.2.1 2 4 := sI_F (v22_2_4)
          have v71a : w22_2_0 = (sI sc22 58 z33.toNatClampNeg y22_3).2.2.1 2 0 := sI_F (v22_2_0)
          have n71 : (w22_2_4).toInt = (w22_2_0).toInt := by first | exact n22_0 | (exact (have a0 := in_u i28a; have a1 := in_u ((inv_F hIc22 0 4000 rfl v22_2_0)); have a2 := in_u ((inv_F hIc22 (-1) 4000 rfl v22_2_4)); have a3 := in_u i28; have a4 := in_u i33; have a5 := in_u j22_3; have oc := oc_148_56_2; by omega))
          have p71 : TQ (sI sc22 58 z33.toNatClampNeg y22_3) := by exact tq_fr q_0 (show Fr fm_148_56_2 s (sI sc22 58 z33.toNatClampNeg y22_3) from (fr_sI rfl hFc22)) rfl
          have p71a : (∀ u : Nat, u < 32 → In ((sI sc22 58 z33.toNatClampNeg y22_3).1 59 u) (-20000) 20000) := by intro u hu; rw [sI_p (show Nat.beq 59 58 = false from rfl)]; have h9 := g22_1.1 u hu; exact ⟨by exact (have a0 := in_u i28a; have a1 := in_u ((inv_F hIc22 0 4000 rfl v22_2_0)); have a2 := in_u ((inv_F hIc22 (-1) 4000 rfl v22_2_4)); have a3 := in_u i28; have a4 := in_u i33; have a5 := in_u j22_3; have oc := oc_148_56_2; by omega), by exact (have a0 := in_u i28a; have a1 := in_u ((inv_F hIc22 0 4000 rfl v22_2_0)); have a2 := in_u ((inv_F hIc22 (-1) 4000 rfl v22_2_4)); have a3 := in_u i28; have a4 := in_u i33; have a5 := in_u j22_3; have oc := oc_148_56_2; by omega)⟩
          refine g_callv (X := _) (As := [.ref (A 2), .int z33]) (r := []) (b := A 56) (q := 56) 74 (gd rfl) rfl rfl rfl rfl rfl (ww_o rfl) (Nat.le_of_ble_eq_true rfl) (Nat.zero_le _) (Nat.zero_le _) (f_150_56_2 (by first | exact dq1 hd rfl | exact dq0 hd rfl | exact dq2 hd rfl | exact dq3 hd rfl | omega) hI57 (in_w 0 31 i33 rfl) v71 v71a n71 p71 p71a) (fun e u h => h) (fun v u h => ?_)
          obtain ⟨s71, hI71, hF71, rfl, rfl, p71b⟩ := h
          show GG _ _ _ _ _ _ _ _ [] _ _ _
          refine g_iinc 77 (gd rfl) rfl rfl (Nat.le_of_ble_eq_true rfl) (fun z74 e74 => ?_)
          have i74 := in_add 1 32 e74 i28 (in_c 1 rfl) rfl rfl
          refine g_goto 22 (gd rfl) rfl ?_
          have v22 : w22_2_4 = s71.2.2.1 2 4 := fr_F (s := (sI sc22 58 z33.toNatClampNeg y22_3)) (sI_F (v22_2_4)) hF71 rfl
          have v22a : w22_2_0 = s71.2.2.1 2 0 := fr_F (s := (sI sc22 58 z33.toNatClampNeg y22_3)) (sI_F (v22_2_0)) hF71 rfl
          have n22 : (w22_2_4).toInt = (w22_2_0).toInt := by first | exact n22_0 | (exact (have a0 := in_u i28a; have a1 := in_u ((inv_F hIc22 0 4000 rfl v22_2_0)); have a2 := in_u ((inv_F hIc22 (-1) 4000 rfl v22_2_4)); have a3 := in_u i28; have a4 := in_u i33; have a5 := in_u i74; have a6 := t_add e74 i28 (in_c 1 rfl) rfl; have a7 := in_u ((in_c 1 rfl)); have a8 := in_u j22_3; have oc := oc_148_56_2; by omega))
          have n22a : (cb z65 : Int) = (u_2_1).toInt - (z74).toInt := by first | (have hcb := cb_m1; exact (have a0 := in_u i28a; have a1 := in_u ((inv_F hIc22 0 4000 rfl v22_2_0)); have a2 := in_u ((inv_F hIc22 (-1) 4000 rfl v22_2_4)); have a3 := in_u i28; have a4 := in_u i33; have a5 := in_u i74; have a6 := t_add e74 i28 (in_c 1 rfl) rfl; have a7 := in_u ((in_c 1 rfl)); have a8 := in_u j22_3; have oc := oc_148_56_2; by omega)) | (have hcb := cb_all e5x18 e5x20 ‹_›; exact (have a0 := in_u i28a; have a1 := in_u ((inv_F hIc22 0 4000 rfl v22_2_0)); have a2 := in_u ((inv_F hIc22 (-1) 4000 rfl v22_2_4)); have a3 := in_u i28; have a4 := in_u i33; have a5 := in_u i74; have a6 := t_add e74 i28 (in_c 1 rfl) rfl; have a7 := in_u ((in_c 1 rfl)); have a8 := in_u j22_3; have oc := oc_148_56_2; by omega)) | (exact (have a0 := in_u i28a; have a1 := in_u ((inv_F hIc22 0 4000 rfl v22_2_0)); have a2 := in_u ((inv_F hIc22 (-1) 4000 rfl v22_2_4)); have a3 := in_u i28; have a4 := in_u i33; have a5 := in_u i74; have a6 := t_add e74 i28 (in_c 1 rfl) rfl; have a7 := in_u ((in_c 1 rfl)); have a8 := in_u j22_3; have oc := oc_148_56_2; by omega))
          have n22b : CPI (ARE (gvC s) 0) (ARE (gvC s) 1) (gvC s).2.2.2.2.2.2.1 (z74).toInt (z65) (y22_3).toInt ((s71).1 58) ((s71).1 59) := by exact cpi_s g22_1 p33 i33 p33a e62 e64 e65 (Or.inl ⟨rfl, by rw [← e45]; exact (have a0 := in_u i28a; have a1 := in_u ((inv_F hIc22 0 4000 rfl v22_2_0)); have a2 := in_u ((inv_F hIc22 (-1) 4000 rfl v22_2_4)); have a3 := in_u i28; have a4 := in_u i33; have a5 := in_u i74; have a6 := t_add e74 i28 (in_c 1 rfl) rfl; have a7 := in_u ((in_c 1 rfl)); have a8 := in_u j22_3; have oc := oc_148_56_2; by omega)⟩) rfl ((hF71.1 58 rfl).trans sI_q) (by have h9 := p71b; rw [gvC_cg (show Fr fm_148_56_2 s (sI sc22 58 z33.toNatClampNeg y22_3) from fr_sI rfl hFc22) rfl, sI_p (show Nat.beq 59 58 = false from rfl)] at h9; exact h9) (by exact (have a0 := in_u i28a; have a1 := in_u ((inv_F hIc22 0 4000 rfl v22_2_0)); have a2 := in_u ((inv_F hIc22 (-1) 4000 rfl v22_2_4)); have a3 := in_u i28; have a4 := in_u i33; have a5 := in_u i74; have a6 := t_add e74 i28 (in_c 1 rfl) rfl; have a7 := in_u ((in_c 1 rfl)); have a8 := in_u j22_3; have oc := oc_148_56_2; by omega))
          exact gg_w (by first | exact Nat.le_add_right _ _ | exact gw2 | exact gw3 | exact gwe rfl | exact gwf rfl | exact gwg rfl | exact gwh rfl | omega) (gg_f (gf_cons rfl (gf_cons rfl (gf_cons rfl (gf_cons rfl (gf_cons rfl gf_nil))))) (ih22 s71 z65 y22_3 z74 w22_2_4 w22_2_0 hI71 (fr_tr rfl (fr_sI rfl hFc22) hF71) (in_w 0 2147483647 j22_3 rfl) (in_w 0 32 i74 rfl) v22 v22a n22 n22a n22b (m_up mm22 (t_add e74 i28 (in_c 1 rfl) rfl) (in_w 1 1 (in_c 1 rfl) rfl))))
  refine g_enter2 (k := 148) (N := 30601) (by first | exact dq1 hd rfl | exact dq0 hd rfl | exact dq2 hd rfl | exact dq3 hd rfl | omega) rfl (Nat.le_of_ble_eq_true rfl) ?_
  refine g_aload_n 1 (gd rfl) rfl rfl ?_
  refine g_callv (X := _) (As := []) (r := []) (b := A 2) (q := 2) 4 (gd rfl) rfl rfl rfl rfl rfl (ww_o rfl) (Nat.le_of_ble_eq_true rfl) (Nat.zero_le _) (Nat.zero_le _) (k_106_2 (by first | exact dq1 hd rfl | exact dq0 hd rfl | exact dq2 hd rfl | exact dq3 hd rfl | omega) hI ) (fun e u h => h) (fun v u h => ?_)
  obtain ⟨s1, hI1, hF1, n1, rfl, rfl⟩ := h
  obtain ⟨z1a, e1⟩ : ∃ w, w = s1.2.2.1 2 4 := ⟨_, rfl⟩
  have i1a := inv_F hI1 (-1) 4000 rfl e1
  obtain ⟨z1b, e1a⟩ : ∃ w, w = s1.2.2.1 2 0 := ⟨_, rfl⟩
  have i1b := inv_F hI1 0 4000 rfl e1a
  rw [← (show z1a = s1.2.2.1 2 4 from e1)] at n1
  rw [← (show z1b = s1.2.2.1 2 0 from e1a)] at n1
  show GG _ _ _ _ _ _ _ _ [] _ _ _
  refine g_aload_n 5 (gd rfl) rfl rfl ?_
  refine g_callv (X := _) (As := []) (r := []) (b := A 2) (q := 2) 8 (gd rfl) rfl rfl rfl rfl rfl (ww_o rfl) (Nat.le_of_ble_eq_true rfl) (mc := 0) (ms := 0) (Nat.zero_le _) (Nat.zero_le _) (P := fun v u => _) ?_ (fun e u h => h) (fun v u h => h)
  intro po5 xx5 hp5 hx5
  refine g_enter2 (k := 102) (N := 300) (by first | exact dq1 hd rfl | exact dq0 hd rfl | exact dq2 hd rfl | exact dq3 hd rfl | omega) rfl (Nat.le_of_ble_eq_true rfl) ?_
  refine g_aload_n 1 (gd rfl) rfl rfl ?_
  refine g_getI 4 (gd rfl) rfl rfl rfl (fun z5x1 e5x1 => ?_)
  have q5x1 : u_2_1 = z5x1 := (fr_F (e_2_1) hF1 rfl).trans e5x1.symm
  subst q5x1
  refine g_bipush 32 6 (gd rfl) rfl rfl ?_
  refine g_cmp_lt 9 13 (gd rfl) rfl rfl (fun c5x6 => ?_) (fun c5x6 => ?_)
  · skip
    have i5x6 := r_lt1 0 31 c5x6 ro_2_1 (in_c 32 rfl) rfl
    refine g_iconst 1 14 (gd rfl) rfl rfl ?_
    refine g_aload_n 15 (gd rfl) rfl rfl ?_
    refine g_getI 18 (gd rfl) rfl rfl rfl (fun z5x15 e5x15 => ?_)
    have q5x15 : u_2_1 = z5x15 := (fr_F (e_2_1) hF1 rfl).trans e5x15.symm
    subst q5x15
    refine g_ishl 19 (gd rfl) rfl (fun z5x18 e5x18 => ?_)
    refine g_iconst 1 20 (gd rfl) rfl rfl ?_
    refine g_isub 21 (gd rfl) rfl (fun z5x20 e5x20 => ?_)
    refine g_ireturn (gd rfl) rfl rfl (hp5 _ _ ?_)
    show GG _ _ _ _ _ _ _ _ [.int z5x20] _ _ _
    refine g_istore_n 9 (gd rfl) rfl (Nat.le_of_ble_eq_true rfl) ?_
    refine g_iconst 0 10 (gd rfl) rfl rfl ?_
    refine g_istore_n 11 (gd rfl) rfl (Nat.le_of_ble_eq_true rfl) ?_
    refine g_aload_n 12 (gd rfl) rfl rfl ?_
    refine g_aload_n 13 (gd rfl) rfl rfl ?_
    refine g_getA (q2 := 59) 16 (gd rfl) rfl rfl rfl rfl ?_
    have p16 : TQ s1 := by exact tq_fr q_0 hF1 rfl
    refine g_callv (X := _) (As := [.ref (A 59)]) (r := []) (b := A 2) (q := 2) 19 (gd rfl) rfl rfl rfl rfl rfl (ww_o rfl) (Nat.le_of_ble_eq_true rfl) (Nat.zero_le _) (Nat.zero_le _) (f_99_2_59 (by first | exact dq1 hd rfl | exact dq0 hd rfl | exact dq2 hd rfl | exact dq3 hd rfl | omega) hI1 p16) (fun e u h => h) (fun v u h => ?_)
    obtain ⟨s16, hI16, hF16, rfl, rfl, p16a⟩ := h
    show GG _ _ _ _ _ _ _ _ [] _ _ _
    refine g_iconst 0 20 (gd rfl) rfl rfl ?_
    refine g_istore 22 (gd rfl) rfl (Nat.le_of_ble_eq_true rfl) ?_
    have v22 : z1a = s16.2.2.1 2 4 := fr_F (e1) hF16 rfl
    have v22a : z1b = s16.2.2.1 2 0 := fr_F (e1a) hF16 rfl
    have n22 : (z1a).toInt = (z1b).toInt := by exact (have a0 := in_u i5x6; have a1 := in_u ((in_c 0 rfl)); have a2 := in_u i1b; have a3 := in_u i1a; have oc := oc_148_56_2; by omega)
    have n22a : (cb z5x20 : Int) = (u_2_1).toInt - ((Int32.ofInt 0)).toInt := by first | (have hcb := cb_m1; exact (have a0 := in_u i5x6; have a1 := in_u ((in_c 0 rfl)); have a2 := in_u i1b; have a3 := in_u i1a; have oc := oc_148_56_2; by omega)) | (have hcb := cb_all e5x18 e5x20 ‹_›; exact (have a0 := in_u i5x6; have a1 := in_u ((in_c 0 rfl)); have a2 := in_u i1b; have a3 := in_u i1a; have oc := oc_148_56_2; by omega)) | (exact (have a0 := in_u i5x6; have a1 := in_u ((in_c 0 rfl)); have a2 := in_u i1b; have a3 := in_u i1a; have oc := oc_148_56_2; by omega))
    have n22b : CPI (ARE (gvC s) 0) (ARE (gvC s) 1) (gvC s).2.2.2.2.2.2.1 ((Int32.ofInt 0)).toInt (z5x20) ((Int32.ofInt 0)).toInt ((s16).1 58) ((s16).1 59) := by exact cpi_0 (fun k => by show _ ↔ (k : Int) < (s.2.2.1 2 1).toInt; rw [← e_2_1]; exact all_a e5x18 e5x20 i5x6 k) (show (gvC s).2.2.2.2.2.2.1 ≤ 32 from (by show (s.2.2.1 2 1).toInt ≤ 32; rw [← e_2_1]; exact (have a0 := in_u i5x6; have a1 := in_u ((in_c 0 rfl)); have a2 := in_u i1b; have a3 := in_u i1a; have oc := oc_148_56_2; by omega))) (by have h9 := p16a; rw [gvC_cg hF1 rfl] at h9; exact h9) (ndq_i q_1) rfl rfl
    exact gg_w (by first | exact Nat.le_of_ble_eq_true rfl | omega) (gg_f (gf_cons rfl (gf_cons rfl (gf_cons rfl (gf_cons rfl (gf_cons rfl gf_nil))))) (ct22 33 s16 z5x20 (Int32.ofInt 0) (Int32.ofInt 0) z1a z1b hI16 (fr_tr rfl (fr_tr rfl fr_rf hF1) hF16) (in_w 0 2147483647 (in_c 0 rfl) rfl) (in_w 0 32 (in_c 0 rfl) rfl) v22 v22a n22 n22a n22b (m_in 33 (in_w 0 32 (in_c 0 rfl) rfl) rfl)))
  · skip
    have i5x6 := r_le2 32 32 c5x6 (in_c 32 rfl) ro_2_1 rfl
    refine g_iconst (-1) 10 (gd rfl) rfl rfl ?_
    refine g_goto 21 (gd rfl) rfl ?_
    refine g_ireturn (gd rfl) rfl rfl (hp5 _ _ ?_)
    show GG _ _ _ _ _ _ _ _ [.int (Int32.ofInt (-1))] _ _ _
    refine g_istore_n 9 (gd rfl) rfl (Nat.le_of_ble_eq_true rfl) ?_
    refine g_iconst 0 10 (gd rfl) rfl rfl ?_
    refine g_istore_n 11 (gd rfl) rfl (Nat.le_of_ble_eq_true rfl) ?_
    refine g_aload_n 12 (gd rfl) rfl rfl ?_
    refine g_aload_n 13 (gd rfl) rfl rfl ?_
    refine g_getA (q2 := 59) 16 (gd rfl) rfl rfl rfl rfl ?_
    have p16 : TQ s1 := by exact tq_fr q_0 hF1 rfl
    refine g_callv (X := _) (As := [.ref (A 59)]) (r := []) (b := A 2) (q := 2) 19 (gd rfl) rfl rfl rfl rfl rfl (ww_o rfl) (Nat.le_of_ble_eq_true rfl) (Nat.zero_le _) (Nat.zero_le _) (f_99_2_59 (by first | exact dq1 hd rfl | exact dq0 hd rfl | exact dq2 hd rfl | exact dq3 hd rfl | omega) hI1 p16) (fun e u h => h) (fun v u h => ?_)
    obtain ⟨s16, hI16, hF16, rfl, rfl, p16a⟩ := h
    show GG _ _ _ _ _ _ _ _ [] _ _ _
    refine g_iconst 0 20 (gd rfl) rfl rfl ?_
    refine g_istore 22 (gd rfl) rfl (Nat.le_of_ble_eq_true rfl) ?_
    have v22 : z1a = s16.2.2.1 2 4 := fr_F (e1) hF16 rfl
    have v22a : z1b = s16.2.2.1 2 0 := fr_F (e1a) hF16 rfl
    have n22 : (z1a).toInt = (z1b).toInt := by exact (have a0 := in_u i5x6; have a1 := in_u ((in_c 0 rfl)); have a2 := in_u ((in_c (-1) rfl)); have a3 := in_u i1b; have a4 := in_u i1a; have oc := oc_148_56_2; by omega)
    have n22a : (cb (Int32.ofInt (-1)) : Int) = (u_2_1).toInt - ((Int32.ofInt 0)).toInt := by first | (have hcb := cb_m1; exact (have a0 := in_u i5x6; have a1 := in_u ((in_c 0 rfl)); have a2 := in_u ((in_c (-1) rfl)); have a3 := in_u i1b; have a4 := in_u i1a; have oc := oc_148_56_2; by omega)) | (have hcb := cb_all e5x18 e5x20 ‹_›; exact (have a0 := in_u i5x6; have a1 := in_u ((in_c 0 rfl)); have a2 := in_u ((in_c (-1) rfl)); have a3 := in_u i1b; have a4 := in_u i1a; have oc := oc_148_56_2; by omega)) | (exact (have a0 := in_u i5x6; have a1 := in_u ((in_c 0 rfl)); have a2 := in_u ((in_c (-1) rfl)); have a3 := in_u i1b; have a4 := in_u i1a; have oc := oc_148_56_2; by omega))
    have n22b : CPI (ARE (gvC s) 0) (ARE (gvC s) 1) (gvC s).2.2.2.2.2.2.1 ((Int32.ofInt 0)).toInt ((Int32.ofInt (-1))) ((Int32.ofInt 0)).toInt ((s16).1 58) ((s16).1 59) := by exact cpi_0 (fun k => by show _ ↔ (k : Int) < (s.2.2.1 2 1).toInt; rw [← e_2_1]; exact all_b (by exact (have a0 := in_u i5x6; have a1 := in_u ((in_c 0 rfl)); have a2 := in_u ((in_c (-1) rfl)); have a3 := in_u i1b; have a4 := in_u i1a; have oc := oc_148_56_2; by omega)) k) (show (gvC s).2.2.2.2.2.2.1 ≤ 32 from (by show (s.2.2.1 2 1).toInt ≤ 32; rw [← e_2_1]; exact (have a0 := in_u i5x6; have a1 := in_u ((in_c 0 rfl)); have a2 := in_u ((in_c (-1) rfl)); have a3 := in_u i1b; have a4 := in_u i1a; have oc := oc_148_56_2; by omega))) (by have h9 := p16a; rw [gvC_cg hF1 rfl] at h9; exact h9) (ndq_i q_1) rfl rfl
    exact gg_w (by first | exact Nat.le_of_ble_eq_true rfl | omega) (gg_f (gf_cons rfl (gf_cons rfl (gf_cons rfl (gf_cons rfl (gf_cons rfl gf_nil))))) (ct22 33 s16 (Int32.ofInt (-1)) (Int32.ofInt 0) (Int32.ofInt 0) z1a z1b hI16 (fr_tr rfl (fr_tr rfl fr_rf hF1) hF16) (in_w 0 2147483647 (in_c 0 rfl) rfl) (in_w 0 32 (in_c 0 rfl) rfl) v22 v22a n22 n22a n22b (m_in 33 (in_w 0 32 (in_c 0 rfl) rfl) rfl)))

theorem oc_148_56_32 : (Int32.ofInt (-1)).toInt = (-1) ∧ (Int32.ofInt 0).toInt = 0 ∧ (Int32.ofInt 1).toInt = 1 ∧ (Int32.ofInt 32).toInt = 32 := ⟨rfl, rfl, rfl, rfl⟩
set_option maxHeartbeats 4000000 in
/-- GraphHouse$Parts.peel -/
theorem f_148_56_32 {Z : AmZ} {A : Nat → Nat} {s : GS} {ex : va_W} {d : Nat} {X : AmX}  (hd : 5 ≤ d) (hI : Inv s) (q_0 : TQD s) (q_1 : NDQ (gvD s)) : GC Z d 148 [.ref (A 56), .ref (A 32)] (WW Z A s ++ ex) 0 0 (fun v u => ∃ t : GS, Inv t ∧ Fr fm_148_56_32 s t ∧ v = none ∧ u = WW Z A t ++ ex ∧ (CRG (gvD s) ((t).1 58))) X := by
  intro post xp hP hX
  obtain ⟨u_32_1, e_32_1⟩ : ∃ w, w = s.2.2.1 32 1 := ⟨_, rfl⟩
  have ro_32_1 := inv_F hI 0 32 rfl e_32_1
  have ct22 : ∀ (k22 : Nat) (sc22 : GS) (y22_2 : Int32) (y22_3 : Int32) (y22_4 : Int32) (w22_32_4 : Int32) (w22_32_0 : Int32), Inv sc22 → Fr fm_148_56_32 s sc22 → (In y22_3 0 2147483647) → (In y22_4 0 32) → (w22_32_4 = sc22.2.2.1 32 4) → (w22_32_0 = sc22.2.2.1 32 0) → ((w22_32_4).toInt = (w22_32_0).toInt) → ((cb y22_2 : Int) = (u_32_1).toInt - (y22_4).toInt) → (CPI (ARE (gvD s) 0) (ARE (gvD s) 1) (gvD s).2.2.2.2.2.2.1 (y22_4).toInt (y22_2) (y22_3).toInt ((sc22).1 58) ((sc22).1 59)) → 32 - (y22_4).toInt < (k22 : Int) → GG Z (d - 1) 148 post (gx xp) (1 + k22 * 900) 22 (fun j => xlook j [(0, .ref (A 56)), (1, .ref (A 32)), (2, .int y22_2), (3, .int y22_3), (4, .int y22_4)]) [] (WW Z A sc22 ++ ex) 0 0 := by
    intro k22
    induction k22 with
    | zero => intro sc22 y22_2 y22_3 y22_4 w22_32_4 w22_32_0 hIc22 hFc22 j22_3 j22_4 v22_32_4 v22_32_0 n22_0 g22_0 g22_1 mm22; exact m_no mm22 j22_4 rfl
    | succ k22 ih22 =>
      intro sc22 y22_2 y22_3 y22_4 w22_32_4 w22_32_0 hIc22 hFc22 j22_3 j22_4 v22_32_4 v22_32_0 n22_0 g22_0 g22_1 mm22
      refine gg_w (M := 1 + k22 * 900 + 900) gws ?_
      refine g_iload 24 (gd rfl) rfl rfl ?_
      refine g_aload_n 25 (gd rfl) rfl rfl ?_
      refine g_getI 28 (gd rfl) rfl rfl rfl (fun z25 e25 => ?_)
      have q25 : u_32_1 = z25 := (fr_F e_32_1 hFc22 rfl).trans e25.symm
      subst q25
      refine g_cmp_ge 31 80 (gd rfl) rfl rfl (fun c28 => ?_) (fun c28 => ?_)
      · skip
        have n80 : CRG (gvD s) ((sc22).1 58) := by exact cpi_e g22_1 (by have h9 := g22_0; exact (have a0 := in_u ro_32_1; have a1 := in_u ((inv_F hIc22 0 4000 rfl v22_32_0)); have a2 := in_u ((inv_F hIc22 (-1) 4000 rfl v22_32_4)); have a3 := in_u j22_4; have a4 := in_u j22_3; have oc := oc_148_56_32; by omega))
        exact g_return (gd rfl) rfl (hP _ _ ⟨sc22, hIc22, hFc22, rfl, rfl, n80⟩)
      · skip
        have i28 := r_lt1 0 31 c28 j22_4 ro_32_1 rfl
        have i28a := r_lt2 1 32 c28 j22_4 ro_32_1 rfl
        refine g_aload_n 32 (gd rfl) rfl rfl ?_
        refine g_iload_n 33 (gd rfl) rfl rfl ?_
        have nz33 : (y22_2).toInt ≠ 0 := by exact cb_nz (by exact (have a0 := in_u i28a; have a1 := in_u ((inv_F hIc22 0 4000 rfl v22_32_0)); have a2 := in_u ((inv_F hIc22 (-1) 4000 rfl v22_32_4)); have a3 := in_u i28; have a4 := in_u j22_3; have oc := oc_148_56_32; by omega))
        refine g_callv (X := _) (As := [.int y22_2]) (r := []) (b := A 56) (q := 56) 36 (gd rfl) rfl rfl rfl rfl rfl (ww_o rfl) (Nat.le_of_ble_eq_true rfl) (Nat.zero_le _) (Nat.zero_le _) (f_149_56 (by first | exact dq1 hd rfl | exact dq0 hd rfl | exact dq2 hd rfl | exact dq3 hd rfl | omega) hIc22 nz33) (fun e u h => h) (fun v u h => ?_)
        obtain ⟨z33, rfl, rfl, i33, p33, p33a⟩ := h
        show GG _ _ _ _ _ _ _ _ [.int z33] _ _ _
        refine g_istore 38 (gd rfl) rfl (Nat.le_of_ble_eq_true rfl) ?_
        refine g_iload_n 39 (gd rfl) rfl rfl ?_
        refine g_aload_n 40 (gd rfl) rfl rfl ?_
        refine g_getA (q2 := 59) 43 (gd rfl) rfl rfl rfl rfl ?_
        refine g_iload 45 (gd rfl) rfl rfl ?_
        refine g_iaload 46 (gd rfl) rfl (n := 32) rfl (in_ix i33 rfl) (fun z45 e45 => ?_)
        refine g_calls (As := [.int y22_3, .int z45]) (r := []) 49 (gd rfl) rfl rfl rfl rfl rfl (Nat.le_of_ble_eq_true rfl) (mc := 0) (ms := 0) (Nat.zero_le _) (Nat.zero_le _) (P := fun v u => _) ?_ (fun v u h => h)
        intro po46 xx46 hp46 hx46
        refine g_enter2 (k := 422) (N := 300) (by first | exact dq1 hd rfl | exact dq0 hd rfl | exact dq2 hd rfl | exact dq3 hd rfl | omega) rfl (Nat.le_of_ble_eq_true rfl) ?_
        refine g_iload_n 1 (gd rfl) rfl rfl ?_
        refine g_iload_n 2 (gd rfl) rfl rfl ?_
        refine g_cmp_lt 5 9 (gd rfl) rfl rfl (fun c46x2 => ?_) (fun c46x2 => ?_)
        · skip
          have i46x2 := r_lt1 0 2147483646 c46x2 j22_3 (i_rng z45) rfl
          have i46x2a := r_lt2 1 2147483647 c46x2 j22_3 (i_rng z45) rfl
          refine g_iload_n 10 (gd rfl) rfl rfl ?_
          refine g_ireturn (gd rfl) rfl rfl (hp46 _ _ ?_)
          show GG _ _ _ _ _ _ _ _ [.int z45] _ _ _
          refine g_istore_n 50 (gd rfl) rfl (Nat.le_of_ble_eq_true rfl) ?_
          refine g_aload_n 51 (gd rfl) rfl rfl ?_
          refine g_getA (q2 := 58) 54 (gd rfl) rfl rfl rfl rfl ?_
          refine g_iload 56 (gd rfl) rfl rfl ?_
          refine g_iload_n 57 (gd rfl) rfl rfl ?_
          refine g_iastore 58 (gd rfl) rfl (n := 32) rfl (in_ix i33 rfl) ?_
          have hI57 := inv_sI (q := 58) (j := z33.toNatClampNeg) hIc22 rfl (in_w (-2147483648) 2147483647 i46x2a rfl)
          refine g_iload_n 59 (gd rfl) rfl rfl ?_
          refine g_iconst 1 60 (gd rfl) rfl rfl ?_
          refine g_iload 62 (gd rfl) rfl rfl ?_
          refine g_ishl 63 (gd rfl) rfl (fun z62 e62 => ?_)
          refine g_iconst (-1) 64 (gd rfl) rfl rfl ?_
          refine g_ixor 65 (gd rfl) rfl (fun z64 e64 => ?_)
          refine g_iand 66 (gd rfl) rfl (fun z65 e65 => ?_)
          have hcb := cb_clr e62 e64 e65 i33 p33
          refine g_istore_n 67 (gd rfl) rfl (Nat.le_of_ble_eq_true rfl) ?_
          refine g_aload_n 68 (gd rfl) rfl rfl ?_
          refine g_aload_n 69 (gd rfl) rfl rfl ?_
          refine g_iload 71 (gd rfl) rfl rfl ?_
          have v71 : w22_32_4 = (sI sc22 58 z33.toNatClampNeg z45).2.2.1 32 4 := sI_F (v22_32_4)
          have v71a : w22_32_0 = (sI sc22 58 z33.toNatClampNeg z45).2.2.1 32 0 := sI_F (v22_32_0)
          have n71 : (w22_32_4).toInt = (w22_32_0).toInt := by first | exact n22_0 | (exact (have a0 := in_u i28a; have a1 := in_u ((inv_F hIc22 0 4000 rfl v22_32_0)); have a2 := in_u ((inv_F hIc22 (-1) 4000 rfl v22_32_4)); have a3 := in_u i28; have a4 := in_u i33; have a5 := in_u i46x2a; have oc := oc_148_56_32; by omega))
          have p71 : TQD (sI sc22 58 z33.toNatClampNeg z45) := by exact tqd_fr q_0 (show Fr fm_148_56_32 s (sI sc22 58 z33.toNatClampNeg z45) from (fr_sI rfl hFc22)) rfl
          have p71a : (∀ u : Nat, u < 32 → In ((sI sc22 58 z33.toNatClampNeg z45).1 59 u) (-20000) 20000) := by intro u hu; rw [sI_p (show Nat.beq 59 58 = false from rfl)]; have h9 := g22_1.1 u hu; exact ⟨by exact (have a0 := in_u i28a; have a1 := in_u ((inv_F hIc22 0 4000 rfl v22_32_0)); have a2 := in_u ((inv_F hIc22 (-1) 4000 rfl v22_32_4)); have a3 := in_u i28; have a4 := in_u i33; have a5 := in_u i46x2a; have oc := oc_148_56_32; by omega), by exact (have a0 := in_u i28a; have a1 := in_u ((inv_F hIc22 0 4000 rfl v22_32_0)); have a2 := in_u ((inv_F hIc22 (-1) 4000 rfl v22_32_4)); have a3 := in_u i28; have a4 := in_u i33; have a5 := in_u i46x2a; have oc := oc_148_56_32; by omega)⟩
          refine g_callv (X := _) (As := [.ref (A 32), .int z33]) (r := []) (b := A 56) (q := 56) 74 (gd rfl) rfl rfl rfl rfl rfl (ww_o rfl) (Nat.le_of_ble_eq_true rfl) (Nat.zero_le _) (Nat.zero_le _) (f_150_56_32 (by first | exact dq1 hd rfl | exact dq0 hd rfl | exact dq2 hd rfl | exact dq3 hd rfl | omega) hI57 (in_w 0 31 i33 rfl) v71 v71a n71 p71 p71a) (fun e u h => h) (fun v u h => ?_)
          obtain ⟨s71, hI71, hF71, rfl, rfl, p71b⟩ := h
          show GG _ _ _ _ _ _ _ _ [] _ _ _
          refine g_iinc 77 (gd rfl) rfl rfl (Nat.le_of_ble_eq_true rfl) (fun z74 e74 => ?_)
          have i74 := in_add 1 32 e74 i28 (in_c 1 rfl) rfl rfl
          refine g_goto 22 (gd rfl) rfl ?_
          have v22 : w22_32_4 = s71.2.2.1 32 4 := fr_F (s := (sI sc22 58 z33.toNatClampNeg z45)) (sI_F (v22_32_4)) hF71 rfl
          have v22a : w22_32_0 = s71.2.2.1 32 0 := fr_F (s := (sI sc22 58 z33.toNatClampNeg z45)) (sI_F (v22_32_0)) hF71 rfl
          have n22 : (w22_32_4).toInt = (w22_32_0).toInt := by first | exact n22_0 | (exact (have a0 := in_u i28a; have a1 := in_u ((inv_F hIc22 0 4000 rfl v22_32_0)); have a2 := in_u ((inv_F hIc22 (-1) 4000 rfl v22_32_4)); have a3 := in_u i28; have a4 := in_u i33; have a5 := in_u i74; have a6 := t_add e74 i28 (in_c 1 rfl) rfl; have a7 := in_u ((in_c 1 rfl)); have a8 := in_u i46x2a; have oc := oc_148_56_32; by omega))
          have n22a : (cb z65 : Int) = (u_32_1).toInt - (z74).toInt := by first | (have hcb := cb_m1; exact (have a0 := in_u i28a; have a1 := in_u ((inv_F hIc22 0 4000 rfl v22_32_0)); have a2 := in_u ((inv_F hIc22 (-1) 4000 rfl v22_32_4)); have a3 := in_u i28; have a4 := in_u i33; have a5 := in_u i74; have a6 := t_add e74 i28 (in_c 1 rfl) rfl; have a7 := in_u ((in_c 1 rfl)); have a8 := in_u i46x2a; have oc := oc_148_56_32; by omega)) | (have hcb := cb_all e5x18 e5x20 ‹_›; exact (have a0 := in_u i28a; have a1 := in_u ((inv_F hIc22 0 4000 rfl v22_32_0)); have a2 := in_u ((inv_F hIc22 (-1) 4000 rfl v22_32_4)); have a3 := in_u i28; have a4 := in_u i33; have a5 := in_u i74; have a6 := t_add e74 i28 (in_c 1 rfl) rfl; have a7 := in_u ((in_c 1 rfl)); have a8 := in_u i46x2a; have oc := oc_148_56_32; by omega)) | (exact (have a0 := in_u i28a; have a1 := in_u ((inv_F hIc22 0 4000 rfl v22_32_0)); have a2 := in_u ((inv_F hIc22 (-1) 4000 rfl v22_32_4)); have a3 := in_u i28; have a4 := in_u i33; have a5 := in_u i74; have a6 := t_add e74 i28 (in_c 1 rfl) rfl; have a7 := in_u ((in_c 1 rfl)); have a8 := in_u i46x2a; have oc := oc_148_56_32; by omega))
          have n22b : CPI (ARE (gvD s) 0) (ARE (gvD s) 1) (gvD s).2.2.2.2.2.2.1 (z74).toInt (z65) (z45).toInt ((s71).1 58) ((s71).1 59) := by exact cpi_s g22_1 p33 i33 p33a e62 e64 e65 (Or.inr ⟨by rw [e45], by rw [← e45]; exact (have a0 := in_u i28a; have a1 := in_u ((inv_F hIc22 0 4000 rfl v22_32_0)); have a2 := in_u ((inv_F hIc22 (-1) 4000 rfl v22_32_4)); have a3 := in_u i28; have a4 := in_u i33; have a5 := in_u i74; have a6 := t_add e74 i28 (in_c 1 rfl) rfl; have a7 := in_u ((in_c 1 rfl)); have a8 := in_u i46x2a; have oc := oc_148_56_32; by omega)⟩) rfl ((hF71.1 58 rfl).trans sI_q) (by have h9 := p71b; rw [gvD_fr (show Fr fm_148_56_32 s (sI sc22 58 z33.toNatClampNeg z45) from fr_sI rfl hFc22) rfl, sI_p (show Nat.beq 59 58 = false from rfl)] at h9; exact h9) (by exact (have a0 := in_u i28a; have a1 := in_u ((inv_F hIc22 0 4000 rfl v22_32_0)); have a2 := in_u ((inv_F hIc22 (-1) 4000 rfl v22_32_4)); have a3 := in_u i28; have a4 := in_u i33; have a5 := in_u i74; have a6 := t_add e74 i28 (in_c 1 rfl) rfl; have a7 := in_u ((in_c 1 rfl)); have a8 := in_u i46x2a; have oc := oc_148_56_32; by omega))
          exact gg_w (by first | exact Nat.le_add_right _ _ | exact gw2 | exact gw3 | exact gwe rfl | exact gwf rfl | exact gwg rfl | exact gwh rfl | omega) (gg_f (gf_cons rfl (gf_cons rfl (gf_cons rfl (gf_cons rfl (gf_cons rfl gf_nil))))) (ih22 s71 z65 z45 z74 w22_32_4 w22_32_0 hI71 (fr_tr rfl (fr_sI rfl hFc22) hF71) (in_w 0 2147483647 i46x2a rfl) (in_w 0 32 i74 rfl) v22 v22a n22 n22a n22b (m_up mm22 (t_add e74 i28 (in_c 1 rfl) rfl) (in_w 1 1 (in_c 1 rfl) rfl))))
        · skip
          refine g_iload_n 6 (gd rfl) rfl rfl ?_
          refine g_goto 10 (gd rfl) rfl ?_
          refine g_ireturn (gd rfl) rfl rfl (hp46 _ _ ?_)
          show GG _ _ _ _ _ _ _ _ [.int y22_3] _ _ _
          refine g_istore_n 50 (gd rfl) rfl (Nat.le_of_ble_eq_true rfl) ?_
          refine g_aload_n 51 (gd rfl) rfl rfl ?_
          refine g_getA (q2 := 58) 54 (gd rfl) rfl rfl rfl rfl ?_
          refine g_iload 56 (gd rfl) rfl rfl ?_
          refine g_iload_n 57 (gd rfl) rfl rfl ?_
          refine g_iastore 58 (gd rfl) rfl (n := 32) rfl (in_ix i33 rfl) ?_
          have hI57 := inv_sI (q := 58) (j := z33.toNatClampNeg) hIc22 rfl (in_w (-2147483648) 2147483647 j22_3 rfl)
          refine g_iload_n 59 (gd rfl) rfl rfl ?_
          refine g_iconst 1 60 (gd rfl) rfl rfl ?_
          refine g_iload 62 (gd rfl) rfl rfl ?_
          refine g_ishl 63 (gd rfl) rfl (fun z62 e62 => ?_)
          refine g_iconst (-1) 64 (gd rfl) rfl rfl ?_
          refine g_ixor 65 (gd rfl) rfl (fun z64 e64 => ?_)
          refine g_iand 66 (gd rfl) rfl (fun z65 e65 => ?_)
          have hcb := cb_clr e62 e64 e65 i33 p33
          refine g_istore_n 67 (gd rfl) rfl (Nat.le_of_ble_eq_true rfl) ?_
          refine g_aload_n 68 (gd rfl) rfl rfl ?_
          refine g_aload_n 69 (gd rfl) rfl rfl ?_
          refine g_iload 71 (gd rfl) rfl rfl ?_
          have v71 : w22_32_4 = (sI sc22 58 z33.toNatClampNeg y22_3).2.2.1 32 4 := sI_F (v22_32_4)
          have v71a : w22_32_0 = (sI sc22 58 z33.toNatClampNeg y22_3).2.2.1 32 0 := sI_F (v22_32_0)
          have n71 : (w22_32_4).toInt = (w22_32_0).toInt := by first | exact n22_0 | (exact (have a0 := in_u i28a; have a1 := in_u ((inv_F hIc22 0 4000 rfl v22_32_0)); have a2 := in_u ((inv_F hIc22 (-1) 4000 rfl v22_32_4)); have a3 := in_u i28; have a4 := in_u i33; have a5 := in_u j22_3; have oc := oc_148_56_32; by omega))
          have p71 : TQD (sI sc22 58 z33.toNatClampNeg y22_3) := by exact tqd_fr q_0 (show Fr fm_148_56_32 s (sI sc22 58 z33.toNatClampNeg y22_3) from (fr_sI rfl hFc22)) rfl
          have p71a : (∀ u : Nat, u < 32 → In ((sI sc22 58 z33.toNatClampNeg y22_3).1 59 u) (-20000) 20000) := by intro u hu; rw [sI_p (show Nat.beq 59 58 = false from rfl)]; have h9 := g22_1.1 u hu; exact ⟨by exact (have a0 := in_u i28a; have a1 := in_u ((inv_F hIc22 0 4000 rfl v22_32_0)); have a2 := in_u ((inv_F hIc22 (-1) 4000 rfl v22_32_4)); have a3 := in_u i28; have a4 := in_u i33; have a5 := in_u j22_3; have oc := oc_148_56_32; by omega), by exact (have a0 := in_u i28a; have a1 := in_u ((inv_F hIc22 0 4000 rfl v22_32_0)); have a2 := in_u ((inv_F hIc22 (-1) 4000 rfl v22_32_4)); have a3 := in_u i28; have a4 := in_u i33; have a5 := in_u j22_3; have oc := oc_148_56_32; by omega)⟩
          refine g_callv (X := _) (As := [.ref (A 32), .int z33]) (r := []) (b := A 56) (q := 56) 74 (gd rfl) rfl rfl rfl rfl rfl (ww_o rfl) (Nat.le_of_ble_eq_true rfl) (Nat.zero_le _) (Nat.zero_le _) (f_150_56_32 (by first | exact dq1 hd rfl | exact dq0 hd rfl | exact dq2 hd rfl | exact dq3 hd rfl | omega) hI57 (in_w 0 31 i33 rfl) v71 v71a n71 p71 p71a) (fun e u h => h) (fun v u h => ?_)
          obtain ⟨s71, hI71, hF71, rfl, rfl, p71b⟩ := h
          show GG _ _ _ _ _ _ _ _ [] _ _ _
          refine g_iinc 77 (gd rfl) rfl rfl (Nat.le_of_ble_eq_true rfl) (fun z74 e74 => ?_)
          have i74 := in_add 1 32 e74 i28 (in_c 1 rfl) rfl rfl
          refine g_goto 22 (gd rfl) rfl ?_
          have v22 : w22_32_4 = s71.2.2.1 32 4 := fr_F (s := (sI sc22 58 z33.toNatClampNeg y22_3)) (sI_F (v22_32_4)) hF71 rfl
          have v22a : w22_32_0 = s71.2.2.1 32 0 := fr_F (s := (sI sc22 58 z33.toNatClampNeg y22_3)) (sI_F (v22_32_0)) hF71 rfl
          have n22 : (w22_32_4).toInt = (w22_32_0).toInt := by first | exact n22_0 | (exact (have a0 := in_u i28a; have a1 := in_u ((inv_F hIc22 0 4000 rfl v22_32_0)); have a2 := in_u ((inv_F hIc22 (-1) 4000 rfl v22_32_4)); have a3 := in_u i28; have a4 := in_u i33; have a5 := in_u i74; have a6 := t_add e74 i28 (in_c 1 rfl) rfl; have a7 := in_u ((in_c 1 rfl)); have a8 := in_u j22_3; have oc := oc_148_56_32; by omega))
          have n22a : (cb z65 : Int) = (u_32_1).toInt - (z74).toInt := by first | (have hcb := cb_m1; exact (have a0 := in_u i28a; have a1 := in_u ((inv_F hIc22 0 4000 rfl v22_32_0)); have a2 := in_u ((inv_F hIc22 (-1) 4000 rfl v22_32_4)); have a3 := in_u i28; have a4 := in_u i33; have a5 := in_u i74; have a6 := t_add e74 i28 (in_c 1 rfl) rfl; have a7 := in_u ((in_c 1 rfl)); have a8 := in_u j22_3; have oc := oc_148_56_32; by omega)) | (have hcb := cb_all e5x18 e5x20 ‹_›; exact (have a0 := in_u i28a; have a1 := in_u ((inv_F hIc22 0 4000 rfl v22_32_0)); have a2 := in_u ((inv_F hIc22 (-1) 4000 rfl v22_32_4)); have a3 := in_u i28; have a4 := in_u i33; have a5 := in_u i74; have a6 := t_add e74 i28 (in_c 1 rfl) rfl; have a7 := in_u ((in_c 1 rfl)); have a8 := in_u j22_3; have oc := oc_148_56_32; by omega)) | (exact (have a0 := in_u i28a; have a1 := in_u ((inv_F hIc22 0 4000 rfl v22_32_0)); have a2 := in_u ((inv_F hIc22 (-1) 4000 rfl v22_32_4)); have a3 := in_u i28; have a4 := in_u i33; have a5 := in_u i74; have a6 := t_add e74 i28 (in_c 1 rfl) rfl; have a7 := in_u ((in_c 1 rfl)); have a8 := in_u j22_3; have oc := oc_148_56_32; by omega))
          have n22b : CPI (ARE (gvD s) 0) (ARE (gvD s) 1) (gvD s).2.2.2.2.2.2.1 (z74).toInt (z65) (y22_3).toInt ((s71).1 58) ((s71).1 59) := by exact cpi_s g22_1 p33 i33 p33a e62 e64 e65 (Or.inl ⟨rfl, by rw [← e45]; exact (have a0 := in_u i28a; have a1 := in_u ((inv_F hIc22 0 4000 rfl v22_32_0)); have a2 := in_u ((inv_F hIc22 (-1) 4000 rfl v22_32_4)); have a3 := in_u i28; have a4 := in_u i33; have a5 := in_u i74; have a6 := t_add e74 i28 (in_c 1 rfl) rfl; have a7 := in_u ((in_c 1 rfl)); have a8 := in_u j22_3; have oc := oc_148_56_32; by omega)⟩) rfl ((hF71.1 58 rfl).trans sI_q) (by have h9 := p71b; rw [gvD_fr (show Fr fm_148_56_32 s (sI sc22 58 z33.toNatClampNeg y22_3) from fr_sI rfl hFc22) rfl, sI_p (show Nat.beq 59 58 = false from rfl)] at h9; exact h9) (by exact (have a0 := in_u i28a; have a1 := in_u ((inv_F hIc22 0 4000 rfl v22_32_0)); have a2 := in_u ((inv_F hIc22 (-1) 4000 rfl v22_32_4)); have a3 := in_u i28; have a4 := in_u i33; have a5 := in_u i74; have a6 := t_add e74 i28 (in_c 1 rfl) rfl; have a7 := in_u ((in_c 1 rfl)); have a8 := in_u j22_3; have oc := oc_148_56_32; by omega))
          exact gg_w (by first | exact Nat.le_add_right _ _ | exact gw2 | exact gw3 | exact gwe rfl | exact gwf rfl | exact gwg rfl | exact gwh rfl | omega) (gg_f (gf_cons rfl (gf_cons rfl (gf_cons rfl (gf_cons rfl (gf_cons rfl gf_nil))))) (ih22 s71 z65 y22_3 z74 w22_32_4 w22_32_0 hI71 (fr_tr rfl (fr_sI rfl hFc22) hF71) (in_w 0 2147483647 j22_3 rfl) (in_w 0 32 i74 rfl) v22 v22a n22 n22a n22b (m_up mm22 (t_add e74 i28 (in_c 1 rfl) rfl) (in_w 1 1 (in_c 1 rfl) rfl))))
  refine g_enter2 (k := 148) (N := 30601) (by first | exact dq1 hd rfl | exact dq0 hd rfl | exact dq2 hd rfl | exact dq3 hd rfl | omega) rfl (Nat.le_of_ble_eq_true rfl) ?_
  refine g_aload_n 1 (gd rfl) rfl rfl ?_
  refine g_callv (X := _) (As := []) (r := []) (b := A 32) (q := 32) 4 (gd rfl) rfl rfl rfl rfl rfl (ww_o rfl) (Nat.le_of_ble_eq_true rfl) (Nat.zero_le _) (Nat.zero_le _) (k_106_32 (by first | exact dq1 hd rfl | exact dq0 hd rfl | exact dq2 hd rfl | exact dq3 hd rfl | omega) hI ) (fun e u h => h) (fun v u h => ?_)
  obtain ⟨s1, hI1, hF1, n1, rfl, rfl⟩ := h
  obtain ⟨z1a, e1⟩ : ∃ w, w = s1.2.2.1 32 4 := ⟨_, rfl⟩
  have i1a := inv_F hI1 (-1) 4000 rfl e1
  obtain ⟨z1b, e1a⟩ : ∃ w, w = s1.2.2.1 32 0 := ⟨_, rfl⟩
  have i1b := inv_F hI1 0 4000 rfl e1a
  rw [← (show z1a = s1.2.2.1 32 4 from e1)] at n1
  rw [← (show z1b = s1.2.2.1 32 0 from e1a)] at n1
  show GG _ _ _ _ _ _ _ _ [] _ _ _
  refine g_aload_n 5 (gd rfl) rfl rfl ?_
  refine g_callv (X := _) (As := []) (r := []) (b := A 32) (q := 32) 8 (gd rfl) rfl rfl rfl rfl rfl (ww_o rfl) (Nat.le_of_ble_eq_true rfl) (mc := 0) (ms := 0) (Nat.zero_le _) (Nat.zero_le _) (P := fun v u => _) ?_ (fun e u h => h) (fun v u h => h)
  intro po5 xx5 hp5 hx5
  refine g_enter2 (k := 102) (N := 300) (by first | exact dq1 hd rfl | exact dq0 hd rfl | exact dq2 hd rfl | exact dq3 hd rfl | omega) rfl (Nat.le_of_ble_eq_true rfl) ?_
  refine g_aload_n 1 (gd rfl) rfl rfl ?_
  refine g_getI 4 (gd rfl) rfl rfl rfl (fun z5x1 e5x1 => ?_)
  have q5x1 : u_32_1 = z5x1 := (fr_F (e_32_1) hF1 rfl).trans e5x1.symm
  subst q5x1
  refine g_bipush 32 6 (gd rfl) rfl rfl ?_
  refine g_cmp_lt 9 13 (gd rfl) rfl rfl (fun c5x6 => ?_) (fun c5x6 => ?_)
  · skip
    have i5x6 := r_lt1 0 31 c5x6 ro_32_1 (in_c 32 rfl) rfl
    refine g_iconst 1 14 (gd rfl) rfl rfl ?_
    refine g_aload_n 15 (gd rfl) rfl rfl ?_
    refine g_getI 18 (gd rfl) rfl rfl rfl (fun z5x15 e5x15 => ?_)
    have q5x15 : u_32_1 = z5x15 := (fr_F (e_32_1) hF1 rfl).trans e5x15.symm
    subst q5x15
    refine g_ishl 19 (gd rfl) rfl (fun z5x18 e5x18 => ?_)
    refine g_iconst 1 20 (gd rfl) rfl rfl ?_
    refine g_isub 21 (gd rfl) rfl (fun z5x20 e5x20 => ?_)
    refine g_ireturn (gd rfl) rfl rfl (hp5 _ _ ?_)
    show GG _ _ _ _ _ _ _ _ [.int z5x20] _ _ _
    refine g_istore_n 9 (gd rfl) rfl (Nat.le_of_ble_eq_true rfl) ?_
    refine g_iconst 0 10 (gd rfl) rfl rfl ?_
    refine g_istore_n 11 (gd rfl) rfl (Nat.le_of_ble_eq_true rfl) ?_
    refine g_aload_n 12 (gd rfl) rfl rfl ?_
    refine g_aload_n 13 (gd rfl) rfl rfl ?_
    refine g_getA (q2 := 59) 16 (gd rfl) rfl rfl rfl rfl ?_
    have p16 : TQD s1 := by exact tqd_fr q_0 hF1 rfl
    refine g_callv (X := _) (As := [.ref (A 59)]) (r := []) (b := A 32) (q := 32) 19 (gd rfl) rfl rfl rfl rfl rfl (ww_o rfl) (Nat.le_of_ble_eq_true rfl) (Nat.zero_le _) (Nat.zero_le _) (f_99_32_59 (by first | exact dq1 hd rfl | exact dq0 hd rfl | exact dq2 hd rfl | exact dq3 hd rfl | omega) hI1 p16) (fun e u h => h) (fun v u h => ?_)
    obtain ⟨s16, hI16, hF16, rfl, rfl, p16a⟩ := h
    show GG _ _ _ _ _ _ _ _ [] _ _ _
    refine g_iconst 0 20 (gd rfl) rfl rfl ?_
    refine g_istore 22 (gd rfl) rfl (Nat.le_of_ble_eq_true rfl) ?_
    have v22 : z1a = s16.2.2.1 32 4 := fr_F (e1) hF16 rfl
    have v22a : z1b = s16.2.2.1 32 0 := fr_F (e1a) hF16 rfl
    have n22 : (z1a).toInt = (z1b).toInt := by exact (have a0 := in_u i5x6; have a1 := in_u ((in_c 0 rfl)); have a2 := in_u i1b; have a3 := in_u i1a; have oc := oc_148_56_32; by omega)
    have n22a : (cb z5x20 : Int) = (u_32_1).toInt - ((Int32.ofInt 0)).toInt := by first | (have hcb := cb_m1; exact (have a0 := in_u i5x6; have a1 := in_u ((in_c 0 rfl)); have a2 := in_u i1b; have a3 := in_u i1a; have oc := oc_148_56_32; by omega)) | (have hcb := cb_all e5x18 e5x20 ‹_›; exact (have a0 := in_u i5x6; have a1 := in_u ((in_c 0 rfl)); have a2 := in_u i1b; have a3 := in_u i1a; have oc := oc_148_56_32; by omega)) | (exact (have a0 := in_u i5x6; have a1 := in_u ((in_c 0 rfl)); have a2 := in_u i1b; have a3 := in_u i1a; have oc := oc_148_56_32; by omega))
    have n22b : CPI (ARE (gvD s) 0) (ARE (gvD s) 1) (gvD s).2.2.2.2.2.2.1 ((Int32.ofInt 0)).toInt (z5x20) ((Int32.ofInt 0)).toInt ((s16).1 58) ((s16).1 59) := by exact cpi_0 (fun k => by show _ ↔ (k : Int) < (s.2.2.1 32 1).toInt; rw [← e_32_1]; exact all_a e5x18 e5x20 i5x6 k) (show (gvD s).2.2.2.2.2.2.1 ≤ 32 from (by show (s.2.2.1 32 1).toInt ≤ 32; rw [← e_32_1]; exact (have a0 := in_u i5x6; have a1 := in_u ((in_c 0 rfl)); have a2 := in_u i1b; have a3 := in_u i1a; have oc := oc_148_56_32; by omega))) (by have h9 := p16a; rw [gvD_fr hF1 rfl] at h9; exact h9) (ndq_i q_1) rfl rfl
    exact gg_w (by first | exact Nat.le_of_ble_eq_true rfl | omega) (gg_f (gf_cons rfl (gf_cons rfl (gf_cons rfl (gf_cons rfl (gf_cons rfl gf_nil))))) (ct22 33 s16 z5x20 (Int32.ofInt 0) (Int32.ofInt 0) z1a z1b hI16 (fr_tr rfl (fr_tr rfl fr_rf hF1) hF16) (in_w 0 2147483647 (in_c 0 rfl) rfl) (in_w 0 32 (in_c 0 rfl) rfl) v22 v22a n22 n22a n22b (m_in 33 (in_w 0 32 (in_c 0 rfl) rfl) rfl)))
  · skip
    have i5x6 := r_le2 32 32 c5x6 (in_c 32 rfl) ro_32_1 rfl
    refine g_iconst (-1) 10 (gd rfl) rfl rfl ?_
    refine g_goto 21 (gd rfl) rfl ?_
    refine g_ireturn (gd rfl) rfl rfl (hp5 _ _ ?_)
    show GG _ _ _ _ _ _ _ _ [.int (Int32.ofInt (-1))] _ _ _
    refine g_istore_n 9 (gd rfl) rfl (Nat.le_of_ble_eq_true rfl) ?_
    refine g_iconst 0 10 (gd rfl) rfl rfl ?_
    refine g_istore_n 11 (gd rfl) rfl (Nat.le_of_ble_eq_true rfl) ?_
    refine g_aload_n 12 (gd rfl) rfl rfl ?_
    refine g_aload_n 13 (gd rfl) rfl rfl ?_
    refine g_getA (q2 := 59) 16 (gd rfl) rfl rfl rfl rfl ?_
    have p16 : TQD s1 := by exact tqd_fr q_0 hF1 rfl
    refine g_callv (X := _) (As := [.ref (A 59)]) (r := []) (b := A 32) (q := 32) 19 (gd rfl) rfl rfl rfl rfl rfl (ww_o rfl) (Nat.le_of_ble_eq_true rfl) (Nat.zero_le _) (Nat.zero_le _) (f_99_32_59 (by first | exact dq1 hd rfl | exact dq0 hd rfl | exact dq2 hd rfl | exact dq3 hd rfl | omega) hI1 p16) (fun e u h => h) (fun v u h => ?_)
    obtain ⟨s16, hI16, hF16, rfl, rfl, p16a⟩ := h
    show GG _ _ _ _ _ _ _ _ [] _ _ _
    refine g_iconst 0 20 (gd rfl) rfl rfl ?_
    refine g_istore 22 (gd rfl) rfl (Nat.le_of_ble_eq_true rfl) ?_
    have v22 : z1a = s16.2.2.1 32 4 := fr_F (e1) hF16 rfl
    have v22a : z1b = s16.2.2.1 32 0 := fr_F (e1a) hF16 rfl
    have n22 : (z1a).toInt = (z1b).toInt := by exact (have a0 := in_u i5x6; have a1 := in_u ((in_c 0 rfl)); have a2 := in_u ((in_c (-1) rfl)); have a3 := in_u i1b; have a4 := in_u i1a; have oc := oc_148_56_32; by omega)
    have n22a : (cb (Int32.ofInt (-1)) : Int) = (u_32_1).toInt - ((Int32.ofInt 0)).toInt := by first | (have hcb := cb_m1; exact (have a0 := in_u i5x6; have a1 := in_u ((in_c 0 rfl)); have a2 := in_u ((in_c (-1) rfl)); have a3 := in_u i1b; have a4 := in_u i1a; have oc := oc_148_56_32; by omega)) | (have hcb := cb_all e5x18 e5x20 ‹_›; exact (have a0 := in_u i5x6; have a1 := in_u ((in_c 0 rfl)); have a2 := in_u ((in_c (-1) rfl)); have a3 := in_u i1b; have a4 := in_u i1a; have oc := oc_148_56_32; by omega)) | (exact (have a0 := in_u i5x6; have a1 := in_u ((in_c 0 rfl)); have a2 := in_u ((in_c (-1) rfl)); have a3 := in_u i1b; have a4 := in_u i1a; have oc := oc_148_56_32; by omega))
    have n22b : CPI (ARE (gvD s) 0) (ARE (gvD s) 1) (gvD s).2.2.2.2.2.2.1 ((Int32.ofInt 0)).toInt ((Int32.ofInt (-1))) ((Int32.ofInt 0)).toInt ((s16).1 58) ((s16).1 59) := by exact cpi_0 (fun k => by show _ ↔ (k : Int) < (s.2.2.1 32 1).toInt; rw [← e_32_1]; exact all_b (by exact (have a0 := in_u i5x6; have a1 := in_u ((in_c 0 rfl)); have a2 := in_u ((in_c (-1) rfl)); have a3 := in_u i1b; have a4 := in_u i1a; have oc := oc_148_56_32; by omega)) k) (show (gvD s).2.2.2.2.2.2.1 ≤ 32 from (by show (s.2.2.1 32 1).toInt ≤ 32; rw [← e_32_1]; exact (have a0 := in_u i5x6; have a1 := in_u ((in_c 0 rfl)); have a2 := in_u ((in_c (-1) rfl)); have a3 := in_u i1b; have a4 := in_u i1a; have oc := oc_148_56_32; by omega))) (by have h9 := p16a; rw [gvD_fr hF1 rfl] at h9; exact h9) (ndq_i q_1) rfl rfl
    exact gg_w (by first | exact Nat.le_of_ble_eq_true rfl | omega) (gg_f (gf_cons rfl (gf_cons rfl (gf_cons rfl (gf_cons rfl (gf_cons rfl gf_nil))))) (ct22 33 s16 (Int32.ofInt (-1)) (Int32.ofInt 0) (Int32.ofInt 0) z1a z1b hI16 (fr_tr rfl (fr_tr rfl fr_rf hF1) hF16) (in_w 0 2147483647 (in_c 0 rfl) rfl) (in_w 0 32 (in_c 0 rfl) rfl) v22 v22a n22 n22a n22b (m_in 33 (in_w 0 32 (in_c 0 rfl) rfl) rfl)))

def fm_147_56_2 : FM := ([9, 10, 11, 12, 13, 14, 15, 58, 59], [], [(2, 4), (56, 3)], [])
/-- GraphHouse$Parts.coreOf -/
theorem f_147_56_2 {Z : AmZ} {A : Nat → Nat} {s : GS} {ex : va_W} {d : Nat} {X : AmX} {x2 : Int32} (hd : 6 ≤ d) (hI : Inv s) (h2 : In x2 0 31) (q_0 : TQ s) (q_1 : NDQ (gvC s)) (q_2 : CRB (gvC s) s) : GC Z d 147 [.ref (A 56), .ref (A 2), .int x2] (WW Z A s ++ ex) 0 0 (fun v u => ∃ t : GS, Inv t ∧ Fr fm_147_56_2 s t ∧ ∃ z : Int32, v = some (.int z) ∧ u = WW Z A t ++ ex ∧ In z (-2147483648) 2147483647 ∧ (CRQ (gvC s) t) ∧ ((z) = (t).1 58 (x2).toNatClampNeg)) X := by
  intro post xp hP hX
  obtain ⟨u_2_0, e_2_0⟩ : ∃ w, w = s.2.2.1 2 0 := ⟨_, rfl⟩
  have ro_2_0 := inv_F hI 0 4000 rfl e_2_0
  refine g_enter2 (k := 147) (N := 900) (by first | exact dq1 hd rfl | exact dq0 hd rfl | exact dq2 hd rfl | exact dq3 hd rfl | omega) rfl (Nat.le_of_ble_eq_true rfl) ?_
  refine g_aload_n 1 (gd rfl) rfl rfl ?_
  refine g_getI 4 (gd rfl) rfl rfl rfl (fun z1 e1 => ?_)
  have i1 := inv_F hI (-1) 4000 rfl e1
  refine g_aload_n 5 (gd rfl) rfl rfl ?_
  refine g_getI 8 (gd rfl) rfl rfl rfl (fun z5 e5 => ?_)
  have q5 : u_2_0 = z5 := (e_2_0).trans e5.symm
  subst q5
  refine g_cmp_eq 11 24 (gd rfl) rfl rfl (fun c8 => ?_) (fun c8 => ?_)
  · skip
    have i8 := r_eq1 0 4000 c8 i1 ro_2_0 rfl
    refine g_aload_n 25 (gd rfl) rfl rfl ?_
    refine g_getA (q2 := 58) 28 (gd rfl) rfl rfl rfl rfl ?_
    refine g_iload_n 29 (gd rfl) rfl rfl ?_
    refine g_iaload 30 (gd rfl) rfl (n := 32) rfl (in_ix h2 rfl) (fun z29 e29 => ?_)
    have n30 : CRQ (gvC s) s := by exact ⟨(by show (s.2.2.1 56 3).toInt = (s.2.2.1 2 0).toInt; rw [← e1, ← e_2_0]; exact c8), q_2 (by show (s.2.2.1 56 3).toInt = (s.2.2.1 2 0).toInt; rw [← e1, ← e_2_0]; exact c8)⟩
    have n30a : (z29) = (s).1 58 (x2).toNatClampNeg := by exact e29
    exact g_ireturn (gd rfl) rfl rfl (hP _ _ ⟨s, hI, fr_rf, z29, rfl, rfl, in_w (-2147483648) 2147483647 (i_rng z29) rfl, n30, n30a⟩)
  · skip
    refine g_aload_n 12 (gd rfl) rfl rfl ?_
    refine g_aload_n 13 (gd rfl) rfl rfl ?_
    refine g_getI 16 (gd rfl) rfl rfl rfl (fun z13 e13 => ?_)
    have q13 : u_2_0 = z13 := (e_2_0).trans e13.symm
    subst q13
    refine g_putI 19 (gd rfl) rfl rfl rfl rfl ?_
    have hI16 := inv_sF (q := 56) (j := 3) hI rfl (in_w (-1) 4000 ro_2_0 rfl)
    refine g_aload_n 20 (gd rfl) rfl rfl ?_
    refine g_aload_n 21 (gd rfl) rfl rfl ?_
    have p21 : TQ (sF s 56 3 u_2_0) := by exact tq_fr q_0 (show Fr ([], [], [(56, 3)], []) s (sF s 56 3 u_2_0) from (fr_sF rfl fr_rf)) rfl
    have p21a : NDQ (gvC (sF s 56 3 u_2_0)) := by rw [gvC_cg (show Fr ([], [], [(56, 3)], []) s (sF s 56 3 u_2_0) from (fr_sF rfl fr_rf)) rfl]; exact q_1
    refine g_callv (X := _) (As := [.ref (A 2)]) (r := []) (b := A 56) (q := 56) 24 (gd rfl) rfl rfl rfl rfl rfl (ww_o rfl) (Nat.le_of_ble_eq_true rfl) (Nat.zero_le _) (Nat.zero_le _) (f_148_56_2 (by first | exact dq1 hd rfl | exact dq0 hd rfl | exact dq2 hd rfl | exact dq3 hd rfl | omega) hI16 p21 p21a) (fun e u h => h) (fun v u h => ?_)
    obtain ⟨s21, hI21, hF21, rfl, rfl, p21b⟩ := h
    show GG _ _ _ _ _ _ _ _ [] _ _ _
    refine g_aload_n 25 (gd rfl) rfl rfl ?_
    refine g_getA (q2 := 58) 28 (gd rfl) rfl rfl rfl rfl ?_
    refine g_iload_n 29 (gd rfl) rfl rfl ?_
    refine g_iaload 30 (gd rfl) rfl (n := 32) rfl (in_ix h2 rfl) (fun z29 e29 => ?_)
    have n30 : CRQ (gvC s) s21 := by exact ⟨(by show (s21.2.2.1 56 3).toInt = (s.2.2.1 2 0).toInt; rw [hF21.2.2.1 56 3 rfl, ← (show u_2_0 = (sF s 56 3 u_2_0).2.2.1 56 3 from sF_get), e_2_0]), by have h9 := p21b; rw [gvC_cg (show Fr ([], [], [(56, 3)], []) s (sF s 56 3 u_2_0) from fr_sF rfl fr_rf) rfl] at h9; exact h9⟩
    have n30a : (z29) = (s21).1 58 (x2).toNatClampNeg := by exact e29
    exact g_ireturn (gd rfl) rfl rfl (hP _ _ ⟨s21, hI21, (fr_tr rfl (fr_sF rfl fr_rf) hF21), z29, rfl, rfl, in_w (-2147483648) 2147483647 (i_rng z29) rfl, n30, n30a⟩)

def fm_147_56_32 : FM := ([39, 40, 41, 42, 43, 44, 45, 58, 59], [], [(32, 4), (56, 3)], [])
/-- GraphHouse$Parts.coreOf -/
theorem f_147_56_32 {Z : AmZ} {A : Nat → Nat} {s : GS} {ex : va_W} {d : Nat} {X : AmX} {x2 : Int32} (hd : 6 ≤ d) (hI : Inv s) (h2 : In x2 0 31) (q_0 : TQD s) (q_1 : NDQ (gvD s)) (q_2 : CRB (gvD s) s) : GC Z d 147 [.ref (A 56), .ref (A 32), .int x2] (WW Z A s ++ ex) 0 0 (fun v u => ∃ t : GS, Inv t ∧ Fr fm_147_56_32 s t ∧ ∃ z : Int32, v = some (.int z) ∧ u = WW Z A t ++ ex ∧ In z (-2147483648) 2147483647 ∧ (CRQ (gvD s) t) ∧ ((z) = (t).1 58 (x2).toNatClampNeg)) X := by
  intro post xp hP hX
  obtain ⟨u_32_0, e_32_0⟩ : ∃ w, w = s.2.2.1 32 0 := ⟨_, rfl⟩
  have ro_32_0 := inv_F hI 0 4000 rfl e_32_0
  refine g_enter2 (k := 147) (N := 900) (by first | exact dq1 hd rfl | exact dq0 hd rfl | exact dq2 hd rfl | exact dq3 hd rfl | omega) rfl (Nat.le_of_ble_eq_true rfl) ?_
  refine g_aload_n 1 (gd rfl) rfl rfl ?_
  refine g_getI 4 (gd rfl) rfl rfl rfl (fun z1 e1 => ?_)
  have i1 := inv_F hI (-1) 4000 rfl e1
  refine g_aload_n 5 (gd rfl) rfl rfl ?_
  refine g_getI 8 (gd rfl) rfl rfl rfl (fun z5 e5 => ?_)
  have q5 : u_32_0 = z5 := (e_32_0).trans e5.symm
  subst q5
  refine g_cmp_eq 11 24 (gd rfl) rfl rfl (fun c8 => ?_) (fun c8 => ?_)
  · skip
    have i8 := r_eq1 0 4000 c8 i1 ro_32_0 rfl
    refine g_aload_n 25 (gd rfl) rfl rfl ?_
    refine g_getA (q2 := 58) 28 (gd rfl) rfl rfl rfl rfl ?_
    refine g_iload_n 29 (gd rfl) rfl rfl ?_
    refine g_iaload 30 (gd rfl) rfl (n := 32) rfl (in_ix h2 rfl) (fun z29 e29 => ?_)
    have n30 : CRQ (gvD s) s := by exact ⟨(by show (s.2.2.1 56 3).toInt = (s.2.2.1 32 0).toInt; rw [← e1, ← e_32_0]; exact c8), q_2 (by show (s.2.2.1 56 3).toInt = (s.2.2.1 32 0).toInt; rw [← e1, ← e_32_0]; exact c8)⟩
    have n30a : (z29) = (s).1 58 (x2).toNatClampNeg := by exact e29
    exact g_ireturn (gd rfl) rfl rfl (hP _ _ ⟨s, hI, fr_rf, z29, rfl, rfl, in_w (-2147483648) 2147483647 (i_rng z29) rfl, n30, n30a⟩)
  · skip
    refine g_aload_n 12 (gd rfl) rfl rfl ?_
    refine g_aload_n 13 (gd rfl) rfl rfl ?_
    refine g_getI 16 (gd rfl) rfl rfl rfl (fun z13 e13 => ?_)
    have q13 : u_32_0 = z13 := (e_32_0).trans e13.symm
    subst q13
    refine g_putI 19 (gd rfl) rfl rfl rfl rfl ?_
    have hI16 := inv_sF (q := 56) (j := 3) hI rfl (in_w (-1) 4000 ro_32_0 rfl)
    refine g_aload_n 20 (gd rfl) rfl rfl ?_
    refine g_aload_n 21 (gd rfl) rfl rfl ?_
    have p21 : TQD (sF s 56 3 u_32_0) := by exact tqd_fr q_0 (show Fr ([], [], [(56, 3)], []) s (sF s 56 3 u_32_0) from (fr_sF rfl fr_rf)) rfl
    have p21a : NDQ (gvD (sF s 56 3 u_32_0)) := by rw [gvD_fr (show Fr ([], [], [(56, 3)], []) s (sF s 56 3 u_32_0) from (fr_sF rfl fr_rf)) rfl]; exact q_1
    refine g_callv (X := _) (As := [.ref (A 32)]) (r := []) (b := A 56) (q := 56) 24 (gd rfl) rfl rfl rfl rfl rfl (ww_o rfl) (Nat.le_of_ble_eq_true rfl) (Nat.zero_le _) (Nat.zero_le _) (f_148_56_32 (by first | exact dq1 hd rfl | exact dq0 hd rfl | exact dq2 hd rfl | exact dq3 hd rfl | omega) hI16 p21 p21a) (fun e u h => h) (fun v u h => ?_)
    obtain ⟨s21, hI21, hF21, rfl, rfl, p21b⟩ := h
    show GG _ _ _ _ _ _ _ _ [] _ _ _
    refine g_aload_n 25 (gd rfl) rfl rfl ?_
    refine g_getA (q2 := 58) 28 (gd rfl) rfl rfl rfl rfl ?_
    refine g_iload_n 29 (gd rfl) rfl rfl ?_
    refine g_iaload 30 (gd rfl) rfl (n := 32) rfl (in_ix h2 rfl) (fun z29 e29 => ?_)
    have n30 : CRQ (gvD s) s21 := by exact ⟨(by show (s21.2.2.1 56 3).toInt = (s.2.2.1 32 0).toInt; rw [hF21.2.2.1 56 3 rfl, ← (show u_32_0 = (sF s 56 3 u_32_0).2.2.1 56 3 from sF_get), e_32_0]), by have h9 := p21b; rw [gvD_fr (show Fr ([], [], [(56, 3)], []) s (sF s 56 3 u_32_0) from fr_sF rfl fr_rf) rfl] at h9; exact h9⟩
    have n30a : (z29) = (s21).1 58 (x2).toNatClampNeg := by exact e29
    exact g_ireturn (gd rfl) rfl rfl (hP _ _ ⟨s21, hI21, (fr_tr rfl (fr_sF rfl fr_rf) hF21), z29, rfl, rfl, in_w (-2147483648) 2147483647 (i_rng z29) rfl, n30, n30a⟩)

theorem oc_238_0 : (Int32.ofInt (-1)).toInt = (-1) ∧ (Int32.ofInt 0).toInt = 0 ∧ (Int32.ofInt 1).toInt = 1 := ⟨rfl, rfl, rfl⟩
/-- GraphHouse.core -/
theorem f_238_0 {Z : AmZ} {A : Nat → Nat} {s : GS} {ex : va_W} {d : Nat} {x1 : Int32} (hd : 7 ≤ d) (hI : Inv s) (q_0 : TQ s) (q_1 : TQD s) (q_2 : NDC s) (q_3 : CRC s) : GC Z d 238 [.ref (A 0), .int x1] (WW Z A s ++ ex) 3 18 (fun v u => ∃ t : GS, Inv t ∧ Fr fm_238_0 s t ∧ ∃ z : Int32, v = some (.int z) ∧ u = WW Z A t ++ ex ∧ In z (-2147483648) 2147483647 ∧ ((0 ≤ x1.toInt ∧ x1.toInt < (shC s).2.2.2.2.2.2.1) ∧ COR (shC s) x1.toNatClampNeg (z).toInt) ∧ (CRQ (shC s) t)) (gEx Z A ex ([], [], [], []) s (¬ (0 ≤ x1.toInt ∧ x1.toInt < (shC s).2.2.2.2.2.2.1)) (False)) := by
  intro post xp hP hX
  obtain ⟨u_0_2, e_0_2⟩ : ∃ w, w = s.2.2.1 0 2 := ⟨_, rfl⟩
  have ro_0_2 := inv_F hI (-1) 4000 rfl e_0_2
  obtain ⟨u_2_0, e_2_0⟩ : ∃ w, w = s.2.2.1 2 0 := ⟨_, rfl⟩
  have ro_2_0 := inv_F hI 0 4000 rfl e_2_0
  obtain ⟨u_2_1, e_2_1⟩ : ∃ w, w = s.2.2.1 2 1 := ⟨_, rfl⟩
  have ro_2_1 := inv_F hI 0 32 rfl e_2_1
  obtain ⟨u_32_0, e_32_0⟩ : ∃ w, w = s.2.2.1 32 0 := ⟨_, rfl⟩
  have ro_32_0 := inv_F hI 0 4000 rfl e_32_0
  obtain ⟨u_32_1, e_32_1⟩ : ∃ w, w = s.2.2.1 32 1 := ⟨_, rfl⟩
  have ro_32_1 := inv_F hI 0 32 rfl e_32_1
  refine g_enter2 (k := 238) (N := 900) (by first | exact dq1 hd rfl | exact dq0 hd rfl | exact dq2 hd rfl | exact dq3 hd rfl | omega) rfl (Nat.le_of_ble_eq_true rfl) ?_
  refine g_aload_n 1 (gd rfl) rfl rfl ?_
  refine g_callv (X := _) (As := []) (r := []) (b := A 0) (q := 0) 4 (gd rfl) rfl rfl rfl rfl rfl (ww_o rfl) (Nat.le_of_ble_eq_true rfl) (mc := 0) (ms := 0) (Nat.zero_le _) (Nat.zero_le _) (P := fun v u => _) ?_ (fun e u h => h) (fun v u h => h)
  intro po1 xx1 hp1 hx1
  refine g_enter2 (k := 259) (N := 300) (by first | exact dq1 hd rfl | exact dq0 hd rfl | exact dq2 hd rfl | exact dq3 hd rfl | omega) rfl (Nat.le_of_ble_eq_true rfl) ?_
  refine g_aload_n 1 (gd rfl) rfl rfl ?_
  refine g_getI 4 (gd rfl) rfl rfl rfl (fun z1x1 e1x1 => ?_)
  have q1x1 : u_0_2 = z1x1 := (e_0_2).trans e1x1.symm
  subst q1x1
  refine g_iconst (-1) 5 (gd rfl) rfl rfl ?_
  refine g_cmp_ne 8 18 (gd rfl) rfl rfl (fun c1x5 => ?_) (fun c1x5 => ?_)
  · skip
    have i1x5 := r_ne1 0 4000 c1x5 ro_0_2 (in_c (-1) rfl) rfl
    refine g_aload_n 19 (gd rfl) rfl rfl ?_
    refine g_getA (q2 := 32) 22 (gd rfl) rfl rfl rfl rfl ?_
    refine g_areturn (gd rfl) rfl (hp1 _ _ ?_)
    show GG _ _ _ _ _ _ _ _ [.ref (A 32)] _ _ _
    refine g_astore_n 5 (gd rfl) rfl (Nat.le_of_ble_eq_true rfl) ?_
    refine g_aload_n 6 (gd rfl) rfl rfl ?_
    refine g_iload_n 7 (gd rfl) rfl rfl ?_
    refine g_callv (X := _) (As := [.int x1]) (r := []) (b := A 32) (q := 32) 10 (gd rfl) rfl rfl rfl rfl rfl (ww_o rfl) (Nat.le_of_ble_eq_true rfl) (mc := 0) (ms := 0) (Nat.zero_le _) (Nat.zero_le _) (P := fun v u => _) ?_ (fun e u h => h) (fun v u h => h)
    intro po7 xx7 hp7 hx7
    refine g_enter2 (k := 94) (N := 300) (by first | exact dq1 hd rfl | exact dq0 hd rfl | exact dq2 hd rfl | exact dq3 hd rfl | omega) rfl (Nat.le_of_ble_eq_true rfl) ?_
    refine g_iload_n 1 (gd rfl) rfl rfl ?_
    refine g_if_lt 4 16 (gd rfl) rfl rfl (fun c7x1 => ?_) (fun c7x1 => ?_)
    · skip
      have i7x1 := z_lt (-2147483648) (-1) c7x1 (i_rng x1) rfl
      refine g_iconst 0 17 (gd rfl) rfl rfl ?_
      refine g_ireturn (gd rfl) rfl (nb01 (in_w 0 1 (in_c 0 rfl) rfl)) (hp7 _ _ ?_)
      show GG _ _ _ _ _ _ _ _ [.int (Int32.ofInt 0)] _ _ _
      refine g_thr (E := am_IA) (y := yX11_allow) 13 (gd rfl) rfl rfl (Or.inl ⟨rfl, rfl, rfl⟩) (by first | exact dq1 hd rfl | exact dq0 hd rfl | exact dq2 hd rfl | exact dq3 hd rfl | omega) (Nat.le_of_ble_eq_true rfl) (Nat.le_of_ble_eq_true rfl) (Nat.le_of_ble_eq_true rfl) (fun c10 => ?_) (fun c10 => ?_)
      · skip
        exact zn_ne c10 (in_c 0 rfl) rfl
      · skip
        have n10 : ¬ (0 ≤ x1.toInt ∧ x1.toInt < (shC s).2.2.2.2.2.2.1) := by first | (rw [shC_n (by rw [← e1x1]; exact c1x5)]; show ¬ (0 ≤ x1.toInt ∧ x1.toInt < (s.2.2.1 2 1).toInt); rw [← e_2_1]; exact (have a0 := in_u ro_32_1; have a1 := in_u ro_32_0; have a2 := in_u ro_2_1; have a3 := in_u ro_2_0; have a4 := in_u i1x5; have a5 := in_u i7x1; have oc := oc_238_0; by omega)) | (rw [shC_d (by rw [← e1x1]; exact c1x5)]; show ¬ (0 ≤ x1.toInt ∧ x1.toInt < (s.2.2.1 32 1).toInt); rw [← e_32_1]; exact (have a0 := in_u ro_32_1; have a1 := in_u ro_32_0; have a2 := in_u ro_2_1; have a3 := in_u ro_2_0; have a4 := in_u i1x5; have a5 := in_u i7x1; have oc := oc_238_0; by omega))
        exact (hX _ _ ⟨Or.inl ⟨rfl, n10⟩, s, hI, fr_rf, rfl⟩)
    · skip
      have i7x1 := z_ge 0 2147483647 c7x1 (i_rng x1) rfl
      refine g_iload_n 5 (gd rfl) rfl rfl ?_
      refine g_aload_n 6 (gd rfl) rfl rfl ?_
      refine g_getI 9 (gd rfl) rfl rfl rfl (fun z7x6 e7x6 => ?_)
      have q7x6 : u_32_1 = z7x6 := (e_32_1).trans e7x6.symm
      subst q7x6
      refine g_cmp_ge 12 16 (gd rfl) rfl rfl (fun c7x9 => ?_) (fun c7x9 => ?_)
      · skip
        refine g_iconst 0 17 (gd rfl) rfl rfl ?_
        refine g_ireturn (gd rfl) rfl (nb01 (in_w 0 1 (in_c 0 rfl) rfl)) (hp7 _ _ ?_)
        show GG _ _ _ _ _ _ _ _ [.int (Int32.ofInt 0)] _ _ _
        refine g_thr (E := am_IA) (y := yX11_allow) 13 (gd rfl) rfl rfl (Or.inl ⟨rfl, rfl, rfl⟩) (by first | exact dq1 hd rfl | exact dq0 hd rfl | exact dq2 hd rfl | exact dq3 hd rfl | omega) (Nat.le_of_ble_eq_true rfl) (Nat.le_of_ble_eq_true rfl) (Nat.le_of_ble_eq_true rfl) (fun c10 => ?_) (fun c10 => ?_)
        · skip
          exact zn_ne c10 (in_c 0 rfl) rfl
        · skip
          have n10 : ¬ (0 ≤ x1.toInt ∧ x1.toInt < (shC s).2.2.2.2.2.2.1) := by first | (rw [shC_n (by rw [← e1x1]; exact c1x5)]; show ¬ (0 ≤ x1.toInt ∧ x1.toInt < (s.2.2.1 2 1).toInt); rw [← e_2_1]; exact (have a0 := in_u ro_32_1; have a1 := in_u ro_32_0; have a2 := in_u ro_2_1; have a3 := in_u ro_2_0; have a4 := in_u i1x5; have a5 := in_u i7x1; have oc := oc_238_0; by omega)) | (rw [shC_d (by rw [← e1x1]; exact c1x5)]; show ¬ (0 ≤ x1.toInt ∧ x1.toInt < (s.2.2.1 32 1).toInt); rw [← e_32_1]; exact (have a0 := in_u ro_32_1; have a1 := in_u ro_32_0; have a2 := in_u ro_2_1; have a3 := in_u ro_2_0; have a4 := in_u i1x5; have a5 := in_u i7x1; have oc := oc_238_0; by omega))
          exact (hX _ _ ⟨Or.inl ⟨rfl, n10⟩, s, hI, fr_rf, rfl⟩)
      · skip
        have i7x9 := r_lt1 0 31 c7x9 i7x1 ro_32_1 rfl
        have i7x9a := r_lt2 1 32 c7x9 i7x1 ro_32_1 rfl
        refine g_iconst 1 13 (gd rfl) rfl rfl ?_
        refine g_goto 17 (gd rfl) rfl ?_
        refine g_ireturn (gd rfl) rfl (nb01 (in_w 0 1 (in_c 1 rfl) rfl)) (hp7 _ _ ?_)
        show GG _ _ _ _ _ _ _ _ [.int (Int32.ofInt 1)] _ _ _
        refine g_thr (E := am_IA) (y := yX11_allow) 13 (gd rfl) rfl rfl (Or.inl ⟨rfl, rfl, rfl⟩) (by first | exact dq1 hd rfl | exact dq0 hd rfl | exact dq2 hd rfl | exact dq3 hd rfl | omega) (Nat.le_of_ble_eq_true rfl) (Nat.le_of_ble_eq_true rfl) (Nat.le_of_ble_eq_true rfl) (fun c10 => ?_) (fun c10 => ?_)
        · skip
          refine g_aload_n 14 (gd rfl) rfl rfl ?_
          refine g_getA (q2 := 56) 17 (gd rfl) rfl rfl rfl rfl ?_
          refine g_aload_n 18 (gd rfl) rfl rfl ?_
          refine g_iload_n 19 (gd rfl) rfl rfl ?_
          have p19 : TQD s := by first | exact q_0 | exact q_1
          have p19a : NDQ (gvD s) := by first | (rw [← shC_n (by rw [← e1x1]; exact c1x5)]; exact q_2) | (rw [← shC_d (by rw [← e1x1]; exact c1x5)]; exact q_2)
          have p19b : CRB (gvD s) s := by first | (rw [← shC_n (by rw [← e1x1]; exact c1x5)]; exact q_3) | (rw [← shC_d (by rw [← e1x1]; exact c1x5)]; exact q_3)
          refine g_callv (X := _) (As := [.ref (A 32), .int x1]) (r := []) (b := A 56) (q := 56) 22 (gd rfl) rfl rfl rfl rfl rfl (ww_o rfl) (Nat.le_of_ble_eq_true rfl) (Nat.zero_le _) (Nat.zero_le _) (f_147_56_32 (by first | exact dq1 hd rfl | exact dq0 hd rfl | exact dq2 hd rfl | exact dq3 hd rfl | omega) hI (in_w 0 31 i7x9 rfl) p19 p19a p19b) (fun e u h => h) (fun v u h => ?_)
          obtain ⟨s19, hI19, hF19, z19, rfl, rfl, i19, p19c, p19d⟩ := h
          show GG _ _ _ _ _ _ _ _ [.int z19] _ _ _
          have n22 : (0 ≤ x1.toInt ∧ x1.toInt < (shC s).2.2.2.2.2.2.1) ∧ COR (shC s) x1.toNatClampNeg (z19).toInt := by first | (rw [shC_n (by rw [← e1x1]; exact c1x5)]; exact ⟨⟨by exact (have a0 := in_u i7x9; have a1 := in_u i7x9a; have a2 := in_u ro_32_0; have a3 := in_u ro_2_1; have a4 := in_u ro_2_0; have a5 := in_u i1x5; have oc := oc_238_0; by omega), by show x1.toInt < (s.2.2.1 2 1).toInt; rw [← e_2_1]; exact (have a0 := in_u i7x9; have a1 := in_u i7x9a; have a2 := in_u ro_32_0; have a3 := in_u ro_2_1; have a4 := in_u ro_2_0; have a5 := in_u i1x5; have oc := oc_238_0; by omega)⟩, by rw [p19d]; exact p19c.2 _ (by show ((x1.toInt.toNat : Nat) : Int) < (s.2.2.1 2 1).toInt; rw [← e_2_1]; exact (have a0 := in_u i7x9; have a1 := in_u i7x9a; have a2 := in_u ro_32_0; have a3 := in_u ro_2_1; have a4 := in_u ro_2_0; have a5 := in_u i1x5; have oc := oc_238_0; by omega))⟩) | (rw [shC_d (by rw [← e1x1]; exact c1x5)]; exact ⟨⟨by exact (have a0 := in_u i7x9; have a1 := in_u i7x9a; have a2 := in_u ro_32_0; have a3 := in_u ro_2_1; have a4 := in_u ro_2_0; have a5 := in_u i1x5; have oc := oc_238_0; by omega), by show x1.toInt < (s.2.2.1 32 1).toInt; rw [← e_32_1]; exact (have a0 := in_u i7x9; have a1 := in_u i7x9a; have a2 := in_u ro_32_0; have a3 := in_u ro_2_1; have a4 := in_u ro_2_0; have a5 := in_u i1x5; have oc := oc_238_0; by omega)⟩, by rw [p19d]; exact p19c.2 _ (by show ((x1.toInt.toNat : Nat) : Int) < (s.2.2.1 32 1).toInt; rw [← e_32_1]; exact (have a0 := in_u i7x9; have a1 := in_u i7x9a; have a2 := in_u ro_32_0; have a3 := in_u ro_2_1; have a4 := in_u ro_2_0; have a5 := in_u i1x5; have oc := oc_238_0; by omega))⟩)
          have n22a : CRQ (shC s) s19 := by first | (rw [shC_n (by rw [← e1x1]; exact c1x5)]; exact p19c) | (rw [shC_d (by rw [← e1x1]; exact c1x5)]; exact p19c)
          exact g_ireturn (gd rfl) rfl rfl (hP _ _ ⟨s19, hI19, (fr_tr rfl fr_rf hF19), z19, rfl, rfl, in_w (-2147483648) 2147483647 i19 rfl, n22, n22a⟩)
        · skip
          exact zn_eq c10 (in_c 1 rfl) rfl
  · skip
    have i1x5 := r_eq1 (-1) (-1) c1x5 ro_0_2 (in_c (-1) rfl) rfl
    refine g_aload_n 9 (gd rfl) rfl rfl ?_
    refine g_getA (q2 := 1) 12 (gd rfl) rfl rfl rfl rfl ?_
    refine g_getA (q2 := 2) 15 (gd rfl) rfl rfl rfl rfl ?_
    refine g_goto 22 (gd rfl) rfl ?_
    refine g_areturn (gd rfl) rfl (hp1 _ _ ?_)
    show GG _ _ _ _ _ _ _ _ [.ref (A 2)] _ _ _
    refine g_astore_n 5 (gd rfl) rfl (Nat.le_of_ble_eq_true rfl) ?_
    refine g_aload_n 6 (gd rfl) rfl rfl ?_
    refine g_iload_n 7 (gd rfl) rfl rfl ?_
    refine g_callv (X := _) (As := [.int x1]) (r := []) (b := A 2) (q := 2) 10 (gd rfl) rfl rfl rfl rfl rfl (ww_o rfl) (Nat.le_of_ble_eq_true rfl) (mc := 0) (ms := 0) (Nat.zero_le _) (Nat.zero_le _) (P := fun v u => _) ?_ (fun e u h => h) (fun v u h => h)
    intro po7 xx7 hp7 hx7
    refine g_enter2 (k := 94) (N := 300) (by first | exact dq1 hd rfl | exact dq0 hd rfl | exact dq2 hd rfl | exact dq3 hd rfl | omega) rfl (Nat.le_of_ble_eq_true rfl) ?_
    refine g_iload_n 1 (gd rfl) rfl rfl ?_
    refine g_if_lt 4 16 (gd rfl) rfl rfl (fun c7x1 => ?_) (fun c7x1 => ?_)
    · skip
      have i7x1 := z_lt (-2147483648) (-1) c7x1 (i_rng x1) rfl
      refine g_iconst 0 17 (gd rfl) rfl rfl ?_
      refine g_ireturn (gd rfl) rfl (nb01 (in_w 0 1 (in_c 0 rfl) rfl)) (hp7 _ _ ?_)
      show GG _ _ _ _ _ _ _ _ [.int (Int32.ofInt 0)] _ _ _
      refine g_thr (E := am_IA) (y := yX11_allow) 13 (gd rfl) rfl rfl (Or.inl ⟨rfl, rfl, rfl⟩) (by first | exact dq1 hd rfl | exact dq0 hd rfl | exact dq2 hd rfl | exact dq3 hd rfl | omega) (Nat.le_of_ble_eq_true rfl) (Nat.le_of_ble_eq_true rfl) (Nat.le_of_ble_eq_true rfl) (fun c10 => ?_) (fun c10 => ?_)
      · skip
        exact zn_ne c10 (in_c 0 rfl) rfl
      · skip
        have n10 : ¬ (0 ≤ x1.toInt ∧ x1.toInt < (shC s).2.2.2.2.2.2.1) := by first | (rw [shC_n (by rw [← e1x1]; exact c1x5)]; show ¬ (0 ≤ x1.toInt ∧ x1.toInt < (s.2.2.1 2 1).toInt); rw [← e_2_1]; exact (have a0 := in_u ro_32_1; have a1 := in_u ro_32_0; have a2 := in_u ro_2_1; have a3 := in_u ro_2_0; have a4 := in_u i1x5; have a5 := in_u i7x1; have oc := oc_238_0; by omega)) | (rw [shC_d (by rw [← e1x1]; exact c1x5)]; show ¬ (0 ≤ x1.toInt ∧ x1.toInt < (s.2.2.1 32 1).toInt); rw [← e_32_1]; exact (have a0 := in_u ro_32_1; have a1 := in_u ro_32_0; have a2 := in_u ro_2_1; have a3 := in_u ro_2_0; have a4 := in_u i1x5; have a5 := in_u i7x1; have oc := oc_238_0; by omega))
        exact (hX _ _ ⟨Or.inl ⟨rfl, n10⟩, s, hI, fr_rf, rfl⟩)
    · skip
      have i7x1 := z_ge 0 2147483647 c7x1 (i_rng x1) rfl
      refine g_iload_n 5 (gd rfl) rfl rfl ?_
      refine g_aload_n 6 (gd rfl) rfl rfl ?_
      refine g_getI 9 (gd rfl) rfl rfl rfl (fun z7x6 e7x6 => ?_)
      have q7x6 : u_2_1 = z7x6 := (e_2_1).trans e7x6.symm
      subst q7x6
      refine g_cmp_ge 12 16 (gd rfl) rfl rfl (fun c7x9 => ?_) (fun c7x9 => ?_)
      · skip
        refine g_iconst 0 17 (gd rfl) rfl rfl ?_
        refine g_ireturn (gd rfl) rfl (nb01 (in_w 0 1 (in_c 0 rfl) rfl)) (hp7 _ _ ?_)
        show GG _ _ _ _ _ _ _ _ [.int (Int32.ofInt 0)] _ _ _
        refine g_thr (E := am_IA) (y := yX11_allow) 13 (gd rfl) rfl rfl (Or.inl ⟨rfl, rfl, rfl⟩) (by first | exact dq1 hd rfl | exact dq0 hd rfl | exact dq2 hd rfl | exact dq3 hd rfl | omega) (Nat.le_of_ble_eq_true rfl) (Nat.le_of_ble_eq_true rfl) (Nat.le_of_ble_eq_true rfl) (fun c10 => ?_) (fun c10 => ?_)
        · skip
          exact zn_ne c10 (in_c 0 rfl) rfl
        · skip
          have n10 : ¬ (0 ≤ x1.toInt ∧ x1.toInt < (shC s).2.2.2.2.2.2.1) := by first | (rw [shC_n (by rw [← e1x1]; exact c1x5)]; show ¬ (0 ≤ x1.toInt ∧ x1.toInt < (s.2.2.1 2 1).toInt); rw [← e_2_1]; exact (have a0 := in_u ro_32_1; have a1 := in_u ro_32_0; have a2 := in_u ro_2_1; have a3 := in_u ro_2_0; have a4 := in_u i1x5; have a5 := in_u i7x1; have oc := oc_238_0; by omega)) | (rw [shC_d (by rw [← e1x1]; exact c1x5)]; show ¬ (0 ≤ x1.toInt ∧ x1.toInt < (s.2.2.1 32 1).toInt); rw [← e_32_1]; exact (have a0 := in_u ro_32_1; have a1 := in_u ro_32_0; have a2 := in_u ro_2_1; have a3 := in_u ro_2_0; have a4 := in_u i1x5; have a5 := in_u i7x1; have oc := oc_238_0; by omega))
          exact (hX _ _ ⟨Or.inl ⟨rfl, n10⟩, s, hI, fr_rf, rfl⟩)
      · skip
        have i7x9 := r_lt1 0 31 c7x9 i7x1 ro_2_1 rfl
        have i7x9a := r_lt2 1 32 c7x9 i7x1 ro_2_1 rfl
        refine g_iconst 1 13 (gd rfl) rfl rfl ?_
        refine g_goto 17 (gd rfl) rfl ?_
        refine g_ireturn (gd rfl) rfl (nb01 (in_w 0 1 (in_c 1 rfl) rfl)) (hp7 _ _ ?_)
        show GG _ _ _ _ _ _ _ _ [.int (Int32.ofInt 1)] _ _ _
        refine g_thr (E := am_IA) (y := yX11_allow) 13 (gd rfl) rfl rfl (Or.inl ⟨rfl, rfl, rfl⟩) (by first | exact dq1 hd rfl | exact dq0 hd rfl | exact dq2 hd rfl | exact dq3 hd rfl | omega) (Nat.le_of_ble_eq_true rfl) (Nat.le_of_ble_eq_true rfl) (Nat.le_of_ble_eq_true rfl) (fun c10 => ?_) (fun c10 => ?_)
        · skip
          refine g_aload_n 14 (gd rfl) rfl rfl ?_
          refine g_getA (q2 := 56) 17 (gd rfl) rfl rfl rfl rfl ?_
          refine g_aload_n 18 (gd rfl) rfl rfl ?_
          refine g_iload_n 19 (gd rfl) rfl rfl ?_
          have p19 : TQ s := by first | exact q_0 | exact q_1
          have p19a : NDQ (gvC s) := by first | (rw [← shC_n (by rw [← e1x1]; exact c1x5)]; exact q_2) | (rw [← shC_d (by rw [← e1x1]; exact c1x5)]; exact q_2)
          have p19b : CRB (gvC s) s := by first | (rw [← shC_n (by rw [← e1x1]; exact c1x5)]; exact q_3) | (rw [← shC_d (by rw [← e1x1]; exact c1x5)]; exact q_3)
          refine g_callv (X := _) (As := [.ref (A 2), .int x1]) (r := []) (b := A 56) (q := 56) 22 (gd rfl) rfl rfl rfl rfl rfl (ww_o rfl) (Nat.le_of_ble_eq_true rfl) (Nat.zero_le _) (Nat.zero_le _) (f_147_56_2 (by first | exact dq1 hd rfl | exact dq0 hd rfl | exact dq2 hd rfl | exact dq3 hd rfl | omega) hI (in_w 0 31 i7x9 rfl) p19 p19a p19b) (fun e u h => h) (fun v u h => ?_)
          obtain ⟨s19, hI19, hF19, z19, rfl, rfl, i19, p19c, p19d⟩ := h
          show GG _ _ _ _ _ _ _ _ [.int z19] _ _ _
          have n22 : (0 ≤ x1.toInt ∧ x1.toInt < (shC s).2.2.2.2.2.2.1) ∧ COR (shC s) x1.toNatClampNeg (z19).toInt := by first | (rw [shC_n (by rw [← e1x1]; exact c1x5)]; exact ⟨⟨by exact (have a0 := in_u i7x9; have a1 := in_u ro_32_1; have a2 := in_u ro_32_0; have a3 := in_u i7x9a; have a4 := in_u ro_2_0; have a5 := in_u i1x5; have oc := oc_238_0; by omega), by show x1.toInt < (s.2.2.1 2 1).toInt; rw [← e_2_1]; exact (have a0 := in_u i7x9; have a1 := in_u ro_32_1; have a2 := in_u ro_32_0; have a3 := in_u i7x9a; have a4 := in_u ro_2_0; have a5 := in_u i1x5; have oc := oc_238_0; by omega)⟩, by rw [p19d]; exact p19c.2 _ (by show ((x1.toInt.toNat : Nat) : Int) < (s.2.2.1 2 1).toInt; rw [← e_2_1]; exact (have a0 := in_u i7x9; have a1 := in_u ro_32_1; have a2 := in_u ro_32_0; have a3 := in_u i7x9a; have a4 := in_u ro_2_0; have a5 := in_u i1x5; have oc := oc_238_0; by omega))⟩) | (rw [shC_d (by rw [← e1x1]; exact c1x5)]; exact ⟨⟨by exact (have a0 := in_u i7x9; have a1 := in_u ro_32_1; have a2 := in_u ro_32_0; have a3 := in_u i7x9a; have a4 := in_u ro_2_0; have a5 := in_u i1x5; have oc := oc_238_0; by omega), by show x1.toInt < (s.2.2.1 32 1).toInt; rw [← e_32_1]; exact (have a0 := in_u i7x9; have a1 := in_u ro_32_1; have a2 := in_u ro_32_0; have a3 := in_u i7x9a; have a4 := in_u ro_2_0; have a5 := in_u i1x5; have oc := oc_238_0; by omega)⟩, by rw [p19d]; exact p19c.2 _ (by show ((x1.toInt.toNat : Nat) : Int) < (s.2.2.1 32 1).toInt; rw [← e_32_1]; exact (have a0 := in_u i7x9; have a1 := in_u ro_32_1; have a2 := in_u ro_32_0; have a3 := in_u i7x9a; have a4 := in_u ro_2_0; have a5 := in_u i1x5; have oc := oc_238_0; by omega))⟩)
          have n22a : CRQ (shC s) s19 := by first | (rw [shC_n (by rw [← e1x1]; exact c1x5)]; exact p19c) | (rw [shC_d (by rw [← e1x1]; exact c1x5)]; exact p19c)
          exact g_ireturn (gd rfl) rfl rfl (hP _ _ ⟨s19, hI19, (fr_tr rfl fr_rf hF19), z19, rfl, rfl, in_w (-2147483648) 2147483647 i19 rfl, n22, n22a⟩)
        · skip
          exact zn_eq c10 (in_c 1 rfl) rfl

theorem oc_333_109 : (Int32.ofInt (-1)).toInt = (-1) ∧ (Int32.ofInt 0).toInt = 0 ∧ (Int32.ofInt 1).toInt = 1 ∧ (Int32.ofInt 160).toInt = 160 := ⟨rfl, rfl, rfl, rfl⟩
set_option maxHeartbeats 4000000 in
/-- GraphHouseModel.jointsWith -/
theorem f_333 {Z : AmZ} {A : Nat → Nat} {s : GS} {ex : va_W} {d : Nat} {X : AmX} {x1 : Int32} {x2 : Int32} (hd : 3 ≤ d) (hI : Inv s) (h1 : In x1 0 31) : GC Z d 333 [.ref (A 109), .int x1, .int x2] (WW Z A s ++ ex) 0 0 (fun v u => ∃ z : Int32, v = some (.int z) ∧ u = WW Z A s ++ ex ∧ In z 0 160 ∧ (((z).toInt = JD (ARE (gvZ s) 0) (ARE (gvZ s) 1) x2 (x1).toNatClampNeg))) X := by
  intro post xp hP hX
  obtain ⟨u_109_19, e_109_19⟩ : ∃ w, w = s.2.2.1 109 19 := ⟨_, rfl⟩
  have ro_109_19 := inv_F hI 0 160 rfl e_109_19
  have ct5 : ∀ (k5 : Nat) (y5_3 : Int32) (y5_4 : Int32), (In y5_3 0 160) → (In y5_4 0 160) → ((y5_3).toInt ≤ (y5_4).toInt + 0) → (((y5_3).toInt = sm (jd (ARE (gvZ s) 0) (ARE (gvZ s) 1) x2 (x1).toNatClampNeg) (y5_4).toNatClampNeg)) → 160 - (y5_4).toInt < (k5 : Int) → GG Z (d - 1) 333 post (gx xp) (1 + k5 * 900) 5 (fun j => xlook j [(0, .ref (A 109)), (1, .int x1), (2, .int x2), (3, .int y5_3), (4, .int y5_4)]) [] (WW Z A s ++ ex) 0 0 := by
    intro k5
    induction k5 with
    | zero => intro y5_3 y5_4 j5_3 j5_4 l5_3 g5_0 mm5; exact m_no mm5 j5_4 rfl
    | succ k5 ih5 =>
      intro y5_3 y5_4 j5_3 j5_4 l5_3 g5_0 mm5
      refine gg_w (M := 1 + k5 * 900 + 900) gws ?_
      refine g_iload 7 (gd rfl) rfl rfl ?_
      refine g_sipush 160 10 (gd rfl) rfl rfl ?_
      refine g_cmp_ge 13 94 (gd rfl) rfl rfl (fun c10 => ?_) (fun c10 => ?_)
      · skip
        have i10 := r_le2 160 160 c10 (in_c 160 rfl) j5_4 rfl
        refine g_iload_n 95 (gd rfl) rfl rfl ?_
        have n95 : ((y5_3).toInt = JD (ARE (gvZ s) 0) (ARE (gvZ s) 1) x2 (x1).toNatClampNeg) := by have h9 := g5_0; rw [show (y5_4).toNatClampNeg = 160 from (by show (y5_4).toInt.toNat = 160; exact (have a0 := in_u h1; have a1 := in_u ro_109_19; have a2 := in_u i10; have a3 := in_u j5_3; have oc := oc_333_109; by omega))] at h9; exact h9
        exact g_ireturn (gd rfl) rfl rfl (hP _ _ ⟨y5_3, rfl, rfl, in_w 0 160 j5_3 rfl, n95⟩)
      · skip
        have i10 := r_lt1 0 159 c10 j5_4 (in_c 160 rfl) rfl
        refine g_aload_n 14 (gd rfl) rfl rfl ?_
        refine g_iload 16 (gd rfl) rfl rfl ?_
        refine g_callv (X := _) (As := [.int y5_4]) (r := []) (b := A 109) (q := 109) 19 (gd rfl) rfl rfl rfl rfl rfl (ww_o rfl) (Nat.le_of_ble_eq_true rfl) (mc := 0) (ms := 0) (Nat.zero_le _) (Nat.zero_le _) (P := fun v u => _) ?_ (fun e u h => h) (fun v u h => h)
        intro po16 xx16 hp16 hx16
        refine g_enter2 (k := 288) (N := 300) (by first | exact dq1 hd rfl | exact dq0 hd rfl | exact dq2 hd rfl | exact dq3 hd rfl | omega) rfl (Nat.le_of_ble_eq_true rfl) ?_
        refine g_aload_n 1 (gd rfl) rfl rfl ?_
        refine g_getA (q2 := 112) 4 (gd rfl) rfl rfl rfl rfl ?_
        refine g_aload_n 5 (gd rfl) rfl rfl ?_
        refine g_getI 8 (gd rfl) rfl rfl rfl (fun z16x5 e16x5 => ?_)
        have q16x5 : u_109_19 = z16x5 := (e_109_19).trans e16x5.symm
        subst q16x5
        refine g_iload_n 9 (gd rfl) rfl rfl ?_
        refine g_iadd 10 (gd rfl) rfl (fun z16x9 e16x9 => ?_)
        have i16x9 := in_add 0 319 e16x9 ro_109_19 i10 rfl rfl
        refine g_baload 11 (gd rfl) rfl (n := 480) rfl (in_ix i16x9 rfl) (fun z16x10 e16x10 => ?_)
        have i16x10 := inv_I hI (n := 480) (t := 3) 0 1 rfl (in_ix i16x9 rfl) rfl e16x10
        refine g_if_eq 14 43 (gd rfl) rfl rfl (fun c16x11 => ?_) (fun c16x11 => ?_)
        · skip
          have i16x11 := z_eq 0 0 c16x11 i16x10 rfl
          refine g_iconst 0 44 (gd rfl) rfl rfl ?_
          refine g_ireturn (gd rfl) rfl (nb01 (in_w 0 1 (in_c 0 rfl) rfl)) (hp16 _ _ ?_)
          show GG _ _ _ _ _ _ _ _ [.int (Int32.ofInt 0)] _ _ _
          refine g_if_eq 22 88 (gd rfl) rfl rfl (fun c19 => ?_) (fun c19 => ?_)
          · skip
            refine g_iinc 91 (gd rfl) rfl rfl (Nat.le_of_ble_eq_true rfl) (fun z88 e88 => ?_)
            have i88 := in_add 1 160 e88 i10 (in_c 1 rfl) rfl rfl
            refine g_goto 5 (gd rfl) rfl ?_
            have l5 := rl_0 l5_3 (t_add e88 i10 (in_c 1 rfl) rfl) (in_w 0 1 (in_c 1 rfl) rfl)
            have n5 : ((y5_3).toInt = sm (jd (ARE (gvZ s) 0) (ARE (gvZ s) 1) x2 (x1).toNatClampNeg) (z88).toNatClampNeg) := by rw [show (z88).toNatClampNeg = (y5_4).toNatClampNeg + 1 from (by show (z88).toInt.toNat = (y5_4).toInt.toNat + 1; exact (have a0 := in_u h1; have a1 := in_u ro_109_19; have a2 := in_u i10; have a3 := in_u j5_3; have a4 := in_u i88; have a5 := t_add e88 i10 (in_c 1 rfl) rfl; have a6 := in_u ((in_c 1 rfl)); have a7 := in_u i16x9; have a8 := t_add e16x9 ro_109_19 i10 rfl; have oc := oc_333_109; by omega))]; exact jw_n g5_0 (are_q (arz_n hI (show z16x10 = s.1 112 (bs s + (y5_4).toNatClampNeg) from e16x10.trans (congrArg (s.1 112) (show z16x9.toNatClampNeg = bs s + (y5_4).toNatClampNeg from (by show z16x9.toInt.toNat = (s.2.2.1 109 19).toInt.toNat + (y5_4).toInt.toNat; rw [← e_109_19]; exact (have a0 := in_u h1; have a1 := in_u ro_109_19; have a2 := in_u i10; have a3 := in_u j5_3; have a4 := in_u i88; have a5 := t_add e88 i10 (in_c 1 rfl) rfl; have a6 := in_u ((in_c 1 rfl)); have a7 := in_u i16x9; have a8 := t_add e16x9 ro_109_19 i10 rfl; have oc := oc_333_109; by omega))))) (by exact (have a0 := in_u h1; have a1 := in_u ro_109_19; have a2 := in_u i10; have a3 := in_u j5_3; have a4 := in_u i88; have a5 := t_add e88 i10 (in_c 1 rfl) rfl; have a6 := in_u ((in_c 1 rfl)); have a7 := in_u i16x9; have a8 := t_add e16x9 ro_109_19 i10 rfl; have oc := oc_333_109; by omega))) (show (y5_4).toNatClampNeg < 160 from (by show (y5_4).toInt.toNat < 160; exact (have a0 := in_u h1; have a1 := in_u ro_109_19; have a2 := in_u i10; have a3 := in_u j5_3; have a4 := in_u i88; have a5 := t_add e88 i10 (in_c 1 rfl) rfl; have a6 := in_u ((in_c 1 rfl)); have a7 := in_u i16x9; have a8 := t_add e16x9 ro_109_19 i10 rfl; have oc := oc_333_109; by omega))))
            exact gg_w (by first | exact Nat.le_add_right _ _ | exact gw2 | exact gw3 | exact gwe rfl | exact gwf rfl | exact gwg rfl | exact gwh rfl | omega) (gg_f (gf_cons rfl (gf_cons rfl (gf_cons rfl (gf_cons rfl (gf_cons rfl gf_nil))))) (ih5  y5_3 z88  (rl_w 0 160 l5 j5_3 (in_w 0 160 i88 rfl) rfl) (in_w 0 160 i88 rfl) l5 n5 (m_up mm5 (t_add e88 i10 (in_c 1 rfl) rfl) (in_w 1 1 (in_c 1 rfl) rfl))))
          · skip
            exact zn_ne c19 (in_c 0 rfl) rfl
        · skip
          have i16x11 := z_ne 1 1 c16x11 i16x10 rfl
          refine g_aload_n 15 (gd rfl) rfl rfl ?_
          refine g_getA (q2 := 113) 18 (gd rfl) rfl rfl rfl rfl ?_
          refine g_aload_n 19 (gd rfl) rfl rfl ?_
          refine g_getI 22 (gd rfl) rfl rfl rfl (fun z16x19 e16x19 => ?_)
          have q16x19 : u_109_19 = z16x19 := (e_109_19).trans e16x19.symm
          subst q16x19
          refine g_iload_n 23 (gd rfl) rfl rfl ?_
          refine g_iadd 24 (gd rfl) rfl (fun z16x23 e16x23 => ?_)
          have i16x23 := in_add 0 319 e16x23 ro_109_19 i10 rfl rfl
          refine g_iaload 25 (gd rfl) rfl (n := 480) rfl (in_ix i16x23 rfl) (fun z16x24 e16x24 => ?_)
          have i16x24 := inv_I hI (n := 480) (t := 0) 0 31 rfl (in_ix i16x23 rfl) rfl e16x24
          refine g_aload_n 26 (gd rfl) rfl rfl ?_
          refine g_getA (q2 := 114) 29 (gd rfl) rfl rfl rfl rfl ?_
          refine g_aload_n 30 (gd rfl) rfl rfl ?_
          refine g_getI 33 (gd rfl) rfl rfl rfl (fun z16x30 e16x30 => ?_)
          have q16x30 : u_109_19 = z16x30 := (e_109_19).trans e16x30.symm
          subst q16x30
          refine g_iload_n 34 (gd rfl) rfl rfl ?_
          refine g_iadd 35 (gd rfl) rfl (fun z16x34 e16x34 => ?_)
          have i16x34 := in_add 0 319 e16x34 ro_109_19 i10 rfl rfl
          refine g_iaload 36 (gd rfl) rfl (n := 480) rfl (in_ix i16x34 rfl) (fun z16x35 e16x35 => ?_)
          have i16x35 := inv_I hI (n := 480) (t := 0) 0 31 rfl (in_ix i16x34 rfl) rfl e16x35
          refine g_cmp_eq 39 43 (gd rfl) rfl rfl (fun c16x36 => ?_) (fun c16x36 => ?_)
          · skip
            refine g_iconst 0 44 (gd rfl) rfl rfl ?_
            refine g_ireturn (gd rfl) rfl (nb01 (in_w 0 1 (in_c 0 rfl) rfl)) (hp16 _ _ ?_)
            show GG _ _ _ _ _ _ _ _ [.int (Int32.ofInt 0)] _ _ _
            refine g_if_eq 22 88 (gd rfl) rfl rfl (fun c19 => ?_) (fun c19 => ?_)
            · skip
              refine g_iinc 91 (gd rfl) rfl rfl (Nat.le_of_ble_eq_true rfl) (fun z88 e88 => ?_)
              have i88 := in_add 1 160 e88 i10 (in_c 1 rfl) rfl rfl
              refine g_goto 5 (gd rfl) rfl ?_
              have l5 := rl_0 l5_3 (t_add e88 i10 (in_c 1 rfl) rfl) (in_w 0 1 (in_c 1 rfl) rfl)
              have n5 : ((y5_3).toInt = sm (jd (ARE (gvZ s) 0) (ARE (gvZ s) 1) x2 (x1).toNatClampNeg) (z88).toNatClampNeg) := by rw [show (z88).toNatClampNeg = (y5_4).toNatClampNeg + 1 from (by show (z88).toInt.toNat = (y5_4).toInt.toNat + 1; exact (have a0 := in_u h1; have a1 := in_u ro_109_19; have a2 := in_u i10; have a3 := in_u j5_3; have a4 := in_u i88; have a5 := t_add e88 i10 (in_c 1 rfl) rfl; have a6 := in_u ((in_c 1 rfl)); have a7 := in_u i16x34; have a8 := t_add e16x34 ro_109_19 i10 rfl; have a9 := in_u i16x23; have a10 := t_add e16x23 ro_109_19 i10 rfl; have a11 := in_u i16x9; have a12 := t_add e16x9 ro_109_19 i10 rfl; have oc := oc_333_109; by omega))]; exact jw_n g5_0 (((arz_y hI (show (y5_4).toNatClampNeg < 160 from (by show (y5_4).toInt.toNat < 160; exact (have a0 := in_u h1; have a1 := in_u ro_109_19; have a2 := in_u i10; have a3 := in_u j5_3; have a4 := in_u i88; have a5 := t_add e88 i10 (in_c 1 rfl) rfl; have a6 := in_u ((in_c 1 rfl)); have a7 := in_u i16x34; have a8 := t_add e16x34 ro_109_19 i10 rfl; have a9 := in_u i16x23; have a10 := t_add e16x23 ro_109_19 i10 rfl; have a11 := in_u i16x9; have a12 := t_add e16x9 ro_109_19 i10 rfl; have oc := oc_333_109; by omega))) (show z16x10 = s.1 112 (bs s + (y5_4).toNatClampNeg) from e16x10.trans (congrArg (s.1 112) (show z16x9.toNatClampNeg = bs s + (y5_4).toNatClampNeg from (by show z16x9.toInt.toNat = (s.2.2.1 109 19).toInt.toNat + (y5_4).toInt.toNat; rw [← e_109_19]; exact (have a0 := in_u h1; have a1 := in_u ro_109_19; have a2 := in_u i10; have a3 := in_u j5_3; have a4 := in_u i88; have a5 := t_add e88 i10 (in_c 1 rfl) rfl; have a6 := in_u ((in_c 1 rfl)); have a7 := in_u i16x34; have a8 := t_add e16x34 ro_109_19 i10 rfl; have a9 := in_u i16x23; have a10 := t_add e16x23 ro_109_19 i10 rfl; have a11 := in_u i16x9; have a12 := t_add e16x9 ro_109_19 i10 rfl; have oc := oc_333_109; by omega))))) (by exact (have a0 := in_u h1; have a1 := in_u ro_109_19; have a2 := in_u i10; have a3 := in_u j5_3; have a4 := in_u i88; have a5 := t_add e88 i10 (in_c 1 rfl) rfl; have a6 := in_u ((in_c 1 rfl)); have a7 := in_u i16x34; have a8 := t_add e16x34 ro_109_19 i10 rfl; have a9 := in_u i16x23; have a10 := t_add e16x23 ro_109_19 i10 rfl; have a11 := in_u i16x9; have a12 := t_add e16x9 ro_109_19 i10 rfl; have oc := oc_333_109; by omega))).1.trans (by rw [← (show z16x24 = s.1 113 (bs s + (y5_4).toNatClampNeg) from e16x24.trans (congrArg (s.1 113) (show z16x23.toNatClampNeg = bs s + (y5_4).toNatClampNeg from (by show z16x23.toInt.toNat = (s.2.2.1 109 19).toInt.toNat + (y5_4).toInt.toNat; rw [← e_109_19]; exact (have a0 := in_u h1; have a1 := in_u ro_109_19; have a2 := in_u i10; have a3 := in_u j5_3; have a4 := in_u i88; have a5 := t_add e88 i10 (in_c 1 rfl) rfl; have a6 := in_u ((in_c 1 rfl)); have a7 := in_u i16x34; have a8 := t_add e16x34 ro_109_19 i10 rfl; have a9 := in_u i16x23; have a10 := t_add e16x23 ro_109_19 i10 rfl; have a11 := in_u i16x9; have a12 := t_add e16x9 ro_109_19 i10 rfl; have oc := oc_333_109; by omega)))))]; exact clx i16x24.1)).trans ((show (z16x24).toInt = (z16x35).toInt from c16x36).trans ((arz_y hI (show (y5_4).toNatClampNeg < 160 from (by show (y5_4).toInt.toNat < 160; exact (have a0 := in_u h1; have a1 := in_u ro_109_19; have a2 := in_u i10; have a3 := in_u j5_3; have a4 := in_u i88; have a5 := t_add e88 i10 (in_c 1 rfl) rfl; have a6 := in_u ((in_c 1 rfl)); have a7 := in_u i16x34; have a8 := t_add e16x34 ro_109_19 i10 rfl; have a9 := in_u i16x23; have a10 := t_add e16x23 ro_109_19 i10 rfl; have a11 := in_u i16x9; have a12 := t_add e16x9 ro_109_19 i10 rfl; have oc := oc_333_109; by omega))) (show z16x10 = s.1 112 (bs s + (y5_4).toNatClampNeg) from e16x10.trans (congrArg (s.1 112) (show z16x9.toNatClampNeg = bs s + (y5_4).toNatClampNeg from (by show z16x9.toInt.toNat = (s.2.2.1 109 19).toInt.toNat + (y5_4).toInt.toNat; rw [← e_109_19]; exact (have a0 := in_u h1; have a1 := in_u ro_109_19; have a2 := in_u i10; have a3 := in_u j5_3; have a4 := in_u i88; have a5 := t_add e88 i10 (in_c 1 rfl) rfl; have a6 := in_u ((in_c 1 rfl)); have a7 := in_u i16x34; have a8 := t_add e16x34 ro_109_19 i10 rfl; have a9 := in_u i16x23; have a10 := t_add e16x23 ro_109_19 i10 rfl; have a11 := in_u i16x9; have a12 := t_add e16x9 ro_109_19 i10 rfl; have oc := oc_333_109; by omega))))) (by exact (have a0 := in_u h1; have a1 := in_u ro_109_19; have a2 := in_u i10; have a3 := in_u j5_3; have a4 := in_u i88; have a5 := t_add e88 i10 (in_c 1 rfl) rfl; have a6 := in_u ((in_c 1 rfl)); have a7 := in_u i16x34; have a8 := t_add e16x34 ro_109_19 i10 rfl; have a9 := in_u i16x23; have a10 := t_add e16x23 ro_109_19 i10 rfl; have a11 := in_u i16x9; have a12 := t_add e16x9 ro_109_19 i10 rfl; have oc := oc_333_109; by omega))).2.trans (by rw [← (show z16x35 = s.1 114 (bs s + (y5_4).toNatClampNeg) from e16x35.trans (congrArg (s.1 114) (show z16x34.toNatClampNeg = bs s + (y5_4).toNatClampNeg from (by show z16x34.toInt.toNat = (s.2.2.1 109 19).toInt.toNat + (y5_4).toInt.toNat; rw [← e_109_19]; exact (have a0 := in_u h1; have a1 := in_u ro_109_19; have a2 := in_u i10; have a3 := in_u j5_3; have a4 := in_u i88; have a5 := t_add e88 i10 (in_c 1 rfl) rfl; have a6 := in_u ((in_c 1 rfl)); have a7 := in_u i16x34; have a8 := t_add e16x34 ro_109_19 i10 rfl; have a9 := in_u i16x23; have a10 := t_add e16x23 ro_109_19 i10 rfl; have a11 := in_u i16x9; have a12 := t_add e16x9 ro_109_19 i10 rfl; have oc := oc_333_109; by omega)))))]; exact clx i16x35.1)).symm))
              exact gg_w (by first | exact Nat.le_add_right _ _ | exact gw2 | exact gw3 | exact gwe rfl | exact gwf rfl | exact gwg rfl | exact gwh rfl | omega) (gg_f (gf_cons rfl (gf_cons rfl (gf_cons rfl (gf_cons rfl (gf_cons rfl gf_nil))))) (ih5  y5_3 z88  (rl_w 0 160 l5 j5_3 (in_w 0 160 i88 rfl) rfl) (in_w 0 160 i88 rfl) l5 n5 (m_up mm5 (t_add e88 i10 (in_c 1 rfl) rfl) (in_w 1 1 (in_c 1 rfl) rfl))))
            · skip
              exact zn_ne c19 (in_c 0 rfl) rfl
          · skip
            refine g_iconst 1 40 (gd rfl) rfl rfl ?_
            refine g_goto 44 (gd rfl) rfl ?_
            refine g_ireturn (gd rfl) rfl (nb01 (in_w 0 1 (in_c 1 rfl) rfl)) (hp16 _ _ ?_)
            show GG _ _ _ _ _ _ _ _ [.int (Int32.ofInt 1)] _ _ _
            refine g_if_eq 22 88 (gd rfl) rfl rfl (fun c19 => ?_) (fun c19 => ?_)
            · skip
              exact zn_eq c19 (in_c 1 rfl) rfl
            · skip
              refine g_aload_n 23 (gd rfl) rfl rfl ?_
              refine g_getA (q2 := 113) 26 (gd rfl) rfl rfl rfl rfl ?_
              refine g_aload_n 27 (gd rfl) rfl rfl ?_
              refine g_getI 30 (gd rfl) rfl rfl rfl (fun z27 e27 => ?_)
              have q27 : u_109_19 = z27 := (e_109_19).trans e27.symm
              subst q27
              refine g_iload 32 (gd rfl) rfl rfl ?_
              refine g_iadd 33 (gd rfl) rfl (fun z32 e32 => ?_)
              have i32 := in_add 0 319 e32 ro_109_19 i10 rfl rfl
              refine g_iaload 34 (gd rfl) rfl (n := 480) rfl (in_ix i32 rfl) (fun z33 e33 => ?_)
              have i33 := inv_I hI (n := 480) (t := 0) 0 31 rfl (in_ix i32 rfl) rfl e33
              refine g_istore 36 (gd rfl) rfl (Nat.le_of_ble_eq_true rfl) ?_
              refine g_aload_n 37 (gd rfl) rfl rfl ?_
              refine g_getA (q2 := 114) 40 (gd rfl) rfl rfl rfl rfl ?_
              refine g_aload_n 41 (gd rfl) rfl rfl ?_
              refine g_getI 44 (gd rfl) rfl rfl rfl (fun z41 e41 => ?_)
              have q41 : u_109_19 = z41 := (e_109_19).trans e41.symm
              subst q41
              refine g_iload 46 (gd rfl) rfl rfl ?_
              refine g_iadd 47 (gd rfl) rfl (fun z46 e46 => ?_)
              have i46 := in_add 0 319 e46 ro_109_19 i10 rfl rfl
              refine g_iaload 48 (gd rfl) rfl (n := 480) rfl (in_ix i46 rfl) (fun z47 e47 => ?_)
              have i47 := inv_I hI (n := 480) (t := 0) 0 31 rfl (in_ix i46 rfl) rfl e47
              refine g_istore 50 (gd rfl) rfl (Nat.le_of_ble_eq_true rfl) ?_
              have xx := (show ((x1).toNatClampNeg : Int) = (x1).toInt from clx h1.1)
              have af : (ARE (gvZ s) 0) (y5_4).toNatClampNeg = (z33).toInt := ((arz_y hI (show (y5_4).toNatClampNeg < 160 from (by show (y5_4).toInt.toNat < 160; exact (have a0 := in_u h1; have a1 := in_u ro_109_19; have a2 := in_u i10; have a3 := in_u j5_3; have a4 := in_u i47; have a5 := in_u i33; have a6 := in_u i46; have a7 := t_add e46 ro_109_19 i10 rfl; have a8 := in_u i32; have a9 := t_add e32 ro_109_19 i10 rfl; have a10 := in_u i16x34; have a11 := t_add e16x34 ro_109_19 i10 rfl; have a12 := in_u i16x23; have a13 := t_add e16x23 ro_109_19 i10 rfl; have a14 := in_u i16x9; have a15 := t_add e16x9 ro_109_19 i10 rfl; have oc := oc_333_109; by omega))) (show z16x10 = s.1 112 (bs s + (y5_4).toNatClampNeg) from e16x10.trans (congrArg (s.1 112) (show z16x9.toNatClampNeg = bs s + (y5_4).toNatClampNeg from (by show z16x9.toInt.toNat = (s.2.2.1 109 19).toInt.toNat + (y5_4).toInt.toNat; rw [← e_109_19]; exact (have a0 := in_u h1; have a1 := in_u ro_109_19; have a2 := in_u i10; have a3 := in_u j5_3; have a4 := in_u i47; have a5 := in_u i33; have a6 := in_u i46; have a7 := t_add e46 ro_109_19 i10 rfl; have a8 := in_u i32; have a9 := t_add e32 ro_109_19 i10 rfl; have a10 := in_u i16x34; have a11 := t_add e16x34 ro_109_19 i10 rfl; have a12 := in_u i16x23; have a13 := t_add e16x23 ro_109_19 i10 rfl; have a14 := in_u i16x9; have a15 := t_add e16x9 ro_109_19 i10 rfl; have oc := oc_333_109; by omega))))) (by exact (have a0 := in_u h1; have a1 := in_u ro_109_19; have a2 := in_u i10; have a3 := in_u j5_3; have a4 := in_u i47; have a5 := in_u i33; have a6 := in_u i46; have a7 := t_add e46 ro_109_19 i10 rfl; have a8 := in_u i32; have a9 := t_add e32 ro_109_19 i10 rfl; have a10 := in_u i16x34; have a11 := t_add e16x34 ro_109_19 i10 rfl; have a12 := in_u i16x23; have a13 := t_add e16x23 ro_109_19 i10 rfl; have a14 := in_u i16x9; have a15 := t_add e16x9 ro_109_19 i10 rfl; have oc := oc_333_109; by omega))).1.trans (by rw [← (show z33 = s.1 113 (bs s + (y5_4).toNatClampNeg) from e33.trans (congrArg (s.1 113) (show z32.toNatClampNeg = bs s + (y5_4).toNatClampNeg from (by show z32.toInt.toNat = (s.2.2.1 109 19).toInt.toNat + (y5_4).toInt.toNat; rw [← e_109_19]; exact (have a0 := in_u h1; have a1 := in_u ro_109_19; have a2 := in_u i10; have a3 := in_u j5_3; have a4 := in_u i47; have a5 := in_u i33; have a6 := in_u i46; have a7 := t_add e46 ro_109_19 i10 rfl; have a8 := in_u i32; have a9 := t_add e32 ro_109_19 i10 rfl; have a10 := in_u i16x34; have a11 := t_add e16x34 ro_109_19 i10 rfl; have a12 := in_u i16x23; have a13 := t_add e16x23 ro_109_19 i10 rfl; have a14 := in_u i16x9; have a15 := t_add e16x9 ro_109_19 i10 rfl; have oc := oc_333_109; by omega)))))]; exact clx i33.1))
              have at_ : (ARE (gvZ s) 1) (y5_4).toNatClampNeg = (z47).toInt := ((arz_y hI (show (y5_4).toNatClampNeg < 160 from (by show (y5_4).toInt.toNat < 160; exact (have a0 := in_u h1; have a1 := in_u ro_109_19; have a2 := in_u i10; have a3 := in_u j5_3; have a4 := in_u i47; have a5 := in_u i33; have a6 := in_u i46; have a7 := t_add e46 ro_109_19 i10 rfl; have a8 := in_u i32; have a9 := t_add e32 ro_109_19 i10 rfl; have a10 := in_u i16x34; have a11 := t_add e16x34 ro_109_19 i10 rfl; have a12 := in_u i16x23; have a13 := t_add e16x23 ro_109_19 i10 rfl; have a14 := in_u i16x9; have a15 := t_add e16x9 ro_109_19 i10 rfl; have oc := oc_333_109; by omega))) (show z16x10 = s.1 112 (bs s + (y5_4).toNatClampNeg) from e16x10.trans (congrArg (s.1 112) (show z16x9.toNatClampNeg = bs s + (y5_4).toNatClampNeg from (by show z16x9.toInt.toNat = (s.2.2.1 109 19).toInt.toNat + (y5_4).toInt.toNat; rw [← e_109_19]; exact (have a0 := in_u h1; have a1 := in_u ro_109_19; have a2 := in_u i10; have a3 := in_u j5_3; have a4 := in_u i47; have a5 := in_u i33; have a6 := in_u i46; have a7 := t_add e46 ro_109_19 i10 rfl; have a8 := in_u i32; have a9 := t_add e32 ro_109_19 i10 rfl; have a10 := in_u i16x34; have a11 := t_add e16x34 ro_109_19 i10 rfl; have a12 := in_u i16x23; have a13 := t_add e16x23 ro_109_19 i10 rfl; have a14 := in_u i16x9; have a15 := t_add e16x9 ro_109_19 i10 rfl; have oc := oc_333_109; by omega))))) (by exact (have a0 := in_u h1; have a1 := in_u ro_109_19; have a2 := in_u i10; have a3 := in_u j5_3; have a4 := in_u i47; have a5 := in_u i33; have a6 := in_u i46; have a7 := t_add e46 ro_109_19 i10 rfl; have a8 := in_u i32; have a9 := t_add e32 ro_109_19 i10 rfl; have a10 := in_u i16x34; have a11 := t_add e16x34 ro_109_19 i10 rfl; have a12 := in_u i16x23; have a13 := t_add e16x23 ro_109_19 i10 rfl; have a14 := in_u i16x9; have a15 := t_add e16x9 ro_109_19 i10 rfl; have oc := oc_333_109; by omega))).2.trans (by rw [← (show z47 = s.1 114 (bs s + (y5_4).toNatClampNeg) from e47.trans (congrArg (s.1 114) (show z46.toNatClampNeg = bs s + (y5_4).toNatClampNeg from (by show z46.toInt.toNat = (s.2.2.1 109 19).toInt.toNat + (y5_4).toInt.toNat; rw [← e_109_19]; exact (have a0 := in_u h1; have a1 := in_u ro_109_19; have a2 := in_u i10; have a3 := in_u j5_3; have a4 := in_u i47; have a5 := in_u i33; have a6 := in_u i46; have a7 := t_add e46 ro_109_19 i10 rfl; have a8 := in_u i32; have a9 := t_add e32 ro_109_19 i10 rfl; have a10 := in_u i16x34; have a11 := t_add e16x34 ro_109_19 i10 rfl; have a12 := in_u i16x23; have a13 := t_add e16x23 ro_109_19 i10 rfl; have a14 := in_u i16x9; have a15 := t_add e16x9 ro_109_19 i10 rfl; have oc := oc_333_109; by omega)))))]; exact clx i47.1))
              have ne : (z33).toInt ≠ (z47).toInt := (by rw [e33, e47, e32.trans e16x23.symm, e46.trans e16x34.symm, ← e16x24, ← e16x35]; exact c16x36)
              refine g_iload_n 51 (gd rfl) rfl rfl ?_
              refine g_iload 53 (gd rfl) rfl rfl ?_
              refine g_iload_n 54 (gd rfl) rfl rfl ?_
              refine g_cmp_ne 57 66 (gd rfl) rfl rfl (fun c54 => ?_) (fun c54 => ?_)
              · skip
                refine g_iload 68 (gd rfl) rfl rfl ?_
                refine g_iload_n 69 (gd rfl) rfl rfl ?_
                refine g_cmp_ne 72 85 (gd rfl) rfl rfl (fun c69 => ?_) (fun c69 => ?_)
                · skip
                  refine g_iconst 0 86 (gd rfl) rfl rfl ?_
                  refine g_iadd 87 (gd rfl) rfl (fun z86 e86 => ?_)
                  have i86 := in_add 0 160 e86 j5_3 (in_c 0 rfl) rfl rfl
                  refine g_istore_n 88 (gd rfl) rfl (Nat.le_of_ble_eq_true rfl) ?_
                  refine g_iinc 91 (gd rfl) rfl rfl (Nat.le_of_ble_eq_true rfl) (fun z88 e88 => ?_)
                  have i88 := in_add 1 160 e88 i10 (in_c 1 rfl) rfl rfl
                  refine g_goto 5 (gd rfl) rfl ?_
                  have l5 := rl_1 l5_3 (t_add e86 j5_3 (in_c 0 rfl) rfl) (in_c 0 rfl) (t_add e88 i10 (in_c 1 rfl) rfl) (in_c 1 rfl) rfl
                  have n5 : ((z86).toInt = sm (jd (ARE (gvZ s) 0) (ARE (gvZ s) 1) x2 (x1).toNatClampNeg) (z88).toNatClampNeg) := by rw [show (z88).toNatClampNeg = (y5_4).toNatClampNeg + 1 from (by show (z88).toInt.toNat = (y5_4).toInt.toNat + 1; exact (have a0 := in_u h1; have a1 := in_u ro_109_19; have a2 := in_u i10; have a3 := in_u j5_3; have a4 := in_u i47; have a5 := in_u i33; have a6 := in_u i88; have a7 := t_add e88 i10 (in_c 1 rfl) rfl; have a8 := in_u ((in_c 1 rfl)); have a9 := in_u i86; have a10 := t_add e86 j5_3 (in_c 0 rfl) rfl; have a11 := in_u ((in_c 0 rfl)); have a12 := in_u i46; have a13 := t_add e46 ro_109_19 i10 rfl; have a14 := in_u i32; have a15 := t_add e32 ro_109_19 i10 rfl; have a16 := in_u i16x34; have a17 := t_add e16x34 ro_109_19 i10 rfl; have a18 := in_u i16x23; have a19 := t_add e16x23 ro_109_19 i10 rfl; have a20 := in_u i16x9; have a21 := t_add e16x9 ro_109_19 i10 rfl; have oc := oc_333_109; by omega))]; exact jw_s 0 g5_0 (jd_w af at_ i33 i47 ne (Or.inr ⟨rfl, Or.inl (by rw [xx]; exact (have a0 := in_u h1; have a1 := in_u ro_109_19; have a2 := in_u i10; have a3 := in_u j5_3; have a4 := in_u i47; have a5 := in_u i33; have a6 := in_u i88; have a7 := t_add e88 i10 (in_c 1 rfl) rfl; have a8 := in_u ((in_c 1 rfl)); have a9 := in_u i86; have a10 := t_add e86 j5_3 (in_c 0 rfl) rfl; have a11 := in_u ((in_c 0 rfl)); have a12 := in_u i46; have a13 := t_add e46 ro_109_19 i10 rfl; have a14 := in_u i32; have a15 := t_add e32 ro_109_19 i10 rfl; have a16 := in_u i16x34; have a17 := t_add e16x34 ro_109_19 i10 rfl; have a18 := in_u i16x23; have a19 := t_add e16x23 ro_109_19 i10 rfl; have a20 := in_u i16x9; have a21 := t_add e16x9 ro_109_19 i10 rfl; have oc := oc_333_109; by omega)), Or.inl (by rw [xx]; exact (have a0 := in_u h1; have a1 := in_u ro_109_19; have a2 := in_u i10; have a3 := in_u j5_3; have a4 := in_u i47; have a5 := in_u i33; have a6 := in_u i88; have a7 := t_add e88 i10 (in_c 1 rfl) rfl; have a8 := in_u ((in_c 1 rfl)); have a9 := in_u i86; have a10 := t_add e86 j5_3 (in_c 0 rfl) rfl; have a11 := in_u ((in_c 0 rfl)); have a12 := in_u i46; have a13 := t_add e46 ro_109_19 i10 rfl; have a14 := in_u i32; have a15 := t_add e32 ro_109_19 i10 rfl; have a16 := in_u i16x34; have a17 := t_add e16x34 ro_109_19 i10 rfl; have a18 := in_u i16x23; have a19 := t_add e16x23 ro_109_19 i10 rfl; have a20 := in_u i16x9; have a21 := t_add e16x9 ro_109_19 i10 rfl; have oc := oc_333_109; by omega))⟩)) (by exact (have a0 := in_u h1; have a1 := in_u ro_109_19; have a2 := in_u i10; have a3 := in_u j5_3; have a4 := in_u i47; have a5 := in_u i33; have a6 := in_u i88; have a7 := t_add e88 i10 (in_c 1 rfl) rfl; have a8 := in_u ((in_c 1 rfl)); have a9 := in_u i86; have a10 := t_add e86 j5_3 (in_c 0 rfl) rfl; have a11 := in_u ((in_c 0 rfl)); have a12 := in_u i46; have a13 := t_add e46 ro_109_19 i10 rfl; have a14 := in_u i32; have a15 := t_add e32 ro_109_19 i10 rfl; have a16 := in_u i16x34; have a17 := t_add e16x34 ro_109_19 i10 rfl; have a18 := in_u i16x23; have a19 := t_add e16x23 ro_109_19 i10 rfl; have a20 := in_u i16x9; have a21 := t_add e16x9 ro_109_19 i10 rfl; have oc := oc_333_109; by omega))
                  exact gg_w (by first | exact Nat.le_add_right _ _ | exact gw2 | exact gw3 | exact gwe rfl | exact gwf rfl | exact gwg rfl | exact gwh rfl | omega) (gg_f (gf_cons rfl (gf_cons rfl (gf_cons rfl (gf_cons rfl (gf_cons rfl gf_nil))))) (ih5  z86 z88  (rl_w 0 160 l5 i86 (in_w 0 160 i88 rfl) rfl) (in_w 0 160 i88 rfl) l5 n5 (m_up mm5 (t_add e88 i10 (in_c 1 rfl) rfl) (in_w 1 1 (in_c 1 rfl) rfl))))
                · skip
                  refine g_iload_n 73 (gd rfl) rfl rfl ?_
                  refine g_iload 75 (gd rfl) rfl rfl ?_
                  refine g_calls (As := [.int x2, .int z33]) (r := [.int y5_3]) 78 (gd rfl) rfl rfl rfl rfl rfl (Nat.le_of_ble_eq_true rfl) (mc := 0) (ms := 0) (Nat.zero_le _) (Nat.zero_le _) (P := fun v u => _) ?_ (fun v u h => h)
                  intro po75 xx75 hp75 hx75
                  refine g_enter2 (k := 311) (N := 300) (by first | exact dq1 hd rfl | exact dq0 hd rfl | exact dq2 hd rfl | exact dq3 hd rfl | omega) rfl (Nat.le_of_ble_eq_true rfl) ?_
                  refine g_iload_n 1 (gd rfl) rfl rfl ?_
                  refine g_iload_n 2 (gd rfl) rfl rfl ?_
                  refine g_ishr 3 (gd rfl) rfl (fun z75x2 e75x2 => ?_)
                  refine g_iconst 1 4 (gd rfl) rfl rfl ?_
                  refine g_iand 5 (gd rfl) rfl (fun z75x4 e75x4 => ?_)
                  have i75x4 := in_and2 e75x4 (in_c 1 rfl) rfl
                  refine g_iconst 1 6 (gd rfl) rfl rfl ?_
                  refine g_cmp_ne 9 13 (gd rfl) rfl rfl (fun c75x6 => ?_) (fun c75x6 => ?_)
                  · skip
                    have i75x6 := r_ne1 0 0 c75x6 i75x4 (in_c 1 rfl) rfl
                    refine g_iconst 0 14 (gd rfl) rfl rfl ?_
                    refine g_ireturn (gd rfl) rfl (nb01 (in_w 0 1 (in_c 0 rfl) rfl)) (hp75 _ _ ?_)
                    show GG _ _ _ _ _ _ _ _ [.int (Int32.ofInt 0), .int y5_3] _ _ _
                    refine g_if_eq 81 85 (gd rfl) rfl rfl (fun c78 => ?_) (fun c78 => ?_)
                    · skip
                      refine g_iconst 0 86 (gd rfl) rfl rfl ?_
                      refine g_iadd 87 (gd rfl) rfl (fun z86 e86 => ?_)
                      have i86 := in_add 0 160 e86 j5_3 (in_c 0 rfl) rfl rfl
                      refine g_istore_n 88 (gd rfl) rfl (Nat.le_of_ble_eq_true rfl) ?_
                      refine g_iinc 91 (gd rfl) rfl rfl (Nat.le_of_ble_eq_true rfl) (fun z88 e88 => ?_)
                      have i88 := in_add 1 160 e88 i10 (in_c 1 rfl) rfl rfl
                      refine g_goto 5 (gd rfl) rfl ?_
                      have l5 := rl_1 l5_3 (t_add e86 j5_3 (in_c 0 rfl) rfl) (in_c 0 rfl) (t_add e88 i10 (in_c 1 rfl) rfl) (in_c 1 rfl) rfl
                      have n5 : ((z86).toInt = sm (jd (ARE (gvZ s) 0) (ARE (gvZ s) 1) x2 (x1).toNatClampNeg) (z88).toNatClampNeg) := by rw [show (z88).toNatClampNeg = (y5_4).toNatClampNeg + 1 from (by show (z88).toInt.toNat = (y5_4).toInt.toNat + 1; exact (have a0 := in_u h1; have a1 := in_u ro_109_19; have a2 := in_u i10; have a3 := in_u j5_3; have a4 := in_u i47; have a5 := in_u i33; have a6 := in_u i88; have a7 := t_add e88 i10 (in_c 1 rfl) rfl; have a8 := in_u ((in_c 1 rfl)); have a9 := in_u i86; have a10 := t_add e86 j5_3 (in_c 0 rfl) rfl; have a11 := in_u ((in_c 0 rfl)); have a12 := in_u i46; have a13 := t_add e46 ro_109_19 i10 rfl; have a14 := in_u i32; have a15 := t_add e32 ro_109_19 i10 rfl; have a16 := in_u i16x34; have a17 := t_add e16x34 ro_109_19 i10 rfl; have a18 := in_u i16x23; have a19 := t_add e16x23 ro_109_19 i10 rfl; have a20 := in_u i16x9; have a21 := t_add e16x9 ro_109_19 i10 rfl; have oc := oc_333_109; by omega))]; first | (have hc := (bt_yes e75x2 e75x4 i33 c75x6); exact jw_s 1 g5_0 (jd_w af at_ i33 i47 ne (Or.inl ⟨rfl, Or.inr ⟨(by rw [xx]; exact (have a0 := in_u h1; have a1 := in_u ro_109_19; have a2 := in_u i10; have a3 := in_u j5_3; have a4 := in_u i47; have a5 := in_u i33; have a6 := in_u i88; have a7 := t_add e88 i10 (in_c 1 rfl) rfl; have a8 := in_u ((in_c 1 rfl)); have a9 := in_u i86; have a10 := t_add e86 j5_3 (in_c 0 rfl) rfl; have a11 := in_u ((in_c 0 rfl)); have a12 := in_u i46; have a13 := t_add e46 ro_109_19 i10 rfl; have a14 := in_u i32; have a15 := t_add e32 ro_109_19 i10 rfl; have a16 := in_u i16x34; have a17 := t_add e16x34 ro_109_19 i10 rfl; have a18 := in_u i16x23; have a19 := t_add e16x23 ro_109_19 i10 rfl; have a20 := in_u i16x9; have a21 := t_add e16x9 ro_109_19 i10 rfl; have oc := oc_333_109; by omega)), hc⟩⟩)) (by exact (have a0 := in_u h1; have a1 := in_u ro_109_19; have a2 := in_u i10; have a3 := in_u j5_3; have a4 := in_u i47; have a5 := in_u i33; have a6 := in_u i88; have a7 := t_add e88 i10 (in_c 1 rfl) rfl; have a8 := in_u ((in_c 1 rfl)); have a9 := in_u i86; have a10 := t_add e86 j5_3 (in_c 0 rfl) rfl; have a11 := in_u ((in_c 0 rfl)); have a12 := in_u i46; have a13 := t_add e46 ro_109_19 i10 rfl; have a14 := in_u i32; have a15 := t_add e32 ro_109_19 i10 rfl; have a16 := in_u i16x34; have a17 := t_add e16x34 ro_109_19 i10 rfl; have a18 := in_u i16x23; have a19 := t_add e16x23 ro_109_19 i10 rfl; have a20 := in_u i16x9; have a21 := t_add e16x9 ro_109_19 i10 rfl; have oc := oc_333_109; by omega))) | (have hc := (bt_no e75x2 e75x4 i33 c75x6); exact jw_s 0 g5_0 (jd_w af at_ i33 i47 ne (Or.inr ⟨rfl, Or.inl (by rw [xx]; exact (have a0 := in_u h1; have a1 := in_u ro_109_19; have a2 := in_u i10; have a3 := in_u j5_3; have a4 := in_u i47; have a5 := in_u i33; have a6 := in_u i88; have a7 := t_add e88 i10 (in_c 1 rfl) rfl; have a8 := in_u ((in_c 1 rfl)); have a9 := in_u i86; have a10 := t_add e86 j5_3 (in_c 0 rfl) rfl; have a11 := in_u ((in_c 0 rfl)); have a12 := in_u i46; have a13 := t_add e46 ro_109_19 i10 rfl; have a14 := in_u i32; have a15 := t_add e32 ro_109_19 i10 rfl; have a16 := in_u i16x34; have a17 := t_add e16x34 ro_109_19 i10 rfl; have a18 := in_u i16x23; have a19 := t_add e16x23 ro_109_19 i10 rfl; have a20 := in_u i16x9; have a21 := t_add e16x9 ro_109_19 i10 rfl; have oc := oc_333_109; by omega)), Or.inr hc⟩)) (by exact (have a0 := in_u h1; have a1 := in_u ro_109_19; have a2 := in_u i10; have a3 := in_u j5_3; have a4 := in_u i47; have a5 := in_u i33; have a6 := in_u i88; have a7 := t_add e88 i10 (in_c 1 rfl) rfl; have a8 := in_u ((in_c 1 rfl)); have a9 := in_u i86; have a10 := t_add e86 j5_3 (in_c 0 rfl) rfl; have a11 := in_u ((in_c 0 rfl)); have a12 := in_u i46; have a13 := t_add e46 ro_109_19 i10 rfl; have a14 := in_u i32; have a15 := t_add e32 ro_109_19 i10 rfl; have a16 := in_u i16x34; have a17 := t_add e16x34 ro_109_19 i10 rfl; have a18 := in_u i16x23; have a19 := t_add e16x23 ro_109_19 i10 rfl; have a20 := in_u i16x9; have a21 := t_add e16x9 ro_109_19 i10 rfl; have oc := oc_333_109; by omega)))
                      exact gg_w (by first | exact Nat.le_add_right _ _ | exact gw2 | exact gw3 | exact gwe rfl | exact gwf rfl | exact gwg rfl | exact gwh rfl | omega) (gg_f (gf_cons rfl (gf_cons rfl (gf_cons rfl (gf_cons rfl (gf_cons rfl gf_nil))))) (ih5  z86 z88  (rl_w 0 160 l5 i86 (in_w 0 160 i88 rfl) rfl) (in_w 0 160 i88 rfl) l5 n5 (m_up mm5 (t_add e88 i10 (in_c 1 rfl) rfl) (in_w 1 1 (in_c 1 rfl) rfl))))
                    · skip
                      exact zn_ne c78 (in_c 0 rfl) rfl
                  · skip
                    have i75x6 := r_eq1 1 1 c75x6 i75x4 (in_c 1 rfl) rfl
                    refine g_iconst 1 10 (gd rfl) rfl rfl ?_
                    refine g_goto 14 (gd rfl) rfl ?_
                    refine g_ireturn (gd rfl) rfl (nb01 (in_w 0 1 (in_c 1 rfl) rfl)) (hp75 _ _ ?_)
                    show GG _ _ _ _ _ _ _ _ [.int (Int32.ofInt 1), .int y5_3] _ _ _
                    refine g_if_eq 81 85 (gd rfl) rfl rfl (fun c78 => ?_) (fun c78 => ?_)
                    · skip
                      exact zn_eq c78 (in_c 1 rfl) rfl
                    · skip
                      refine g_iconst 1 82 (gd rfl) rfl rfl ?_
                      refine g_goto 86 (gd rfl) rfl ?_
                      refine g_iadd 87 (gd rfl) rfl (fun z86 e86 => ?_)
                      have i86 := in_add 1 161 e86 j5_3 (in_c 1 rfl) rfl rfl
                      refine g_istore_n 88 (gd rfl) rfl (Nat.le_of_ble_eq_true rfl) ?_
                      refine g_iinc 91 (gd rfl) rfl rfl (Nat.le_of_ble_eq_true rfl) (fun z88 e88 => ?_)
                      have i88 := in_add 1 160 e88 i10 (in_c 1 rfl) rfl rfl
                      refine g_goto 5 (gd rfl) rfl ?_
                      have l5 := rl_1 l5_3 (t_add e86 j5_3 (in_c 1 rfl) rfl) (in_c 1 rfl) (t_add e88 i10 (in_c 1 rfl) rfl) (in_c 1 rfl) rfl
                      have n5 : ((z86).toInt = sm (jd (ARE (gvZ s) 0) (ARE (gvZ s) 1) x2 (x1).toNatClampNeg) (z88).toNatClampNeg) := by rw [show (z88).toNatClampNeg = (y5_4).toNatClampNeg + 1 from (by show (z88).toInt.toNat = (y5_4).toInt.toNat + 1; exact (have a0 := in_u h1; have a1 := in_u ro_109_19; have a2 := in_u i10; have a3 := in_u j5_3; have a4 := in_u i47; have a5 := in_u i33; have a6 := in_u i88; have a7 := t_add e88 i10 (in_c 1 rfl) rfl; have a8 := in_u ((in_c 1 rfl)); have a9 := in_u i86; have a10 := t_add e86 j5_3 (in_c 1 rfl) rfl; have a11 := in_u i46; have a12 := t_add e46 ro_109_19 i10 rfl; have a13 := in_u i32; have a14 := t_add e32 ro_109_19 i10 rfl; have a15 := in_u i16x34; have a16 := t_add e16x34 ro_109_19 i10 rfl; have a17 := in_u i16x23; have a18 := t_add e16x23 ro_109_19 i10 rfl; have a19 := in_u i16x9; have a20 := t_add e16x9 ro_109_19 i10 rfl; have oc := oc_333_109; by omega))]; first | (have hc := (bt_yes e75x2 e75x4 i33 c75x6); exact jw_s 1 g5_0 (jd_w af at_ i33 i47 ne (Or.inl ⟨rfl, Or.inr ⟨(by rw [xx]; exact (have a0 := in_u h1; have a1 := in_u ro_109_19; have a2 := in_u i10; have a3 := in_u j5_3; have a4 := in_u i47; have a5 := in_u i33; have a6 := in_u i88; have a7 := t_add e88 i10 (in_c 1 rfl) rfl; have a8 := in_u ((in_c 1 rfl)); have a9 := in_u i86; have a10 := t_add e86 j5_3 (in_c 1 rfl) rfl; have a11 := in_u i46; have a12 := t_add e46 ro_109_19 i10 rfl; have a13 := in_u i32; have a14 := t_add e32 ro_109_19 i10 rfl; have a15 := in_u i16x34; have a16 := t_add e16x34 ro_109_19 i10 rfl; have a17 := in_u i16x23; have a18 := t_add e16x23 ro_109_19 i10 rfl; have a19 := in_u i16x9; have a20 := t_add e16x9 ro_109_19 i10 rfl; have oc := oc_333_109; by omega)), hc⟩⟩)) (by exact (have a0 := in_u h1; have a1 := in_u ro_109_19; have a2 := in_u i10; have a3 := in_u j5_3; have a4 := in_u i47; have a5 := in_u i33; have a6 := in_u i88; have a7 := t_add e88 i10 (in_c 1 rfl) rfl; have a8 := in_u ((in_c 1 rfl)); have a9 := in_u i86; have a10 := t_add e86 j5_3 (in_c 1 rfl) rfl; have a11 := in_u i46; have a12 := t_add e46 ro_109_19 i10 rfl; have a13 := in_u i32; have a14 := t_add e32 ro_109_19 i10 rfl; have a15 := in_u i16x34; have a16 := t_add e16x34 ro_109_19 i10 rfl; have a17 := in_u i16x23; have a18 := t_add e16x23 ro_109_19 i10 rfl; have a19 := in_u i16x9; have a20 := t_add e16x9 ro_109_19 i10 rfl; have oc := oc_333_109; by omega))) | (have hc := (bt_no e75x2 e75x4 i33 c75x6); exact jw_s 0 g5_0 (jd_w af at_ i33 i47 ne (Or.inr ⟨rfl, Or.inl (by rw [xx]; exact (have a0 := in_u h1; have a1 := in_u ro_109_19; have a2 := in_u i10; have a3 := in_u j5_3; have a4 := in_u i47; have a5 := in_u i33; have a6 := in_u i88; have a7 := t_add e88 i10 (in_c 1 rfl) rfl; have a8 := in_u ((in_c 1 rfl)); have a9 := in_u i86; have a10 := t_add e86 j5_3 (in_c 1 rfl) rfl; have a11 := in_u i46; have a12 := t_add e46 ro_109_19 i10 rfl; have a13 := in_u i32; have a14 := t_add e32 ro_109_19 i10 rfl; have a15 := in_u i16x34; have a16 := t_add e16x34 ro_109_19 i10 rfl; have a17 := in_u i16x23; have a18 := t_add e16x23 ro_109_19 i10 rfl; have a19 := in_u i16x9; have a20 := t_add e16x9 ro_109_19 i10 rfl; have oc := oc_333_109; by omega)), Or.inr hc⟩)) (by exact (have a0 := in_u h1; have a1 := in_u ro_109_19; have a2 := in_u i10; have a3 := in_u j5_3; have a4 := in_u i47; have a5 := in_u i33; have a6 := in_u i88; have a7 := t_add e88 i10 (in_c 1 rfl) rfl; have a8 := in_u ((in_c 1 rfl)); have a9 := in_u i86; have a10 := t_add e86 j5_3 (in_c 1 rfl) rfl; have a11 := in_u i46; have a12 := t_add e46 ro_109_19 i10 rfl; have a13 := in_u i32; have a14 := t_add e32 ro_109_19 i10 rfl; have a15 := in_u i16x34; have a16 := t_add e16x34 ro_109_19 i10 rfl; have a17 := in_u i16x23; have a18 := t_add e16x23 ro_109_19 i10 rfl; have a19 := in_u i16x9; have a20 := t_add e16x9 ro_109_19 i10 rfl; have oc := oc_333_109; by omega)))
                      exact gg_w (by first | exact Nat.le_add_right _ _ | exact gw2 | exact gw3 | exact gwe rfl | exact gwf rfl | exact gwg rfl | exact gwh rfl | omega) (gg_f (gf_cons rfl (gf_cons rfl (gf_cons rfl (gf_cons rfl (gf_cons rfl gf_nil))))) (ih5  z86 z88  (rl_w 0 160 l5 i86 (in_w 0 160 i88 rfl) rfl) (in_w 0 160 i88 rfl) l5 n5 (m_up mm5 (t_add e88 i10 (in_c 1 rfl) rfl) (in_w 1 1 (in_c 1 rfl) rfl))))
              · skip
                refine g_iload_n 58 (gd rfl) rfl rfl ?_
                refine g_iload 60 (gd rfl) rfl rfl ?_
                refine g_calls (As := [.int x2, .int z47]) (r := [.int y5_3]) 63 (gd rfl) rfl rfl rfl rfl rfl (Nat.le_of_ble_eq_true rfl) (mc := 0) (ms := 0) (Nat.zero_le _) (Nat.zero_le _) (P := fun v u => _) ?_ (fun v u h => h)
                intro po60 xx60 hp60 hx60
                refine g_enter2 (k := 311) (N := 300) (by first | exact dq1 hd rfl | exact dq0 hd rfl | exact dq2 hd rfl | exact dq3 hd rfl | omega) rfl (Nat.le_of_ble_eq_true rfl) ?_
                refine g_iload_n 1 (gd rfl) rfl rfl ?_
                refine g_iload_n 2 (gd rfl) rfl rfl ?_
                refine g_ishr 3 (gd rfl) rfl (fun z60x2 e60x2 => ?_)
                refine g_iconst 1 4 (gd rfl) rfl rfl ?_
                refine g_iand 5 (gd rfl) rfl (fun z60x4 e60x4 => ?_)
                have i60x4 := in_and2 e60x4 (in_c 1 rfl) rfl
                refine g_iconst 1 6 (gd rfl) rfl rfl ?_
                refine g_cmp_ne 9 13 (gd rfl) rfl rfl (fun c60x6 => ?_) (fun c60x6 => ?_)
                · skip
                  have i60x6 := r_ne1 0 0 c60x6 i60x4 (in_c 1 rfl) rfl
                  refine g_iconst 0 14 (gd rfl) rfl rfl ?_
                  refine g_ireturn (gd rfl) rfl (nb01 (in_w 0 1 (in_c 0 rfl) rfl)) (hp60 _ _ ?_)
                  show GG _ _ _ _ _ _ _ _ [.int (Int32.ofInt 0), .int y5_3] _ _ _
                  refine g_if_ne 66 81 (gd rfl) rfl rfl (fun c63 => ?_) (fun c63 => ?_)
                  · skip
                    exact zn_ne c63 (in_c 0 rfl) rfl
                  · skip
                    refine g_iload 68 (gd rfl) rfl rfl ?_
                    refine g_iload_n 69 (gd rfl) rfl rfl ?_
                    refine g_cmp_ne 72 85 (gd rfl) rfl rfl (fun c69 => ?_) (fun c69 => ?_)
                    · skip
                      refine g_iconst 0 86 (gd rfl) rfl rfl ?_
                      refine g_iadd 87 (gd rfl) rfl (fun z86 e86 => ?_)
                      have i86 := in_add 0 160 e86 j5_3 (in_c 0 rfl) rfl rfl
                      refine g_istore_n 88 (gd rfl) rfl (Nat.le_of_ble_eq_true rfl) ?_
                      refine g_iinc 91 (gd rfl) rfl rfl (Nat.le_of_ble_eq_true rfl) (fun z88 e88 => ?_)
                      have i88 := in_add 1 160 e88 i10 (in_c 1 rfl) rfl rfl
                      refine g_goto 5 (gd rfl) rfl ?_
                      have l5 := rl_1 l5_3 (t_add e86 j5_3 (in_c 0 rfl) rfl) (in_c 0 rfl) (t_add e88 i10 (in_c 1 rfl) rfl) (in_c 1 rfl) rfl
                      have n5 : ((z86).toInt = sm (jd (ARE (gvZ s) 0) (ARE (gvZ s) 1) x2 (x1).toNatClampNeg) (z88).toNatClampNeg) := by rw [show (z88).toNatClampNeg = (y5_4).toNatClampNeg + 1 from (by show (z88).toInt.toNat = (y5_4).toInt.toNat + 1; exact (have a0 := in_u h1; have a1 := in_u ro_109_19; have a2 := in_u i10; have a3 := in_u j5_3; have a4 := in_u i47; have a5 := in_u i33; have a6 := in_u i88; have a7 := t_add e88 i10 (in_c 1 rfl) rfl; have a8 := in_u ((in_c 1 rfl)); have a9 := in_u i86; have a10 := t_add e86 j5_3 (in_c 0 rfl) rfl; have a11 := in_u ((in_c 0 rfl)); have a12 := in_u i46; have a13 := t_add e46 ro_109_19 i10 rfl; have a14 := in_u i32; have a15 := t_add e32 ro_109_19 i10 rfl; have a16 := in_u i16x34; have a17 := t_add e16x34 ro_109_19 i10 rfl; have a18 := in_u i16x23; have a19 := t_add e16x23 ro_109_19 i10 rfl; have a20 := in_u i16x9; have a21 := t_add e16x9 ro_109_19 i10 rfl; have oc := oc_333_109; by omega))]; first | (have hb := (bt_yes e60x2 e60x4 i47 c60x6); exact jw_s 1 g5_0 (jd_w af at_ i33 i47 ne (Or.inl ⟨rfl, Or.inl ⟨(by rw [xx]; exact (have a0 := in_u h1; have a1 := in_u ro_109_19; have a2 := in_u i10; have a3 := in_u j5_3; have a4 := in_u i47; have a5 := in_u i33; have a6 := in_u i88; have a7 := t_add e88 i10 (in_c 1 rfl) rfl; have a8 := in_u ((in_c 1 rfl)); have a9 := in_u i86; have a10 := t_add e86 j5_3 (in_c 0 rfl) rfl; have a11 := in_u ((in_c 0 rfl)); have a12 := in_u i46; have a13 := t_add e46 ro_109_19 i10 rfl; have a14 := in_u i32; have a15 := t_add e32 ro_109_19 i10 rfl; have a16 := in_u i16x34; have a17 := t_add e16x34 ro_109_19 i10 rfl; have a18 := in_u i16x23; have a19 := t_add e16x23 ro_109_19 i10 rfl; have a20 := in_u i16x9; have a21 := t_add e16x9 ro_109_19 i10 rfl; have oc := oc_333_109; by omega)), hb⟩⟩)) (by exact (have a0 := in_u h1; have a1 := in_u ro_109_19; have a2 := in_u i10; have a3 := in_u j5_3; have a4 := in_u i47; have a5 := in_u i33; have a6 := in_u i88; have a7 := t_add e88 i10 (in_c 1 rfl) rfl; have a8 := in_u ((in_c 1 rfl)); have a9 := in_u i86; have a10 := t_add e86 j5_3 (in_c 0 rfl) rfl; have a11 := in_u ((in_c 0 rfl)); have a12 := in_u i46; have a13 := t_add e46 ro_109_19 i10 rfl; have a14 := in_u i32; have a15 := t_add e32 ro_109_19 i10 rfl; have a16 := in_u i16x34; have a17 := t_add e16x34 ro_109_19 i10 rfl; have a18 := in_u i16x23; have a19 := t_add e16x23 ro_109_19 i10 rfl; have a20 := in_u i16x9; have a21 := t_add e16x9 ro_109_19 i10 rfl; have oc := oc_333_109; by omega))) | (have hb := (bt_no e60x2 e60x4 i47 c60x6); exact jw_s 0 g5_0 (jd_w af at_ i33 i47 ne (Or.inr ⟨rfl, Or.inr hb, Or.inl (by rw [xx]; exact (have a0 := in_u h1; have a1 := in_u ro_109_19; have a2 := in_u i10; have a3 := in_u j5_3; have a4 := in_u i47; have a5 := in_u i33; have a6 := in_u i88; have a7 := t_add e88 i10 (in_c 1 rfl) rfl; have a8 := in_u ((in_c 1 rfl)); have a9 := in_u i86; have a10 := t_add e86 j5_3 (in_c 0 rfl) rfl; have a11 := in_u ((in_c 0 rfl)); have a12 := in_u i46; have a13 := t_add e46 ro_109_19 i10 rfl; have a14 := in_u i32; have a15 := t_add e32 ro_109_19 i10 rfl; have a16 := in_u i16x34; have a17 := t_add e16x34 ro_109_19 i10 rfl; have a18 := in_u i16x23; have a19 := t_add e16x23 ro_109_19 i10 rfl; have a20 := in_u i16x9; have a21 := t_add e16x9 ro_109_19 i10 rfl; have oc := oc_333_109; by omega))⟩)) (by exact (have a0 := in_u h1; have a1 := in_u ro_109_19; have a2 := in_u i10; have a3 := in_u j5_3; have a4 := in_u i47; have a5 := in_u i33; have a6 := in_u i88; have a7 := t_add e88 i10 (in_c 1 rfl) rfl; have a8 := in_u ((in_c 1 rfl)); have a9 := in_u i86; have a10 := t_add e86 j5_3 (in_c 0 rfl) rfl; have a11 := in_u ((in_c 0 rfl)); have a12 := in_u i46; have a13 := t_add e46 ro_109_19 i10 rfl; have a14 := in_u i32; have a15 := t_add e32 ro_109_19 i10 rfl; have a16 := in_u i16x34; have a17 := t_add e16x34 ro_109_19 i10 rfl; have a18 := in_u i16x23; have a19 := t_add e16x23 ro_109_19 i10 rfl; have a20 := in_u i16x9; have a21 := t_add e16x9 ro_109_19 i10 rfl; have oc := oc_333_109; by omega)))
                      exact gg_w (by first | exact Nat.le_add_right _ _ | exact gw2 | exact gw3 | exact gwe rfl | exact gwf rfl | exact gwg rfl | exact gwh rfl | omega) (gg_f (gf_cons rfl (gf_cons rfl (gf_cons rfl (gf_cons rfl (gf_cons rfl gf_nil))))) (ih5  z86 z88  (rl_w 0 160 l5 i86 (in_w 0 160 i88 rfl) rfl) (in_w 0 160 i88 rfl) l5 n5 (m_up mm5 (t_add e88 i10 (in_c 1 rfl) rfl) (in_w 1 1 (in_c 1 rfl) rfl))))
                    · skip
                      refine g_iload_n 73 (gd rfl) rfl rfl ?_
                      refine g_iload 75 (gd rfl) rfl rfl ?_
                      refine g_calls (As := [.int x2, .int z33]) (r := [.int y5_3]) 78 (gd rfl) rfl rfl rfl rfl rfl (Nat.le_of_ble_eq_true rfl) (mc := 0) (ms := 0) (Nat.zero_le _) (Nat.zero_le _) (P := fun v u => _) ?_ (fun v u h => h)
                      intro po75 xx75 hp75 hx75
                      refine g_enter2 (k := 311) (N := 300) (by first | exact dq1 hd rfl | exact dq0 hd rfl | exact dq2 hd rfl | exact dq3 hd rfl | omega) rfl (Nat.le_of_ble_eq_true rfl) ?_
                      refine g_iload_n 1 (gd rfl) rfl rfl ?_
                      refine g_iload_n 2 (gd rfl) rfl rfl ?_
                      refine g_ishr 3 (gd rfl) rfl (fun z75x2 e75x2 => ?_)
                      refine g_iconst 1 4 (gd rfl) rfl rfl ?_
                      refine g_iand 5 (gd rfl) rfl (fun z75x4 e75x4 => ?_)
                      have i75x4 := in_and2 e75x4 (in_c 1 rfl) rfl
                      refine g_iconst 1 6 (gd rfl) rfl rfl ?_
                      refine g_cmp_ne 9 13 (gd rfl) rfl rfl (fun c75x6 => ?_) (fun c75x6 => ?_)
                      · skip
                        have i75x6 := r_ne1 0 0 c75x6 i75x4 (in_c 1 rfl) rfl
                        refine g_iconst 0 14 (gd rfl) rfl rfl ?_
                        refine g_ireturn (gd rfl) rfl (nb01 (in_w 0 1 (in_c 0 rfl) rfl)) (hp75 _ _ ?_)
                        show GG _ _ _ _ _ _ _ _ [.int (Int32.ofInt 0), .int y5_3] _ _ _
                        refine g_if_eq 81 85 (gd rfl) rfl rfl (fun c78 => ?_) (fun c78 => ?_)
                        · skip
                          refine g_iconst 0 86 (gd rfl) rfl rfl ?_
                          refine g_iadd 87 (gd rfl) rfl (fun z86 e86 => ?_)
                          have i86 := in_add 0 160 e86 j5_3 (in_c 0 rfl) rfl rfl
                          refine g_istore_n 88 (gd rfl) rfl (Nat.le_of_ble_eq_true rfl) ?_
                          refine g_iinc 91 (gd rfl) rfl rfl (Nat.le_of_ble_eq_true rfl) (fun z88 e88 => ?_)
                          have i88 := in_add 1 160 e88 i10 (in_c 1 rfl) rfl rfl
                          refine g_goto 5 (gd rfl) rfl ?_
                          have l5 := rl_1 l5_3 (t_add e86 j5_3 (in_c 0 rfl) rfl) (in_c 0 rfl) (t_add e88 i10 (in_c 1 rfl) rfl) (in_c 1 rfl) rfl
                          have n5 : ((z86).toInt = sm (jd (ARE (gvZ s) 0) (ARE (gvZ s) 1) x2 (x1).toNatClampNeg) (z88).toNatClampNeg) := by rw [show (z88).toNatClampNeg = (y5_4).toNatClampNeg + 1 from (by show (z88).toInt.toNat = (y5_4).toInt.toNat + 1; exact (have a0 := in_u h1; have a1 := in_u ro_109_19; have a2 := in_u i10; have a3 := in_u j5_3; have a4 := in_u i47; have a5 := in_u i33; have a6 := in_u i88; have a7 := t_add e88 i10 (in_c 1 rfl) rfl; have a8 := in_u ((in_c 1 rfl)); have a9 := in_u i86; have a10 := t_add e86 j5_3 (in_c 0 rfl) rfl; have a11 := in_u ((in_c 0 rfl)); have a12 := in_u i46; have a13 := t_add e46 ro_109_19 i10 rfl; have a14 := in_u i32; have a15 := t_add e32 ro_109_19 i10 rfl; have a16 := in_u i16x34; have a17 := t_add e16x34 ro_109_19 i10 rfl; have a18 := in_u i16x23; have a19 := t_add e16x23 ro_109_19 i10 rfl; have a20 := in_u i16x9; have a21 := t_add e16x9 ro_109_19 i10 rfl; have oc := oc_333_109; by omega))]; first | (have hc := (bt_yes e75x2 e75x4 i33 c75x6); exact jw_s 1 g5_0 (jd_w af at_ i33 i47 ne (Or.inl ⟨rfl, Or.inr ⟨(by rw [xx]; exact (have a0 := in_u h1; have a1 := in_u ro_109_19; have a2 := in_u i10; have a3 := in_u j5_3; have a4 := in_u i47; have a5 := in_u i33; have a6 := in_u i88; have a7 := t_add e88 i10 (in_c 1 rfl) rfl; have a8 := in_u ((in_c 1 rfl)); have a9 := in_u i86; have a10 := t_add e86 j5_3 (in_c 0 rfl) rfl; have a11 := in_u ((in_c 0 rfl)); have a12 := in_u i46; have a13 := t_add e46 ro_109_19 i10 rfl; have a14 := in_u i32; have a15 := t_add e32 ro_109_19 i10 rfl; have a16 := in_u i16x34; have a17 := t_add e16x34 ro_109_19 i10 rfl; have a18 := in_u i16x23; have a19 := t_add e16x23 ro_109_19 i10 rfl; have a20 := in_u i16x9; have a21 := t_add e16x9 ro_109_19 i10 rfl; have oc := oc_333_109; by omega)), hc⟩⟩)) (by exact (have a0 := in_u h1; have a1 := in_u ro_109_19; have a2 := in_u i10; have a3 := in_u j5_3; have a4 := in_u i47; have a5 := in_u i33; have a6 := in_u i88; have a7 := t_add e88 i10 (in_c 1 rfl) rfl; have a8 := in_u ((in_c 1 rfl)); have a9 := in_u i86; have a10 := t_add e86 j5_3 (in_c 0 rfl) rfl; have a11 := in_u ((in_c 0 rfl)); have a12 := in_u i46; have a13 := t_add e46 ro_109_19 i10 rfl; have a14 := in_u i32; have a15 := t_add e32 ro_109_19 i10 rfl; have a16 := in_u i16x34; have a17 := t_add e16x34 ro_109_19 i10 rfl; have a18 := in_u i16x23; have a19 := t_add e16x23 ro_109_19 i10 rfl; have a20 := in_u i16x9; have a21 := t_add e16x9 ro_109_19 i10 rfl; have oc := oc_333_109; by omega))) | (have hc := (bt_no e75x2 e75x4 i33 c75x6); exact jw_s 0 g5_0 (jd_w af at_ i33 i47 ne (Or.inr ⟨rfl, Or.inr (bt_no e60x2 e60x4 i47 c60x6), Or.inr hc⟩)) (by exact (have a0 := in_u h1; have a1 := in_u ro_109_19; have a2 := in_u i10; have a3 := in_u j5_3; have a4 := in_u i47; have a5 := in_u i33; have a6 := in_u i88; have a7 := t_add e88 i10 (in_c 1 rfl) rfl; have a8 := in_u ((in_c 1 rfl)); have a9 := in_u i86; have a10 := t_add e86 j5_3 (in_c 0 rfl) rfl; have a11 := in_u ((in_c 0 rfl)); have a12 := in_u i46; have a13 := t_add e46 ro_109_19 i10 rfl; have a14 := in_u i32; have a15 := t_add e32 ro_109_19 i10 rfl; have a16 := in_u i16x34; have a17 := t_add e16x34 ro_109_19 i10 rfl; have a18 := in_u i16x23; have a19 := t_add e16x23 ro_109_19 i10 rfl; have a20 := in_u i16x9; have a21 := t_add e16x9 ro_109_19 i10 rfl; have oc := oc_333_109; by omega)))
                          exact gg_w (by first | exact Nat.le_add_right _ _ | exact gw2 | exact gw3 | exact gwe rfl | exact gwf rfl | exact gwg rfl | exact gwh rfl | omega) (gg_f (gf_cons rfl (gf_cons rfl (gf_cons rfl (gf_cons rfl (gf_cons rfl gf_nil))))) (ih5  z86 z88  (rl_w 0 160 l5 i86 (in_w 0 160 i88 rfl) rfl) (in_w 0 160 i88 rfl) l5 n5 (m_up mm5 (t_add e88 i10 (in_c 1 rfl) rfl) (in_w 1 1 (in_c 1 rfl) rfl))))
                        · skip
                          exact zn_ne c78 (in_c 0 rfl) rfl
                      · skip
                        have i75x6 := r_eq1 1 1 c75x6 i75x4 (in_c 1 rfl) rfl
                        refine g_iconst 1 10 (gd rfl) rfl rfl ?_
                        refine g_goto 14 (gd rfl) rfl ?_
                        refine g_ireturn (gd rfl) rfl (nb01 (in_w 0 1 (in_c 1 rfl) rfl)) (hp75 _ _ ?_)
                        show GG _ _ _ _ _ _ _ _ [.int (Int32.ofInt 1), .int y5_3] _ _ _
                        refine g_if_eq 81 85 (gd rfl) rfl rfl (fun c78 => ?_) (fun c78 => ?_)
                        · skip
                          exact zn_eq c78 (in_c 1 rfl) rfl
                        · skip
                          refine g_iconst 1 82 (gd rfl) rfl rfl ?_
                          refine g_goto 86 (gd rfl) rfl ?_
                          refine g_iadd 87 (gd rfl) rfl (fun z86 e86 => ?_)
                          have i86 := in_add 1 161 e86 j5_3 (in_c 1 rfl) rfl rfl
                          refine g_istore_n 88 (gd rfl) rfl (Nat.le_of_ble_eq_true rfl) ?_
                          refine g_iinc 91 (gd rfl) rfl rfl (Nat.le_of_ble_eq_true rfl) (fun z88 e88 => ?_)
                          have i88 := in_add 1 160 e88 i10 (in_c 1 rfl) rfl rfl
                          refine g_goto 5 (gd rfl) rfl ?_
                          have l5 := rl_1 l5_3 (t_add e86 j5_3 (in_c 1 rfl) rfl) (in_c 1 rfl) (t_add e88 i10 (in_c 1 rfl) rfl) (in_c 1 rfl) rfl
                          have n5 : ((z86).toInt = sm (jd (ARE (gvZ s) 0) (ARE (gvZ s) 1) x2 (x1).toNatClampNeg) (z88).toNatClampNeg) := by rw [show (z88).toNatClampNeg = (y5_4).toNatClampNeg + 1 from (by show (z88).toInt.toNat = (y5_4).toInt.toNat + 1; exact (have a0 := in_u h1; have a1 := in_u ro_109_19; have a2 := in_u i10; have a3 := in_u j5_3; have a4 := in_u i47; have a5 := in_u i33; have a6 := in_u i88; have a7 := t_add e88 i10 (in_c 1 rfl) rfl; have a8 := in_u ((in_c 1 rfl)); have a9 := in_u i86; have a10 := t_add e86 j5_3 (in_c 1 rfl) rfl; have a11 := in_u i46; have a12 := t_add e46 ro_109_19 i10 rfl; have a13 := in_u i32; have a14 := t_add e32 ro_109_19 i10 rfl; have a15 := in_u i16x34; have a16 := t_add e16x34 ro_109_19 i10 rfl; have a17 := in_u i16x23; have a18 := t_add e16x23 ro_109_19 i10 rfl; have a19 := in_u i16x9; have a20 := t_add e16x9 ro_109_19 i10 rfl; have oc := oc_333_109; by omega))]; first | (have hc := (bt_yes e75x2 e75x4 i33 c75x6); exact jw_s 1 g5_0 (jd_w af at_ i33 i47 ne (Or.inl ⟨rfl, Or.inr ⟨(by rw [xx]; exact (have a0 := in_u h1; have a1 := in_u ro_109_19; have a2 := in_u i10; have a3 := in_u j5_3; have a4 := in_u i47; have a5 := in_u i33; have a6 := in_u i88; have a7 := t_add e88 i10 (in_c 1 rfl) rfl; have a8 := in_u ((in_c 1 rfl)); have a9 := in_u i86; have a10 := t_add e86 j5_3 (in_c 1 rfl) rfl; have a11 := in_u i46; have a12 := t_add e46 ro_109_19 i10 rfl; have a13 := in_u i32; have a14 := t_add e32 ro_109_19 i10 rfl; have a15 := in_u i16x34; have a16 := t_add e16x34 ro_109_19 i10 rfl; have a17 := in_u i16x23; have a18 := t_add e16x23 ro_109_19 i10 rfl; have a19 := in_u i16x9; have a20 := t_add e16x9 ro_109_19 i10 rfl; have oc := oc_333_109; by omega)), hc⟩⟩)) (by exact (have a0 := in_u h1; have a1 := in_u ro_109_19; have a2 := in_u i10; have a3 := in_u j5_3; have a4 := in_u i47; have a5 := in_u i33; have a6 := in_u i88; have a7 := t_add e88 i10 (in_c 1 rfl) rfl; have a8 := in_u ((in_c 1 rfl)); have a9 := in_u i86; have a10 := t_add e86 j5_3 (in_c 1 rfl) rfl; have a11 := in_u i46; have a12 := t_add e46 ro_109_19 i10 rfl; have a13 := in_u i32; have a14 := t_add e32 ro_109_19 i10 rfl; have a15 := in_u i16x34; have a16 := t_add e16x34 ro_109_19 i10 rfl; have a17 := in_u i16x23; have a18 := t_add e16x23 ro_109_19 i10 rfl; have a19 := in_u i16x9; have a20 := t_add e16x9 ro_109_19 i10 rfl; have oc := oc_333_109; by omega))) | (have hc := (bt_no e75x2 e75x4 i33 c75x6); exact jw_s 0 g5_0 (jd_w af at_ i33 i47 ne (Or.inr ⟨rfl, Or.inr (bt_no e60x2 e60x4 i47 c60x6), Or.inr hc⟩)) (by exact (have a0 := in_u h1; have a1 := in_u ro_109_19; have a2 := in_u i10; have a3 := in_u j5_3; have a4 := in_u i47; have a5 := in_u i33; have a6 := in_u i88; have a7 := t_add e88 i10 (in_c 1 rfl) rfl; have a8 := in_u ((in_c 1 rfl)); have a9 := in_u i86; have a10 := t_add e86 j5_3 (in_c 1 rfl) rfl; have a11 := in_u i46; have a12 := t_add e46 ro_109_19 i10 rfl; have a13 := in_u i32; have a14 := t_add e32 ro_109_19 i10 rfl; have a15 := in_u i16x34; have a16 := t_add e16x34 ro_109_19 i10 rfl; have a17 := in_u i16x23; have a18 := t_add e16x23 ro_109_19 i10 rfl; have a19 := in_u i16x9; have a20 := t_add e16x9 ro_109_19 i10 rfl; have oc := oc_333_109; by omega)))
                          exact gg_w (by first | exact Nat.le_add_right _ _ | exact gw2 | exact gw3 | exact gwe rfl | exact gwf rfl | exact gwg rfl | exact gwh rfl | omega) (gg_f (gf_cons rfl (gf_cons rfl (gf_cons rfl (gf_cons rfl (gf_cons rfl gf_nil))))) (ih5  z86 z88  (rl_w 0 160 l5 i86 (in_w 0 160 i88 rfl) rfl) (in_w 0 160 i88 rfl) l5 n5 (m_up mm5 (t_add e88 i10 (in_c 1 rfl) rfl) (in_w 1 1 (in_c 1 rfl) rfl))))
                · skip
                  have i60x6 := r_eq1 1 1 c60x6 i60x4 (in_c 1 rfl) rfl
                  refine g_iconst 1 10 (gd rfl) rfl rfl ?_
                  refine g_goto 14 (gd rfl) rfl ?_
                  refine g_ireturn (gd rfl) rfl (nb01 (in_w 0 1 (in_c 1 rfl) rfl)) (hp60 _ _ ?_)
                  show GG _ _ _ _ _ _ _ _ [.int (Int32.ofInt 1), .int y5_3] _ _ _
                  refine g_if_ne 66 81 (gd rfl) rfl rfl (fun c63 => ?_) (fun c63 => ?_)
                  · skip
                    refine g_iconst 1 82 (gd rfl) rfl rfl ?_
                    refine g_goto 86 (gd rfl) rfl ?_
                    refine g_iadd 87 (gd rfl) rfl (fun z86 e86 => ?_)
                    have i86 := in_add 1 161 e86 j5_3 (in_c 1 rfl) rfl rfl
                    refine g_istore_n 88 (gd rfl) rfl (Nat.le_of_ble_eq_true rfl) ?_
                    refine g_iinc 91 (gd rfl) rfl rfl (Nat.le_of_ble_eq_true rfl) (fun z88 e88 => ?_)
                    have i88 := in_add 1 160 e88 i10 (in_c 1 rfl) rfl rfl
                    refine g_goto 5 (gd rfl) rfl ?_
                    have l5 := rl_1 l5_3 (t_add e86 j5_3 (in_c 1 rfl) rfl) (in_c 1 rfl) (t_add e88 i10 (in_c 1 rfl) rfl) (in_c 1 rfl) rfl
                    have n5 : ((z86).toInt = sm (jd (ARE (gvZ s) 0) (ARE (gvZ s) 1) x2 (x1).toNatClampNeg) (z88).toNatClampNeg) := by rw [show (z88).toNatClampNeg = (y5_4).toNatClampNeg + 1 from (by show (z88).toInt.toNat = (y5_4).toInt.toNat + 1; exact (have a0 := in_u h1; have a1 := in_u ro_109_19; have a2 := in_u i10; have a3 := in_u j5_3; have a4 := in_u i47; have a5 := in_u i33; have a6 := in_u i88; have a7 := t_add e88 i10 (in_c 1 rfl) rfl; have a8 := in_u ((in_c 1 rfl)); have a9 := in_u i86; have a10 := t_add e86 j5_3 (in_c 1 rfl) rfl; have a11 := in_u i46; have a12 := t_add e46 ro_109_19 i10 rfl; have a13 := in_u i32; have a14 := t_add e32 ro_109_19 i10 rfl; have a15 := in_u i16x34; have a16 := t_add e16x34 ro_109_19 i10 rfl; have a17 := in_u i16x23; have a18 := t_add e16x23 ro_109_19 i10 rfl; have a19 := in_u i16x9; have a20 := t_add e16x9 ro_109_19 i10 rfl; have oc := oc_333_109; by omega))]; first | (have hb := (bt_yes e60x2 e60x4 i47 c60x6); exact jw_s 1 g5_0 (jd_w af at_ i33 i47 ne (Or.inl ⟨rfl, Or.inl ⟨(by rw [xx]; exact (have a0 := in_u h1; have a1 := in_u ro_109_19; have a2 := in_u i10; have a3 := in_u j5_3; have a4 := in_u i47; have a5 := in_u i33; have a6 := in_u i88; have a7 := t_add e88 i10 (in_c 1 rfl) rfl; have a8 := in_u ((in_c 1 rfl)); have a9 := in_u i86; have a10 := t_add e86 j5_3 (in_c 1 rfl) rfl; have a11 := in_u i46; have a12 := t_add e46 ro_109_19 i10 rfl; have a13 := in_u i32; have a14 := t_add e32 ro_109_19 i10 rfl; have a15 := in_u i16x34; have a16 := t_add e16x34 ro_109_19 i10 rfl; have a17 := in_u i16x23; have a18 := t_add e16x23 ro_109_19 i10 rfl; have a19 := in_u i16x9; have a20 := t_add e16x9 ro_109_19 i10 rfl; have oc := oc_333_109; by omega)), hb⟩⟩)) (by exact (have a0 := in_u h1; have a1 := in_u ro_109_19; have a2 := in_u i10; have a3 := in_u j5_3; have a4 := in_u i47; have a5 := in_u i33; have a6 := in_u i88; have a7 := t_add e88 i10 (in_c 1 rfl) rfl; have a8 := in_u ((in_c 1 rfl)); have a9 := in_u i86; have a10 := t_add e86 j5_3 (in_c 1 rfl) rfl; have a11 := in_u i46; have a12 := t_add e46 ro_109_19 i10 rfl; have a13 := in_u i32; have a14 := t_add e32 ro_109_19 i10 rfl; have a15 := in_u i16x34; have a16 := t_add e16x34 ro_109_19 i10 rfl; have a17 := in_u i16x23; have a18 := t_add e16x23 ro_109_19 i10 rfl; have a19 := in_u i16x9; have a20 := t_add e16x9 ro_109_19 i10 rfl; have oc := oc_333_109; by omega))) | (have hb := (bt_no e60x2 e60x4 i47 c60x6); exact jw_s 0 g5_0 (jd_w af at_ i33 i47 ne (Or.inr ⟨rfl, Or.inr hb, Or.inl (by rw [xx]; exact (have a0 := in_u h1; have a1 := in_u ro_109_19; have a2 := in_u i10; have a3 := in_u j5_3; have a4 := in_u i47; have a5 := in_u i33; have a6 := in_u i88; have a7 := t_add e88 i10 (in_c 1 rfl) rfl; have a8 := in_u ((in_c 1 rfl)); have a9 := in_u i86; have a10 := t_add e86 j5_3 (in_c 1 rfl) rfl; have a11 := in_u i46; have a12 := t_add e46 ro_109_19 i10 rfl; have a13 := in_u i32; have a14 := t_add e32 ro_109_19 i10 rfl; have a15 := in_u i16x34; have a16 := t_add e16x34 ro_109_19 i10 rfl; have a17 := in_u i16x23; have a18 := t_add e16x23 ro_109_19 i10 rfl; have a19 := in_u i16x9; have a20 := t_add e16x9 ro_109_19 i10 rfl; have oc := oc_333_109; by omega))⟩)) (by exact (have a0 := in_u h1; have a1 := in_u ro_109_19; have a2 := in_u i10; have a3 := in_u j5_3; have a4 := in_u i47; have a5 := in_u i33; have a6 := in_u i88; have a7 := t_add e88 i10 (in_c 1 rfl) rfl; have a8 := in_u ((in_c 1 rfl)); have a9 := in_u i86; have a10 := t_add e86 j5_3 (in_c 1 rfl) rfl; have a11 := in_u i46; have a12 := t_add e46 ro_109_19 i10 rfl; have a13 := in_u i32; have a14 := t_add e32 ro_109_19 i10 rfl; have a15 := in_u i16x34; have a16 := t_add e16x34 ro_109_19 i10 rfl; have a17 := in_u i16x23; have a18 := t_add e16x23 ro_109_19 i10 rfl; have a19 := in_u i16x9; have a20 := t_add e16x9 ro_109_19 i10 rfl; have oc := oc_333_109; by omega)))
                    exact gg_w (by first | exact Nat.le_add_right _ _ | exact gw2 | exact gw3 | exact gwe rfl | exact gwf rfl | exact gwg rfl | exact gwh rfl | omega) (gg_f (gf_cons rfl (gf_cons rfl (gf_cons rfl (gf_cons rfl (gf_cons rfl gf_nil))))) (ih5  z86 z88  (rl_w 0 160 l5 i86 (in_w 0 160 i88 rfl) rfl) (in_w 0 160 i88 rfl) l5 n5 (m_up mm5 (t_add e88 i10 (in_c 1 rfl) rfl) (in_w 1 1 (in_c 1 rfl) rfl))))
                  · skip
                    exact zn_eq c63 (in_c 1 rfl) rfl
  refine g_enter2 (k := 333) (N := 145801) (by first | exact dq1 hd rfl | exact dq0 hd rfl | exact dq2 hd rfl | exact dq3 hd rfl | omega) rfl (Nat.le_of_ble_eq_true rfl) ?_
  refine g_iconst 0 1 (gd rfl) rfl rfl ?_
  refine g_istore_n 2 (gd rfl) rfl (Nat.le_of_ble_eq_true rfl) ?_
  refine g_iconst 0 3 (gd rfl) rfl rfl ?_
  refine g_istore 5 (gd rfl) rfl (Nat.le_of_ble_eq_true rfl) ?_
  have l5 := rl_in 0 (in_c 0 rfl) (in_c 0 rfl) rfl
  have n5 : (((Int32.ofInt 0)).toInt = sm (jd (ARE (gvZ s) 0) (ARE (gvZ s) 1) x2 (x1).toNatClampNeg) ((Int32.ofInt 0)).toNatClampNeg) := by rfl
  exact gg_w (by first | exact Nat.le_of_ble_eq_true rfl | omega) (gg_f (gf_cons rfl (gf_cons rfl (gf_cons rfl (gf_cons rfl (gf_cons rfl gf_nil))))) (ct5 161  (Int32.ofInt 0) (Int32.ofInt 0)  (rl_w 0 160 l5 (in_c 0 rfl) (in_w 0 160 (in_c 0 rfl) rfl) rfl) (in_w 0 160 (in_c 0 rfl) rfl) l5 n5 (m_in 161 (in_w 0 160 (in_c 0 rfl) rfl) rfl)))

theorem oc_334_109 : (Int32.ofInt (-1)).toInt = (-1) ∧ (Int32.ofInt 0).toInt = 0 ∧ (Int32.ofInt 1).toInt = 1 ∧ (Int32.ofInt 32).toInt = 32 := ⟨rfl, rfl, rfl, rfl⟩
set_option maxHeartbeats 4000000 in
/-- GraphHouseModel.core -/
theorem f_334 {Z : AmZ} {A : Nat → Nat} {s : GS} {ex : va_W} {d : Nat} {X : AmX} {x1 : Int32} (hd : 4 ≤ d) (hI : Inv s)  : GC Z d 334 [.ref (A 109), .int x1] (WW Z A s ++ ex) 0 0 (fun v u => ∃ t : GS, Inv t ∧ Fr fm_334 s t ∧ ∃ z : Int32, v = some (.int z) ∧ u = WW Z A t ++ ex ∧ In z 0 160 ∧ (CER s t x1 z)) X := by
  intro post xp hP hX
  obtain ⟨u_109_20, e_109_20⟩ : ∃ w, w = s.2.2.1 109 20 := ⟨_, rfl⟩
  have ro_109_20 := inv_F hI 0 32 rfl e_109_20
  have ct41 : ∀ (k41 : Nat) (sc41 : GS) (y41_2 : Int32) (y41_3 : Int32) (y41_4 : Int32), Inv sc41 → Fr fm_334 s sc41 → (In x1 0 31) → (In y41_3 0 161) → (In y41_4 0 160) → ((x1).toInt < (u_109_20).toInt) → (0 ≤ (x1).toInt) → (161 ≤ (y41_3).toInt → ∀ j : Nat, (j : Int) < (u_109_20).toInt → bt y41_2 j = false) → (CRI (ARE (gvZ s) 0) (ARE (gvZ s) 1) (s.2.2.1 109 20).toInt (x1).toNatClampNeg (y41_2) (y41_3).toInt (y41_4).toInt) → (((sc41).2.2.1 109 0).toInt = 0) → 200 - (y41_3).toInt < (k41 : Int) → GG Z (d - 1) 334 post (gx xp) (1 + k41 * 3274302) 41 (fun j => xlook j [(0, .ref (A 109)), (1, .int x1), (2, .int y41_2), (3, .int y41_3), (4, .int y41_4)]) [] (WW Z A sc41 ++ ex) 0 0 := by
    intro k41
    induction k41 with
    | zero => intro sc41 y41_2 y41_3 y41_4 hIc41 hFc41 j41_1 j41_3 j41_4 n41_0 n41_1 g41_0 g41_1 g41_2 mm41; exfalso; have a0 := j41_1; unfold In at a0; have a1 := ro_109_20; unfold In at a1; have a2 := j41_4; unfold In at a2; have a3 := j41_3; unfold In at a3; have oc := oc_334_109; omega
    | succ k41 ih41 =>
      intro sc41 y41_2 y41_3 y41_4 hIc41 hFc41 j41_1 j41_3 j41_4 n41_0 n41_1 g41_0 g41_1 g41_2 mm41
      refine gg_w (M := 1 + k41 * 3274302 + 3274302) gws ?_
      have ct58 : ∀ (k58 : Nat) (sc58 : GS) (y58_2 : Int32) (y58_3 : Int32) (y58_4 : Int32) (y58_5 : Int32), Inv sc58 → Fr fm_334 s sc58 → (In y58_3 1 161) → (In y58_4 0 160) → (In y58_5 0 1) → ((y58_3).toInt = y41_3.toInt + 1) → (161 ≤ (y58_3).toInt → (y58_5).toInt = 0 → ∀ j : Nat, (j : Int) < (u_109_20).toInt → bt y58_2 j = false) → (CRM (ARE (gvZ s) 0) (ARE (gvZ s) 1) (s.2.2.1 109 20).toInt (x1).toNatClampNeg (y58_2) (y58_3).toInt (y58_4).toInt (y58_5).toInt) → (((sc58).2.2.1 109 0).toInt = 0) → cb y58_2 + (y58_5).toInt.toNat < k58 → GG Z (d - 1) 334 post (gx xp) (1 + k41 * 3274302 + 1 + k58 * 32401) 58 (fun j => xlook j [(0, .ref (A 109)), (1, .int x1), (2, .int y58_2), (3, .int y58_3), (4, .int y58_4), (5, .int y58_5)]) [] (WW Z A sc58 ++ ex) 0 0 := by
        intro k58
        induction k58 with
        | zero => intro sc58 y58_2 y58_3 y58_4 y58_5 hIc58 hFc58 j58_3 j58_4 j58_5 n58_0 g58_0 g58_1 g58_2 mm58; exact absurd mm58 (Nat.not_lt_zero _)
        | succ k58 ih58 =>
          intro sc58 y58_2 y58_3 y58_4 y58_5 hIc58 hFc58 j58_3 j58_4 j58_5 n58_0 g58_0 g58_1 g58_2 mm58
          refine gg_w (M := 1 + k41 * 3274302 + 1 + k58 * 32401 + 32401) gws ?_
          have ct69 : ∀ (k69 : Nat) (sc69 : GS) (y69_2 : Int32) (y69_5 : Int32) (y69_6 : Int32), Inv sc69 → Fr fm_334 s sc69 → (In y69_5 0 1) → (In y69_6 0 32) → (161 ≤ (y58_3).toInt → (y69_5).toInt = 0 → ∀ j : Nat, (j : Int) < (y69_6).toInt → bt y69_2 j = false) → (cb y69_2 + (y69_5).toInt.toNat < k58) → (CRO (ARE (gvZ s) 0) (ARE (gvZ s) 1) (s.2.2.1 109 20).toInt (y69_2) (y58_3).toInt (y69_5).toInt (y69_6).toInt) → (((sc69).2.2.1 109 0).toInt = 0) → 32 - (y69_6).toInt < (k69 : Int) → GG Z (d - 1) 334 post (gx xp) (1 + k41 * 3274302 + 1 + k58 * 32401 + 1 + k69 * 900) 69 (fun j => xlook j [(0, .ref (A 109)), (1, .int x1), (2, .int y69_2), (3, .int y58_3), (4, .int y58_4), (5, .int y69_5), (6, .int y69_6)]) [] (WW Z A sc69 ++ ex) 0 0 := by
            intro k69
            induction k69 with
            | zero => intro sc69 y69_2 y69_5 y69_6 hIc69 hFc69 j69_5 j69_6 g69_0 g69_1 g69_2 g69_3 mm69; exact m_no mm69 j69_6 rfl
            | succ k69 ih69 =>
              intro sc69 y69_2 y69_5 y69_6 hIc69 hFc69 j69_5 j69_6 g69_0 g69_1 g69_2 g69_3 mm69
              refine gg_w (M := 1 + k41 * 3274302 + 1 + k58 * 32401 + 1 + k69 * 900 + 900) gws ?_
              refine g_iload 71 (gd rfl) rfl rfl ?_
              refine g_aload_n 72 (gd rfl) rfl rfl ?_
              refine g_getI 75 (gd rfl) rfl rfl rfl (fun z72 e72 => ?_)
              have q72 : u_109_20 = z72 := (fr_F e_109_20 hFc69 rfl).trans e72.symm
              subst q72
              refine g_cmp_ge 78 116 (gd rfl) rfl rfl (fun c75 => ?_) (fun c75 => ?_)
              · skip
                refine g_goto 58 (gd rfl) rfl ?_
                have n58 : (y58_3).toInt = y41_3.toInt + 1 := by first | exact n58_0 | (exact (have a0 := in_u j58_4; have a1 := in_u j58_3; have a2 := in_u j41_1; have a3 := in_u ro_109_20; have a4 := in_u j69_6; have a5 := in_u j69_5; have oc := oc_334_109; by omega))
                have n58a : 161 ≤ (y58_3).toInt → (y69_5).toInt = 0 → ∀ j : Nat, (j : Int) < (u_109_20).toInt → bt y69_2 j = false := by first | (intro _ h; exact absurd h (by decide)) | (intro h1 h2 j hj; exact g69_0 h1 h2 j (by exact (have a0 := in_u j58_4; have a1 := in_u j58_3; have a2 := in_u j41_1; have a3 := in_u ro_109_20; have a4 := in_u j69_6; have a5 := in_u j69_5; have oc := oc_334_109; by omega)))
                have n58b : CRM (ARE (gvZ s) 0) (ARE (gvZ s) 1) (s.2.2.1 109 20).toInt (x1).toNatClampNeg (y69_2) (y58_3).toInt (y58_4).toInt (y69_5).toInt := by exact crm_s g58_1 g69_2 (by rw [← e_109_20]; exact (have a0 := in_u j58_4; have a1 := in_u j58_3; have a2 := in_u j41_1; have a3 := in_u ro_109_20; have a4 := in_u j69_6; have a5 := in_u j69_5; have oc := oc_334_109; by omega))
                have n58c : ((sc69).2.2.1 109 0).toInt = 0 := by exact g69_3
                have m58 : cb y69_2 + (y69_5).toInt.toNat < k58 := by exact g69_1
                exact gg_w (by first | exact Nat.le_add_right _ _ | exact gw2 | exact gw3 | exact gwe rfl | exact gwf rfl | exact gwg rfl | exact gwh rfl | omega) (gg_f (gf_cons rfl (gf_cons rfl (gf_cons rfl (gf_cons rfl (gf_cons rfl (gf_cons rfl gf_nil)))))) (ih58  sc69 y69_2 y58_3 y58_4 y69_5 hIc69 hFc69 (in_w 1 161 j58_3 rfl) (in_w 0 160 j58_4 rfl) (in_w 0 1 j69_5 rfl) n58 n58a n58b n58c m58))
              · skip
                have i75 := r_lt1 0 31 c75 j69_6 ro_109_20 rfl
                have i75a := r_lt2 1 32 c75 j69_6 ro_109_20 rfl
                refine g_iload_n 79 (gd rfl) rfl rfl ?_
                refine g_iload 81 (gd rfl) rfl rfl ?_
                refine g_calls (As := [.int y69_2, .int y69_6]) (r := []) 84 (gd rfl) rfl rfl rfl rfl rfl (Nat.le_of_ble_eq_true rfl) (mc := 0) (ms := 0) (Nat.zero_le _) (Nat.zero_le _) (P := fun v u => _) ?_ (fun v u h => h)
                intro po81 xx81 hp81 hx81
                refine g_enter2 (k := 311) (N := 300) (by first | exact dq1 hd rfl | exact dq0 hd rfl | exact dq2 hd rfl | exact dq3 hd rfl | omega) rfl (Nat.le_of_ble_eq_true rfl) ?_
                refine g_iload_n 1 (gd rfl) rfl rfl ?_
                refine g_iload_n 2 (gd rfl) rfl rfl ?_
                refine g_ishr 3 (gd rfl) rfl (fun z81x2 e81x2 => ?_)
                refine g_iconst 1 4 (gd rfl) rfl rfl ?_
                refine g_iand 5 (gd rfl) rfl (fun z81x4 e81x4 => ?_)
                have i81x4 := in_and2 e81x4 (in_c 1 rfl) rfl
                refine g_iconst 1 6 (gd rfl) rfl rfl ?_
                refine g_cmp_ne 9 13 (gd rfl) rfl rfl (fun c81x6 => ?_) (fun c81x6 => ?_)
                · skip
                  have i81x6 := r_ne1 0 0 c81x6 i81x4 (in_c 1 rfl) rfl
                  refine g_iconst 0 14 (gd rfl) rfl rfl ?_
                  refine g_ireturn (gd rfl) rfl (nb01 (in_w 0 1 (in_c 0 rfl) rfl)) (hp81 _ _ ?_)
                  show GG _ _ _ _ _ _ _ _ [.int (Int32.ofInt 0)] _ _ _
                  refine g_if_eq 87 110 (gd rfl) rfl rfl (fun c84 => ?_) (fun c84 => ?_)
                  · skip
                    refine g_iinc 113 (gd rfl) rfl rfl (Nat.le_of_ble_eq_true rfl) (fun z110 e110 => ?_)
                    have i110 := in_add 1 32 e110 i75 (in_c 1 rfl) rfl rfl
                    refine g_goto 69 (gd rfl) rfl ?_
                    have n69 : 161 ≤ (y58_3).toInt → (y69_5).toInt = 0 → ∀ j : Nat, (j : Int) < (z110).toInt → bt y69_2 j = false := by first | (intro _ _ j hj; exfalso; have h0 : (Int32.ofInt 0).toInt = 0 := rfl; omega) | (intro h1 h2 j hj; by_cases hj2 : (j : Int) < y69_6.toInt; exact g69_0 h1 h2 j hj2; (have ej : j = y69_6.toNatClampNeg := (by show j = y69_6.toInt.toNat; exact (have a0 := in_u j58_4; have a1 := in_u j58_3; have a2 := in_u j41_1; have a3 := in_u i75a; have a4 := in_u i75; have a5 := in_u j69_5; have a6 := in_u i110; have a7 := t_add e110 i75 (in_c 1 rfl) rfl; have a8 := in_u ((in_c 1 rfl)); have oc := oc_334_109; by omega)); rw [ej]; exact bt_no e81x2 e81x4 i75 c81x6)) | (intro h1 h2 j hj; exfalso; have h9 := i91; unfold In at h9; omega) | (intro _ h; exact absurd h (by decide))
                    have n69a : cb y69_2 + (y69_5).toInt.toNat < k58 := by first | exact g69_1 | (first | exact g69_1 | (show cb y58_2 + 0 < k58; have h := j58_5; unfold In at h; omega) | (have h := cb_clr e102 e104 e105 i75 (bt_yes e81x2 e81x4 i75 c81x6); show cb z105 + 1 < k58; omega))
                    have n69b : CRO (ARE (gvZ s) 0) (ARE (gvZ s) 1) (s.2.2.1 109 20).toInt (y69_2) (y58_3).toInt (y69_5).toInt (z110).toInt := by exact cro_n g69_2 (by exact (have a0 := in_u j58_4; have a1 := in_u j58_3; have a2 := in_u j41_1; have a3 := in_u i75a; have a4 := in_u i75; have a5 := in_u j69_5; have a6 := in_u i110; have a7 := t_add e110 i75 (in_c 1 rfl) rfl; have a8 := in_u ((in_c 1 rfl)); have oc := oc_334_109; by omega)) (fun u hu hb => by have hj := (show ((y69_6).toNatClampNeg : Int) = (y69_6).toInt from clx (by exact (have a0 := in_u j58_4; have a1 := in_u j58_3; have a2 := in_u j41_1; have a3 := in_u i75a; have a4 := in_u i75; have a5 := in_u j69_5; have a6 := in_u i110; have a7 := t_add e110 i75 (in_c 1 rfl) rfl; have a8 := in_u ((in_c 1 rfl)); have oc := oc_334_109; by omega))); have eu : u = (y69_6).toNatClampNeg := (by omega); rw [eu] at hb ⊢; rw [bt_no e81x2 e81x4 i75 c81x6] at hb; cases hb)
                    have n69c : ((sc69).2.2.1 109 0).toInt = 0 := by exact g69_3
                    exact gg_w (by first | exact Nat.le_add_right _ _ | exact gw2 | exact gw3 | exact gwe rfl | exact gwf rfl | exact gwg rfl | exact gwh rfl | omega) (gg_f (gf_cons rfl (gf_cons rfl (gf_cons rfl (gf_cons rfl (gf_cons rfl (gf_cons rfl (gf_cons rfl gf_nil))))))) (ih69 sc69 y69_2 y69_5 z110 hIc69 hFc69 (in_w 0 1 j69_5 rfl) (in_w 0 32 i110 rfl) n69 n69a n69b n69c (m_up mm69 (t_add e110 i75 (in_c 1 rfl) rfl) (in_w 1 1 (in_c 1 rfl) rfl))))
                  · skip
                    exact zn_ne c84 (in_c 0 rfl) rfl
                · skip
                  have i81x6 := r_eq1 1 1 c81x6 i81x4 (in_c 1 rfl) rfl
                  refine g_iconst 1 10 (gd rfl) rfl rfl ?_
                  refine g_goto 14 (gd rfl) rfl ?_
                  refine g_ireturn (gd rfl) rfl (nb01 (in_w 0 1 (in_c 1 rfl) rfl)) (hp81 _ _ ?_)
                  show GG _ _ _ _ _ _ _ _ [.int (Int32.ofInt 1)] _ _ _
                  refine g_if_eq 87 110 (gd rfl) rfl rfl (fun c84 => ?_) (fun c84 => ?_)
                  · skip
                    exact zn_eq c84 (in_c 1 rfl) rfl
                  · skip
                    refine g_aload_n 88 (gd rfl) rfl rfl ?_
                    refine g_iload 90 (gd rfl) rfl rfl ?_
                    refine g_iload_n 91 (gd rfl) rfl rfl ?_
                    refine g_callv (X := _) (As := [.int y69_6, .int y69_2]) (r := []) (b := A 109) (q := 109) 94 (gd rfl) rfl rfl rfl rfl rfl (ww_o rfl) (Nat.le_of_ble_eq_true rfl) (Nat.zero_le _) (Nat.zero_le _) (f_333 (by first | exact dq1 hd rfl | exact dq0 hd rfl | exact dq2 hd rfl | exact dq3 hd rfl | omega) hIc69 (in_w 0 31 i75 rfl)) (fun e u h => h) (fun v u h => ?_)
                    obtain ⟨z91, rfl, rfl, i91, p91⟩ := h
                    show GG _ _ _ _ _ _ _ _ [.int z91] _ _ _
                    refine g_iload_n 95 (gd rfl) rfl rfl ?_
                    refine g_cmp_ge 98 110 (gd rfl) rfl rfl (fun c95 => ?_) (fun c95 => ?_)
                    · skip
                      have i95 := r_le1 1 160 c95 j58_3 i91 rfl
                      have i95a := r_le2 1 160 c95 j58_3 i91 rfl
                      refine g_iinc 113 (gd rfl) rfl rfl (Nat.le_of_ble_eq_true rfl) (fun z110 e110 => ?_)
                      have i110 := in_add 1 32 e110 i75 (in_c 1 rfl) rfl rfl
                      refine g_goto 69 (gd rfl) rfl ?_
                      have n69 : 161 ≤ (y58_3).toInt → (y69_5).toInt = 0 → ∀ j : Nat, (j : Int) < (z110).toInt → bt y69_2 j = false := by first | (intro _ _ j hj; exfalso; have h0 : (Int32.ofInt 0).toInt = 0 := rfl; omega) | (intro h1 h2 j hj; by_cases hj2 : (j : Int) < y69_6.toInt; exact g69_0 h1 h2 j hj2; (have ej : j = y69_6.toNatClampNeg := (by show j = y69_6.toInt.toNat; exact (have a0 := in_u j58_4; have a1 := in_u i95; have a2 := in_u j41_1; have a3 := in_u i75a; have a4 := in_u i75; have a5 := in_u j69_5; have a6 := in_u i110; have a7 := t_add e110 i75 (in_c 1 rfl) rfl; have a8 := in_u ((in_c 1 rfl)); have oc := oc_334_109; by omega)); rw [ej]; exact bt_no e81x2 e81x4 i75 c81x6)) | (intro h1 h2 j hj; exfalso; have h9 := i91; unfold In at h9; omega) | (intro _ h; exact absurd h (by decide))
                      have n69a : cb y69_2 + (y69_5).toInt.toNat < k58 := by first | exact g69_1 | (first | exact g69_1 | (show cb y58_2 + 0 < k58; have h := j58_5; unfold In at h; omega) | (have h := cb_clr e102 e104 e105 i75 (bt_yes e81x2 e81x4 i75 c81x6); show cb z105 + 1 < k58; omega))
                      have n69b : CRO (ARE (gvZ s) 0) (ARE (gvZ s) 1) (s.2.2.1 109 20).toInt (y69_2) (y58_3).toInt (y69_5).toInt (z110).toInt := by exact cro_n g69_2 (by exact (have a0 := in_u j58_4; have a1 := in_u i95; have a2 := in_u j41_1; have a3 := in_u i75a; have a4 := in_u i75; have a5 := in_u j69_5; have a6 := in_u i110; have a7 := t_add e110 i75 (in_c 1 rfl) rfl; have a8 := in_u ((in_c 1 rfl)); have oc := oc_334_109; by omega)) (fun u hu hb => by have hj := (show ((y69_6).toNatClampNeg : Int) = (y69_6).toInt from clx (by exact (have a0 := in_u j58_4; have a1 := in_u i95; have a2 := in_u j41_1; have a3 := in_u i75a; have a4 := in_u i75; have a5 := in_u j69_5; have a6 := in_u i110; have a7 := t_add e110 i75 (in_c 1 rfl) rfl; have a8 := in_u ((in_c 1 rfl)); have oc := oc_334_109; by omega))); have eu : u = (y69_6).toNatClampNeg := (by omega); rw [eu] at hb ⊢; rw [← (show (z91).toInt = JD (ARE (gvZ s) 0) (ARE (gvZ s) 1) (y69_2) (y69_6).toNatClampNeg from (by have h9 := p91; rw [gvz_cg hFc69 rfl] at h9; exact h9))]; exact (have a0 := in_u j58_4; have a1 := in_u i95; have a2 := in_u j41_1; have a3 := in_u i75a; have a4 := in_u i75; have a5 := in_u j69_5; have a6 := in_u i110; have a7 := t_add e110 i75 (in_c 1 rfl) rfl; have a8 := in_u ((in_c 1 rfl)); have oc := oc_334_109; by omega))
                      have n69c : ((sc69).2.2.1 109 0).toInt = 0 := by exact g69_3
                      exact gg_w (by first | exact Nat.le_add_right _ _ | exact gw2 | exact gw3 | exact gwe rfl | exact gwf rfl | exact gwg rfl | exact gwh rfl | omega) (gg_f (gf_cons rfl (gf_cons rfl (gf_cons rfl (gf_cons rfl (gf_cons rfl (gf_cons rfl (gf_cons rfl gf_nil))))))) (ih69 sc69 y69_2 y69_5 z110 hIc69 hFc69 (in_w 0 1 j69_5 rfl) (in_w 0 32 i110 rfl) n69 n69a n69b n69c (m_up mm69 (t_add e110 i75 (in_c 1 rfl) rfl) (in_w 1 1 (in_c 1 rfl) rfl))))
                    · skip
                      refine g_iload_n 99 (gd rfl) rfl rfl ?_
                      refine g_iconst 1 100 (gd rfl) rfl rfl ?_
                      refine g_iload 102 (gd rfl) rfl rfl ?_
                      refine g_ishl 103 (gd rfl) rfl (fun z102 e102 => ?_)
                      refine g_iconst (-1) 104 (gd rfl) rfl rfl ?_
                      refine g_ixor 105 (gd rfl) rfl (fun z104 e104 => ?_)
                      refine g_iand 106 (gd rfl) rfl (fun z105 e105 => ?_)
                      refine g_istore_n 107 (gd rfl) rfl (Nat.le_of_ble_eq_true rfl) ?_
                      refine g_iconst 1 108 (gd rfl) rfl rfl ?_
                      refine g_istore 110 (gd rfl) rfl (Nat.le_of_ble_eq_true rfl) ?_
                      refine g_iinc 113 (gd rfl) rfl rfl (Nat.le_of_ble_eq_true rfl) (fun z110 e110 => ?_)
                      have i110 := in_add 1 32 e110 i75 (in_c 1 rfl) rfl rfl
                      refine g_goto 69 (gd rfl) rfl ?_
                      have n69 : 161 ≤ (y58_3).toInt → ((Int32.ofInt 1)).toInt = 0 → ∀ j : Nat, (j : Int) < (z110).toInt → bt z105 j = false := by first | (intro _ _ j hj; exfalso; have h0 : (Int32.ofInt 0).toInt = 0 := rfl; omega) | (intro h1 h2 j hj; by_cases hj2 : (j : Int) < y69_6.toInt; exact g69_0 h1 h2 j hj2; (have ej : j = y69_6.toNatClampNeg := (by show j = y69_6.toInt.toNat; exact (have a0 := in_u j58_4; have a1 := in_u j58_3; have a2 := in_u j41_1; have a3 := in_u i75a; have a4 := in_u i75; have a5 := in_u j69_5; have a6 := in_u i110; have a7 := t_add e110 i75 (in_c 1 rfl) rfl; have a8 := in_u ((in_c 1 rfl)); have oc := oc_334_109; by omega)); rw [ej]; exact bt_no e81x2 e81x4 i75 c81x6)) | (intro h1 h2 j hj; exfalso; have h9 := i91; unfold In at h9; omega) | (intro _ h; exact absurd h (by decide))
                      have n69a : cb z105 + ((Int32.ofInt 1)).toInt.toNat < k58 := by first | exact g69_1 | (show cb y58_2 + 0 < k58; have h := j58_5; unfold In at h; omega) | (have h := cb_clr e102 e104 e105 i75 (bt_yes e81x2 e81x4 i75 c81x6); show cb z105 + 1 < k58; omega)
                      have n69b : CRO (ARE (gvZ s) 0) (ARE (gvZ s) 1) (s.2.2.1 109 20).toInt (z105) (y58_3).toInt ((Int32.ofInt 1)).toInt (z110).toInt := by exact cro_r g69_2 i75 e102 e104 e105 (by rw [← (show (z91).toInt = JD (ARE (gvZ s) 0) (ARE (gvZ s) 1) (y69_2) (y69_6).toNatClampNeg from (by have h9 := p91; rw [gvz_cg hFc69 rfl] at h9; exact h9))]; exact (have a0 := in_u j58_4; have a1 := in_u j58_3; have a2 := in_u j41_1; have a3 := in_u i75a; have a4 := in_u i75; have a5 := in_u j69_5; have a6 := in_u i110; have a7 := t_add e110 i75 (in_c 1 rfl) rfl; have a8 := in_u ((in_c 1 rfl)); have oc := oc_334_109; by omega)) (by decide)
                      have n69c : ((sc69).2.2.1 109 0).toInt = 0 := by exact g69_3
                      exact gg_w (by first | exact Nat.le_add_right _ _ | exact gw2 | exact gw3 | exact gwe rfl | exact gwf rfl | exact gwg rfl | exact gwh rfl | omega) (gg_f (gf_cons rfl (gf_cons rfl (gf_cons rfl (gf_cons rfl (gf_cons rfl (gf_cons rfl (gf_cons rfl gf_nil))))))) (ih69 sc69 z105 (Int32.ofInt 1) z110 hIc69 hFc69 (in_w 0 1 (in_c 1 rfl) rfl) (in_w 0 32 i110 rfl) n69 n69a n69b n69c (m_up mm69 (t_add e110 i75 (in_c 1 rfl) rfl) (in_w 1 1 (in_c 1 rfl) rfl))))
          refine g_iload 60 (gd rfl) rfl rfl ?_
          refine g_if_eq 63 119 (gd rfl) rfl rfl (fun c60 => ?_) (fun c60 => ?_)
          · skip
            have i60 := z_eq 0 0 c60 j58_5 rfl
            refine g_goto 41 (gd rfl) rfl ?_
            have n41 : (x1).toInt < (u_109_20).toInt := by first | exact n41_0 | (exact (have a0 := in_u j41_1; have a1 := in_u ro_109_20; have a2 := in_u i60; have a3 := in_u j58_4; have a4 := in_u j58_3; have oc := oc_334_109; by omega))
            have n41a : 0 ≤ (x1).toInt := by first | exact n41_1 | (exact (have a0 := in_u j41_1; have a1 := in_u ro_109_20; have a2 := in_u i60; have a3 := in_u j58_4; have a4 := in_u j58_3; have oc := oc_334_109; by omega))
            have n41b : 161 ≤ (y58_3).toInt → ∀ j : Nat, (j : Int) < (u_109_20).toInt → bt y58_2 j = false := by first | exact fun h => g58_0 h c60 | (intro h; exfalso; have h0 : (Int32.ofInt 0).toInt = 0 := rfl; omega)
            have n41c : CRI (ARE (gvZ s) 0) (ARE (gvZ s) 1) (s.2.2.1 109 20).toInt (x1).toNatClampNeg (y58_2) (y58_3).toInt (y58_4).toInt := by exact crm_e g58_1 c60
            have n41d : ((sc58).2.2.1 109 0).toInt = 0 := by exact g58_2
            have m41 : 200 - (y58_3).toInt < ((k41 : Nat) : Int) := by exact (have a0 := in_u j41_1; have a1 := in_u ro_109_20; have a2 := in_u i60; have a3 := in_u j58_4; have a4 := in_u j58_3; have oc := oc_334_109; by omega)
            exact gg_w (by first | exact Nat.le_add_right _ _ | exact gw2 | exact gw3 | exact gwe rfl | exact gwf rfl | exact gwg rfl | exact gwh rfl | omega) (gg_f (gf_cons rfl (gf_cons rfl (gf_cons rfl (gf_cons rfl (gf_cons rfl gf_nil))))) (ih41  sc58 y58_2 y58_3 y58_4 hIc58 hFc58 (in_w 0 31 j41_1 rfl) (in_w 0 161 j58_3 rfl) (in_w 0 160 j58_4 rfl) n41 n41a n41b n41c n41d m41))
          · skip
            have i60 := z_ne 1 1 c60 j58_5 rfl
            refine g_iconst 0 64 (gd rfl) rfl rfl ?_
            refine g_istore 66 (gd rfl) rfl (Nat.le_of_ble_eq_true rfl) ?_
            refine g_iconst 0 67 (gd rfl) rfl rfl ?_
            refine g_istore 69 (gd rfl) rfl (Nat.le_of_ble_eq_true rfl) ?_
            have n69 : 161 ≤ (y58_3).toInt → ((Int32.ofInt 0)).toInt = 0 → ∀ j : Nat, (j : Int) < ((Int32.ofInt 0)).toInt → bt y58_2 j = false := by first | (intro _ _ j hj; exfalso; have h0 : (Int32.ofInt 0).toInt = 0 := rfl; omega) | (intro h1 h2 j hj; by_cases hj2 : (j : Int) < y69_6.toInt; exact g69_0 h1 h2 j hj2; (have ej : j = y69_6.toNatClampNeg := (by show j = y69_6.toInt.toNat; exact (have a0 := in_u j41_1; have a1 := in_u ro_109_20; have a2 := in_u i60; have a3 := in_u j58_4; have a4 := in_u j58_3; have a5 := in_u ((in_c 0 rfl)); have oc := oc_334_109; by omega)); rw [ej]; exact bt_no e81x2 e81x4 i75 c81x6)) | (intro h1 h2 j hj; exfalso; have h9 := i91; unfold In at h9; omega) | (intro _ h; exact absurd h (by decide))
            have n69a : cb y58_2 + ((Int32.ofInt 0)).toInt.toNat < k58 := by first | exact g69_1 | (show cb y58_2 + 0 < k58; have h := j58_5; unfold In at h; omega) | (have h := cb_clr e102 e104 e105 i75 (bt_yes e81x2 e81x4 i75 c81x6); show cb z105 + 1 < k58; omega)
            have n69b : CRO (ARE (gvZ s) 0) (ARE (gvZ s) 1) (s.2.2.1 109 20).toInt (y58_2) (y58_3).toInt ((Int32.ofInt 0)).toInt ((Int32.ofInt 0)).toInt := by exact cro_0 g58_1 rfl
            have n69c : ((sc58).2.2.1 109 0).toInt = 0 := by exact g58_2
            exact gg_w (by first | exact Nat.le_add_right _ _ | exact gw2 | exact gw3 | exact gwe rfl | exact gwf rfl | exact gwg rfl | exact gwh rfl | omega) (gg_f (gf_cons rfl (gf_cons rfl (gf_cons rfl (gf_cons rfl (gf_cons rfl (gf_cons rfl (gf_cons rfl gf_nil))))))) (ct69 33 sc58 y58_2 (Int32.ofInt 0) (Int32.ofInt 0) hIc58 hFc58 (in_w 0 1 (in_c 0 rfl) rfl) (in_w 0 32 (in_c 0 rfl) rfl) n69 n69a n69b n69c (m_in 33 (in_w 0 32 (in_c 0 rfl) rfl) rfl)))
      refine g_iload_n 42 (gd rfl) rfl rfl ?_
      refine g_iload_n 43 (gd rfl) rfl rfl ?_
      refine g_calls (As := [.int y41_2, .int x1]) (r := []) 46 (gd rfl) rfl rfl rfl rfl rfl (Nat.le_of_ble_eq_true rfl) (mc := 0) (ms := 0) (Nat.zero_le _) (Nat.zero_le _) (P := fun v u => _) ?_ (fun v u h => h)
      intro po43 xx43 hp43 hx43
      refine g_enter2 (k := 311) (N := 300) (by first | exact dq1 hd rfl | exact dq0 hd rfl | exact dq2 hd rfl | exact dq3 hd rfl | omega) rfl (Nat.le_of_ble_eq_true rfl) ?_
      refine g_iload_n 1 (gd rfl) rfl rfl ?_
      refine g_iload_n 2 (gd rfl) rfl rfl ?_
      refine g_ishr 3 (gd rfl) rfl (fun z43x2 e43x2 => ?_)
      refine g_iconst 1 4 (gd rfl) rfl rfl ?_
      refine g_iand 5 (gd rfl) rfl (fun z43x4 e43x4 => ?_)
      have i43x4 := in_and2 e43x4 (in_c 1 rfl) rfl
      refine g_iconst 1 6 (gd rfl) rfl rfl ?_
      refine g_cmp_ne 9 13 (gd rfl) rfl rfl (fun c43x6 => ?_) (fun c43x6 => ?_)
      · skip
        have i43x6 := r_ne1 0 0 c43x6 i43x4 (in_c 1 rfl) rfl
        refine g_iconst 0 14 (gd rfl) rfl rfl ?_
        refine g_ireturn (gd rfl) rfl (nb01 (in_w 0 1 (in_c 0 rfl) rfl)) (hp43 _ _ ?_)
        show GG _ _ _ _ _ _ _ _ [.int (Int32.ofInt 0)] _ _ _
        refine g_if_eq 49 122 (gd rfl) rfl rfl (fun c46 => ?_) (fun c46 => ?_)
        · skip
          refine g_iload 124 (gd rfl) rfl rfl ?_
          have n124 : CER s sc41 x1 y41_4 := by exact Or.inr ⟨g41_2, ⟨by exact (have a0 := in_u j41_1; have a1 := in_u ro_109_20; have a2 := in_u j41_4; have a3 := in_u j41_3; have oc := oc_334_109; by omega), by rw [← e_109_20]; exact (have a0 := in_u j41_1; have a1 := in_u ro_109_20; have a2 := in_u j41_4; have a3 := in_u j41_3; have oc := oc_334_109; by omega)⟩, by show CRE (ARE (gvZ s) 0) (ARE (gvZ s) 1) (gvZ s).2.2.2.2.2.2.1 _ _; rw [gvz_n hI]; exact cri_e g41_1 (bt_no e43x2 e43x4 j41_1 c43x6)⟩
          exact g_ireturn (gd rfl) rfl rfl (hP _ _ ⟨sc41, hIc41, hFc41, y41_4, rfl, rfl, in_w 0 160 j41_4 rfl, n124⟩)
        · skip
          exact zn_ne c46 (in_c 0 rfl) rfl
      · skip
        have i43x6 := r_eq1 1 1 c43x6 i43x4 (in_c 1 rfl) rfl
        refine g_iconst 1 10 (gd rfl) rfl rfl ?_
        refine g_goto 14 (gd rfl) rfl ?_
        refine g_ireturn (gd rfl) rfl (nb01 (in_w 0 1 (in_c 1 rfl) rfl)) (hp43 _ _ ?_)
        show GG _ _ _ _ _ _ _ _ [.int (Int32.ofInt 1)] _ _ _
        refine g_if_eq 49 122 (gd rfl) rfl rfl (fun c46 => ?_) (fun c46 => ?_)
        · skip
          exact zn_eq c46 (in_c 1 rfl) rfl
        · skip
          have i49 : In y41_3 0 160 := by refine ⟨by exact (have a0 := in_u j41_1; have a1 := in_u ro_109_20; have a2 := in_u j41_4; have a3 := in_u j41_3; have oc := oc_334_109; by omega), Int.not_lt.mp fun h => ?_⟩; have hb := bt_yes e43x2 e43x4 j41_1 c43x6; have h2 := g41_0 (by omega) x1.toNatClampNeg (by show ((x1.toInt.toNat : Nat) : Int) < _; exact (have a0 := in_u j41_1; have a1 := in_u ro_109_20; have a2 := in_u j41_4; have a3 := in_u j41_3; have oc := oc_334_109; by omega)); rw [hb] at h2; cases h2
          refine g_iload_n 50 (gd rfl) rfl rfl ?_
          refine g_istore 52 (gd rfl) rfl (Nat.le_of_ble_eq_true rfl) ?_
          refine g_iinc 55 (gd rfl) rfl rfl (Nat.le_of_ble_eq_true rfl) (fun z52 e52 => ?_)
          have i52 := in_add 1 161 e52 i49 (in_c 1 rfl) rfl rfl
          refine g_iconst 1 56 (gd rfl) rfl rfl ?_
          refine g_istore 58 (gd rfl) rfl (Nat.le_of_ble_eq_true rfl) ?_
          have n58 : (z52).toInt = y41_3.toInt + 1 := by exact (have a0 := in_u j41_1; have a1 := in_u ro_109_20; have a2 := in_u j41_4; have a3 := in_u i49; have a4 := in_u ((in_c 1 rfl)); have a5 := in_u i52; have a6 := t_add e52 i49 (in_c 1 rfl) rfl; have oc := oc_334_109; by omega)
          have n58a : 161 ≤ (z52).toInt → ((Int32.ofInt 1)).toInt = 0 → ∀ j : Nat, (j : Int) < (u_109_20).toInt → bt y41_2 j = false := by first | (intro _ h; exact absurd h (by decide)) | (intro h1 h2 j hj; exact g69_0 h1 h2 j (by exact (have a0 := in_u j41_1; have a1 := in_u ro_109_20; have a2 := in_u j41_4; have a3 := in_u i49; have a4 := in_u ((in_c 1 rfl)); have a5 := in_u i52; have a6 := t_add e52 i49 (in_c 1 rfl) rfl; have oc := oc_334_109; by omega)))
          have n58b : CRM (ARE (gvZ s) 0) (ARE (gvZ s) 1) (s.2.2.1 109 20).toInt (x1).toNatClampNeg (y41_2) (z52).toInt (y41_3).toInt ((Int32.ofInt 1)).toInt := by exact crm_0 g41_1 (bt_yes e43x2 e43x4 j41_1 c43x6) (by exact (have a0 := in_u j41_1; have a1 := in_u ro_109_20; have a2 := in_u j41_4; have a3 := in_u i49; have a4 := in_u ((in_c 1 rfl)); have a5 := in_u i52; have a6 := t_add e52 i49 (in_c 1 rfl) rfl; have oc := oc_334_109; by omega)) rfl (by decide)
          have n58c : ((sc41).2.2.1 109 0).toInt = 0 := by exact g41_2
          have m58 : cb y41_2 + ((Int32.ofInt 1)).toInt.toNat < 100 := by have h := cb_le y41_2; have h3 := (in_c 1 rfl); unfold In at h3; omega
          exact gg_w (by first | exact Nat.le_add_right _ _ | exact gw2 | exact gw3 | exact gwe rfl | exact gwf rfl | exact gwg rfl | exact gwh rfl | omega) (gg_f (gf_cons rfl (gf_cons rfl (gf_cons rfl (gf_cons rfl (gf_cons rfl (gf_cons rfl gf_nil)))))) (ct58 (100) sc41 y41_2 z52 y41_3 (Int32.ofInt 1) hIc41 hFc41 (in_w 1 161 i52 rfl) (in_w 0 160 i49 rfl) (in_w 0 1 (in_c 1 rfl) rfl) n58 n58a n58b n58c m58))
  refine g_enter2 (k := 334) (N := 658135603) (by first | exact dq1 hd rfl | exact dq0 hd rfl | exact dq2 hd rfl | exact dq3 hd rfl | omega) rfl (Nat.le_of_ble_eq_true rfl) ?_
  refine g_aload_n 1 (gd rfl) rfl rfl ?_
  refine g_aload_n 2 (gd rfl) rfl rfl ?_
  refine g_iload_n 3 (gd rfl) rfl rfl ?_
  refine g_callv (X := _) (As := [.int x1]) (r := [.ref (A 109)]) (b := A 109) (q := 109) 6 (gd rfl) rfl rfl rfl rfl rfl (ww_o rfl) (Nat.le_of_ble_eq_true rfl) (mc := 0) (ms := 0) (Nat.zero_le _) (Nat.zero_le _) (P := fun v u => _) ?_ (fun e u h => h) (fun v u h => h)
  intro po3 xx3 hp3 hx3
  refine g_enter2 (k := 272) (N := 300) (by first | exact dq1 hd rfl | exact dq0 hd rfl | exact dq2 hd rfl | exact dq3 hd rfl | omega) rfl (Nat.le_of_ble_eq_true rfl) ?_
  refine g_iload_n 1 (gd rfl) rfl rfl ?_
  refine g_if_lt 4 16 (gd rfl) rfl rfl (fun c3x1 => ?_) (fun c3x1 => ?_)
  · skip
    have i3x1 := z_lt (-2147483648) (-1) c3x1 (i_rng x1) rfl
    refine g_iconst 0 17 (gd rfl) rfl rfl ?_
    refine g_ireturn (gd rfl) rfl (nb01 (in_w 0 1 (in_c 0 rfl) rfl)) (hp3 _ _ ?_)
    show GG _ _ _ _ _ _ _ _ [.int (Int32.ofInt 0), .ref (A 109)] _ _ _
    refine g_callv (X := _) (As := [.int (Int32.ofInt 0)]) (r := []) (b := A 109) (q := 109) 9 (gd rfl) rfl rfl rfl rfl rfl (ww_o rfl) (Nat.le_of_ble_eq_true rfl) (mc := 0) (ms := 0) (Nat.zero_le _) (Nat.zero_le _) (P := fun v u => _) ?_ (fun e u h => h) (fun v u h => h)
    intro po6 xx6 hp6 hx6
    refine g_enter2 (k := 271) (N := 300) (by first | exact dq1 hd rfl | exact dq0 hd rfl | exact dq2 hd rfl | exact dq3 hd rfl | omega) rfl (Nat.le_of_ble_eq_true rfl) ?_
    refine g_aload_n 1 (gd rfl) rfl rfl ?_
    refine g_iload_n 2 (gd rfl) rfl rfl ?_
    refine g_iconst 1 3 (gd rfl) rfl rfl ?_
    refine g_callv (X := _) (As := [.int (Int32.ofInt 0), .int (Int32.ofInt 1)]) (r := []) (b := A 109) (q := 109) 6 (gd rfl) rfl rfl rfl rfl rfl (ww_o rfl) (Nat.le_of_ble_eq_true rfl) (mc := 0) (ms := 0) (Nat.zero_le _) (Nat.zero_le _) (P := fun v u => _) ?_ (fun e u h => h) (fun v u h => h)
    intro po6x3 xx6x3 hp6x3 hx6x3
    refine g_enter2 (k := 270) (N := 300) (by first | exact dq1 hd rfl | exact dq0 hd rfl | exact dq2 hd rfl | exact dq3 hd rfl | omega) rfl (Nat.le_of_ble_eq_true rfl) ?_
    refine g_aload_n 1 (gd rfl) rfl rfl ?_
    refine g_iload_n 2 (gd rfl) rfl rfl ?_
    refine g_if_ne 5 9 (gd rfl) rfl rfl (fun c6x3x2 => ?_) (fun c6x3x2 => ?_)
    · skip
      exact zn_ne c6x3x2 (in_c 0 rfl) rfl
    · skip
      refine g_iconst 1 6 (gd rfl) rfl rfl ?_
      refine g_goto 18 (gd rfl) rfl ?_
      refine g_putI 21 (gd rfl) rfl rfl rfl rfl ?_
      have hI6x3x18 := inv_sF (q := 109) (j := 0) hI rfl (in_w 0 2 (in_c 1 rfl) rfl)
      refine g_aload_n 22 (gd rfl) rfl rfl ?_
      refine g_getI 25 (gd rfl) rfl rfl rfl (fun z6x3x22 e6x3x22 => ?_)
      have q6x3x22 : (Int32.ofInt 1) = z6x3x22 := (sF_get).trans e6x3x22.symm
      subst q6x3x22
      refine g_if_le 28 32 (gd rfl) rfl rfl (fun c6x3x25 => ?_) (fun c6x3x25 => ?_)
      · skip
        exact zn_le c6x3x25 (in_c 1 rfl) rfl
      · skip
        refine g_iconst 1 29 (gd rfl) rfl rfl ?_
        refine g_goto 33 (gd rfl) rfl ?_
        refine g_ireturn (gd rfl) rfl (nb01 (in_w 0 1 (in_c 1 rfl) rfl)) (hp6x3 _ _ ?_)
        show GG _ _ _ _ _ _ _ _ [.int (Int32.ofInt 1)] _ _ _
        refine g_ireturn (gd rfl) rfl (nb01 (in_w 0 1 (in_c 1 rfl) rfl)) (hp6 _ _ ?_)
        show GG _ _ _ _ _ _ _ _ [.int (Int32.ofInt 1)] _ _ _
        refine g_if_eq 12 14 (gd rfl) rfl rfl (fun c9 => ?_) (fun c9 => ?_)
        · skip
          exact zn_eq c9 (in_c 1 rfl) rfl
        · skip
          refine g_iconst 0 13 (gd rfl) rfl rfl ?_
          have n13 : CER s (sF s 109 0 (Int32.ofInt 1)) x1 (Int32.ofInt 0) := by exact Or.inl ⟨rfl, by rw [← e_109_20]; exact (have a0 := in_u ro_109_20; have a1 := in_u i3x1; have a2 := in_u ((in_c 1 rfl)); have oc := oc_334_109; by omega)⟩
          exact g_ireturn (gd rfl) rfl rfl (hP _ _ ⟨(sF s 109 0 (Int32.ofInt 1)), hI6x3x18, (fr_sF rfl fr_rf), (Int32.ofInt 0), rfl, rfl, in_w 0 160 (in_c 0 rfl) rfl, n13⟩)
  · skip
    have i3x1 := z_ge 0 2147483647 c3x1 (i_rng x1) rfl
    refine g_iload_n 5 (gd rfl) rfl rfl ?_
    refine g_aload_n 6 (gd rfl) rfl rfl ?_
    refine g_getI 9 (gd rfl) rfl rfl rfl (fun z3x6 e3x6 => ?_)
    have q3x6 : u_109_20 = z3x6 := (e_109_20).trans e3x6.symm
    subst q3x6
    refine g_cmp_ge 12 16 (gd rfl) rfl rfl (fun c3x9 => ?_) (fun c3x9 => ?_)
    · skip
      refine g_iconst 0 17 (gd rfl) rfl rfl ?_
      refine g_ireturn (gd rfl) rfl (nb01 (in_w 0 1 (in_c 0 rfl) rfl)) (hp3 _ _ ?_)
      show GG _ _ _ _ _ _ _ _ [.int (Int32.ofInt 0), .ref (A 109)] _ _ _
      refine g_callv (X := _) (As := [.int (Int32.ofInt 0)]) (r := []) (b := A 109) (q := 109) 9 (gd rfl) rfl rfl rfl rfl rfl (ww_o rfl) (Nat.le_of_ble_eq_true rfl) (mc := 0) (ms := 0) (Nat.zero_le _) (Nat.zero_le _) (P := fun v u => _) ?_ (fun e u h => h) (fun v u h => h)
      intro po6 xx6 hp6 hx6
      refine g_enter2 (k := 271) (N := 300) (by first | exact dq1 hd rfl | exact dq0 hd rfl | exact dq2 hd rfl | exact dq3 hd rfl | omega) rfl (Nat.le_of_ble_eq_true rfl) ?_
      refine g_aload_n 1 (gd rfl) rfl rfl ?_
      refine g_iload_n 2 (gd rfl) rfl rfl ?_
      refine g_iconst 1 3 (gd rfl) rfl rfl ?_
      refine g_callv (X := _) (As := [.int (Int32.ofInt 0), .int (Int32.ofInt 1)]) (r := []) (b := A 109) (q := 109) 6 (gd rfl) rfl rfl rfl rfl rfl (ww_o rfl) (Nat.le_of_ble_eq_true rfl) (mc := 0) (ms := 0) (Nat.zero_le _) (Nat.zero_le _) (P := fun v u => _) ?_ (fun e u h => h) (fun v u h => h)
      intro po6x3 xx6x3 hp6x3 hx6x3
      refine g_enter2 (k := 270) (N := 300) (by first | exact dq1 hd rfl | exact dq0 hd rfl | exact dq2 hd rfl | exact dq3 hd rfl | omega) rfl (Nat.le_of_ble_eq_true rfl) ?_
      refine g_aload_n 1 (gd rfl) rfl rfl ?_
      refine g_iload_n 2 (gd rfl) rfl rfl ?_
      refine g_if_ne 5 9 (gd rfl) rfl rfl (fun c6x3x2 => ?_) (fun c6x3x2 => ?_)
      · skip
        exact zn_ne c6x3x2 (in_c 0 rfl) rfl
      · skip
        refine g_iconst 1 6 (gd rfl) rfl rfl ?_
        refine g_goto 18 (gd rfl) rfl ?_
        refine g_putI 21 (gd rfl) rfl rfl rfl rfl ?_
        have hI6x3x18 := inv_sF (q := 109) (j := 0) hI rfl (in_w 0 2 (in_c 1 rfl) rfl)
        refine g_aload_n 22 (gd rfl) rfl rfl ?_
        refine g_getI 25 (gd rfl) rfl rfl rfl (fun z6x3x22 e6x3x22 => ?_)
        have q6x3x22 : (Int32.ofInt 1) = z6x3x22 := (sF_get).trans e6x3x22.symm
        subst q6x3x22
        refine g_if_le 28 32 (gd rfl) rfl rfl (fun c6x3x25 => ?_) (fun c6x3x25 => ?_)
        · skip
          exact zn_le c6x3x25 (in_c 1 rfl) rfl
        · skip
          refine g_iconst 1 29 (gd rfl) rfl rfl ?_
          refine g_goto 33 (gd rfl) rfl ?_
          refine g_ireturn (gd rfl) rfl (nb01 (in_w 0 1 (in_c 1 rfl) rfl)) (hp6x3 _ _ ?_)
          show GG _ _ _ _ _ _ _ _ [.int (Int32.ofInt 1)] _ _ _
          refine g_ireturn (gd rfl) rfl (nb01 (in_w 0 1 (in_c 1 rfl) rfl)) (hp6 _ _ ?_)
          show GG _ _ _ _ _ _ _ _ [.int (Int32.ofInt 1)] _ _ _
          refine g_if_eq 12 14 (gd rfl) rfl rfl (fun c9 => ?_) (fun c9 => ?_)
          · skip
            exact zn_eq c9 (in_c 1 rfl) rfl
          · skip
            refine g_iconst 0 13 (gd rfl) rfl rfl ?_
            have n13 : CER s (sF s 109 0 (Int32.ofInt 1)) x1 (Int32.ofInt 0) := by exact Or.inl ⟨rfl, by rw [← e_109_20]; exact (have a0 := in_u ro_109_20; have a1 := in_u i3x1; have a2 := in_u ((in_c 1 rfl)); have oc := oc_334_109; by omega)⟩
            exact g_ireturn (gd rfl) rfl rfl (hP _ _ ⟨(sF s 109 0 (Int32.ofInt 1)), hI6x3x18, (fr_sF rfl fr_rf), (Int32.ofInt 0), rfl, rfl, in_w 0 160 (in_c 0 rfl) rfl, n13⟩)
    · skip
      have i3x9 := r_lt1 0 31 c3x9 i3x1 ro_109_20 rfl
      have i3x9a := r_lt2 1 32 c3x9 i3x1 ro_109_20 rfl
      refine g_iconst 1 13 (gd rfl) rfl rfl ?_
      refine g_goto 17 (gd rfl) rfl ?_
      refine g_ireturn (gd rfl) rfl (nb01 (in_w 0 1 (in_c 1 rfl) rfl)) (hp3 _ _ ?_)
      show GG _ _ _ _ _ _ _ _ [.int (Int32.ofInt 1), .ref (A 109)] _ _ _
      refine g_callv (X := _) (As := [.int (Int32.ofInt 1)]) (r := []) (b := A 109) (q := 109) 9 (gd rfl) rfl rfl rfl rfl rfl (ww_o rfl) (Nat.le_of_ble_eq_true rfl) (mc := 0) (ms := 0) (Nat.zero_le _) (Nat.zero_le _) (P := fun v u => _) ?_ (fun e u h => h) (fun v u h => h)
      intro po6 xx6 hp6 hx6
      refine g_enter2 (k := 271) (N := 300) (by first | exact dq1 hd rfl | exact dq0 hd rfl | exact dq2 hd rfl | exact dq3 hd rfl | omega) rfl (Nat.le_of_ble_eq_true rfl) ?_
      refine g_aload_n 1 (gd rfl) rfl rfl ?_
      refine g_iload_n 2 (gd rfl) rfl rfl ?_
      refine g_iconst 1 3 (gd rfl) rfl rfl ?_
      refine g_callv (X := _) (As := [.int (Int32.ofInt 1), .int (Int32.ofInt 1)]) (r := []) (b := A 109) (q := 109) 6 (gd rfl) rfl rfl rfl rfl rfl (ww_o rfl) (Nat.le_of_ble_eq_true rfl) (mc := 0) (ms := 0) (Nat.zero_le _) (Nat.zero_le _) (P := fun v u => _) ?_ (fun e u h => h) (fun v u h => h)
      intro po6x3 xx6x3 hp6x3 hx6x3
      refine g_enter2 (k := 270) (N := 300) (by first | exact dq1 hd rfl | exact dq0 hd rfl | exact dq2 hd rfl | exact dq3 hd rfl | omega) rfl (Nat.le_of_ble_eq_true rfl) ?_
      refine g_aload_n 1 (gd rfl) rfl rfl ?_
      refine g_iload_n 2 (gd rfl) rfl rfl ?_
      refine g_if_ne 5 9 (gd rfl) rfl rfl (fun c6x3x2 => ?_) (fun c6x3x2 => ?_)
      · skip
        refine g_iload_n 10 (gd rfl) rfl rfl ?_
        refine g_if_ne 13 17 (gd rfl) rfl rfl (fun c6x3x10 => ?_) (fun c6x3x10 => ?_)
        · skip
          refine g_iconst 0 18 (gd rfl) rfl rfl ?_
          refine g_putI 21 (gd rfl) rfl rfl rfl rfl ?_
          have hI6x3x18 := inv_sF (q := 109) (j := 0) hI rfl (in_w 0 2 (in_c 0 rfl) rfl)
          refine g_aload_n 22 (gd rfl) rfl rfl ?_
          refine g_getI 25 (gd rfl) rfl rfl rfl (fun z6x3x22 e6x3x22 => ?_)
          have q6x3x22 : (Int32.ofInt 0) = z6x3x22 := (sF_get).trans e6x3x22.symm
          subst q6x3x22
          refine g_if_le 28 32 (gd rfl) rfl rfl (fun c6x3x25 => ?_) (fun c6x3x25 => ?_)
          · skip
            refine g_iconst 0 33 (gd rfl) rfl rfl ?_
            refine g_ireturn (gd rfl) rfl (nb01 (in_w 0 1 (in_c 0 rfl) rfl)) (hp6x3 _ _ ?_)
            show GG _ _ _ _ _ _ _ _ [.int (Int32.ofInt 0)] _ _ _
            refine g_ireturn (gd rfl) rfl (nb01 (in_w 0 1 (in_c 0 rfl) rfl)) (hp6 _ _ ?_)
            show GG _ _ _ _ _ _ _ _ [.int (Int32.ofInt 0)] _ _ _
            refine g_if_eq 12 14 (gd rfl) rfl rfl (fun c9 => ?_) (fun c9 => ?_)
            · skip
              refine g_aload_n 15 (gd rfl) rfl rfl ?_
              refine g_getI 18 (gd rfl) rfl rfl rfl (fun z15 e15 => ?_)
              have q15 : u_109_20 = z15 := (sF_ne rfl (e_109_20)).trans e15.symm
              subst q15
              refine g_bipush 32 20 (gd rfl) rfl rfl ?_
              refine g_cmp_ne 23 27 (gd rfl) rfl rfl (fun c20 => ?_) (fun c20 => ?_)
              · skip
                have i20 := r_ne1 1 31 c20 i3x9a (in_c 32 rfl) rfl
                refine g_iconst 1 28 (gd rfl) rfl rfl ?_
                refine g_aload_n 29 (gd rfl) rfl rfl ?_
                refine g_getI 32 (gd rfl) rfl rfl rfl (fun z29 e29 => ?_)
                have q29 : u_109_20 = z29 := (sF_ne rfl (e_109_20)).trans e29.symm
                subst q29
                refine g_ishl 33 (gd rfl) rfl (fun z32 e32 => ?_)
                refine g_iconst 1 34 (gd rfl) rfl rfl ?_
                refine g_isub 35 (gd rfl) rfl (fun z34 e34 => ?_)
                refine g_istore_n 36 (gd rfl) rfl (Nat.le_of_ble_eq_true rfl) ?_
                refine g_iconst 0 37 (gd rfl) rfl rfl ?_
                refine g_istore_n 38 (gd rfl) rfl (Nat.le_of_ble_eq_true rfl) ?_
                refine g_iconst 0 39 (gd rfl) rfl rfl ?_
                refine g_istore 41 (gd rfl) rfl (Nat.le_of_ble_eq_true rfl) ?_
                have n41 : (x1).toInt < (u_109_20).toInt := by exact (have a0 := in_u i3x9; have a1 := in_u i20; have a2 := in_u ((in_c 0 rfl)); have oc := oc_334_109; by omega)
                have n41a : 0 ≤ (x1).toInt := by exact (have a0 := in_u i3x9; have a1 := in_u i20; have a2 := in_u ((in_c 0 rfl)); have oc := oc_334_109; by omega)
                have n41b : 161 ≤ ((Int32.ofInt 0)).toInt → ∀ j : Nat, (j : Int) < (u_109_20).toInt → bt z34 j = false := by first | exact fun h => g58_0 h c60 | (intro h; exfalso; have h0 : (Int32.ofInt 0).toInt = 0 := rfl; omega)
                have n41c : CRI (ARE (gvZ s) 0) (ARE (gvZ s) 1) (s.2.2.1 109 20).toInt (x1).toNatClampNeg (z34) ((Int32.ofInt 0)).toInt ((Int32.ofInt 0)).toInt := by exact cri_0 (fun k => by rw [← e_109_20]; exact all_a e32 e34 (in_w 0 31 i20 rfl) k) rfl (show (((x1).toNatClampNeg : Nat) : Int) < (s.2.2.1 109 20).toInt from (by show (((x1).toInt.toNat : Nat) : Int) < _; rw [← e_109_20]; exact (have a0 := in_u i3x9; have a1 := in_u i20; have a2 := in_u ((in_c 0 rfl)); have oc := oc_334_109; by omega)))
                have n41d : (((sF s 109 0 (Int32.ofInt 0))).2.2.1 109 0).toInt = 0 := by rfl
                have m41 : 200 - ((Int32.ofInt 0)).toInt < ((201 : Nat) : Int) := by exact (have a0 := in_u i3x9; have a1 := in_u i20; have a2 := in_u ((in_c 0 rfl)); have oc := oc_334_109; by omega)
                exact gg_w (by first | exact Nat.le_of_ble_eq_true rfl | omega) (gg_f (gf_cons rfl (gf_cons rfl (gf_cons rfl (gf_cons rfl (gf_cons rfl gf_nil))))) (ct41 201 (sF s 109 0 (Int32.ofInt 0)) z34 (Int32.ofInt 0) (Int32.ofInt 0) hI6x3x18 (fr_sF rfl fr_rf) (in_w 0 31 i3x9 rfl) (in_w 0 161 (in_c 0 rfl) rfl) (in_w 0 160 (in_c 0 rfl) rfl) n41 n41a n41b n41c n41d m41))
              · skip
                have i20 := r_eq1 32 32 c20 i3x9a (in_c 32 rfl) rfl
                refine g_iconst (-1) 24 (gd rfl) rfl rfl ?_
                refine g_goto 35 (gd rfl) rfl ?_
                refine g_istore_n 36 (gd rfl) rfl (Nat.le_of_ble_eq_true rfl) ?_
                refine g_iconst 0 37 (gd rfl) rfl rfl ?_
                refine g_istore_n 38 (gd rfl) rfl (Nat.le_of_ble_eq_true rfl) ?_
                refine g_iconst 0 39 (gd rfl) rfl rfl ?_
                refine g_istore 41 (gd rfl) rfl (Nat.le_of_ble_eq_true rfl) ?_
                have n41 : (x1).toInt < (u_109_20).toInt := by exact (have a0 := in_u i3x9; have a1 := in_u i20; have a2 := in_u ((in_c 0 rfl)); have a3 := in_u ((in_c (-1) rfl)); have oc := oc_334_109; by omega)
                have n41a : 0 ≤ (x1).toInt := by exact (have a0 := in_u i3x9; have a1 := in_u i20; have a2 := in_u ((in_c 0 rfl)); have a3 := in_u ((in_c (-1) rfl)); have oc := oc_334_109; by omega)
                have n41b : 161 ≤ ((Int32.ofInt 0)).toInt → ∀ j : Nat, (j : Int) < (u_109_20).toInt → bt (Int32.ofInt (-1)) j = false := by first | exact fun h => g58_0 h c60 | (intro h; exfalso; have h0 : (Int32.ofInt 0).toInt = 0 := rfl; omega)
                have n41c : CRI (ARE (gvZ s) 0) (ARE (gvZ s) 1) (s.2.2.1 109 20).toInt (x1).toNatClampNeg ((Int32.ofInt (-1))) ((Int32.ofInt 0)).toInt ((Int32.ofInt 0)).toInt := by exact cri_0 (fun k => by rw [← e_109_20]; exact all_b (by exact (have a0 := in_u i3x9; have a1 := in_u i20; have a2 := in_u ((in_c 0 rfl)); have a3 := in_u ((in_c (-1) rfl)); have oc := oc_334_109; by omega)) k) rfl (show (((x1).toNatClampNeg : Nat) : Int) < (s.2.2.1 109 20).toInt from (by show (((x1).toInt.toNat : Nat) : Int) < _; rw [← e_109_20]; exact (have a0 := in_u i3x9; have a1 := in_u i20; have a2 := in_u ((in_c 0 rfl)); have a3 := in_u ((in_c (-1) rfl)); have oc := oc_334_109; by omega)))
                have n41d : (((sF s 109 0 (Int32.ofInt 0))).2.2.1 109 0).toInt = 0 := by rfl
                have m41 : 200 - ((Int32.ofInt 0)).toInt < ((201 : Nat) : Int) := by exact (have a0 := in_u i3x9; have a1 := in_u i20; have a2 := in_u ((in_c 0 rfl)); have a3 := in_u ((in_c (-1) rfl)); have oc := oc_334_109; by omega)
                exact gg_w (by first | exact Nat.le_of_ble_eq_true rfl | omega) (gg_f (gf_cons rfl (gf_cons rfl (gf_cons rfl (gf_cons rfl (gf_cons rfl gf_nil))))) (ct41 201 (sF s 109 0 (Int32.ofInt 0)) (Int32.ofInt (-1)) (Int32.ofInt 0) (Int32.ofInt 0) hI6x3x18 (fr_sF rfl fr_rf) (in_w 0 31 i3x9 rfl) (in_w 0 161 (in_c 0 rfl) rfl) (in_w 0 160 (in_c 0 rfl) rfl) n41 n41a n41b n41c n41d m41))
            · skip
              exact zn_ne c9 (in_c 0 rfl) rfl
          · skip
            exact zn_gt c6x3x25 (in_c 0 rfl) rfl
        · skip
          exact zn_eq c6x3x10 (in_c 1 rfl) rfl
      · skip
        exact zn_eq c6x3x2 (in_c 1 rfl) rfl
